/-! rows -/
def zcnf (A : ZM) (s v k c : Int) : Int := if ¬ A 43 k = 0 ∧ A (45 + 2 * s) (k * 5 + 0) = 0 ∧ A (45 + 2 * s) (k * 5 + 1) = v then c + 1 else c
def zrwf (s v q k : Int) (x : ZM × Int) : ZM × Int := if ¬ x.1 43 k = 0 ∧ x.1 (45 + 2 * s) (k * 5 + 0) = 0 ∧ x.1 (45 + 2 * s) (k * 5 + 1) = v then (zup x.1 q x.2 (x.1 (45 + 2 * s) (k * 5 + 2)), x.2 + 1) else x
theorem zcnf_ge {A : ZM} {s v : Int} : ∀ (n : Nat) (k l c : Int), (l + 1 - k).toNat = n → c ≤ zfi (zcnf A s v) k l c ∧ zfi (zcnf A s v) k l c ≤ c + n
  | 0, k, l, c, h => by rw [zfi_N (by omega)]; omega
  | n + 1, k, l, c, h => by
    rw [zfi_S (by omega)]
    have h1 := zcnf_ge (A := A) (s := s) (v := v) n (k + 1) l (zcnf A s v k c) (by omega)
    have h2 : c ≤ zcnf A s v k c ∧ zcnf A s v k c ≤ c + 1 := by unfold zcnf; split <;> omega
    omega
theorem zrwf_id {s v q : Int} {A : ZM} : ∀ (n : Nat) (k l c : Int), (l + 1 - k).toNat = n → zfi (zcnf A s v) k l c ≤ c → zfi (zrwf s v q) k l (A, c) = (A, c)
  | 0, k, l, c, h, _ => zfi_N (by omega)
  | n + 1, k, l, c, h, h1 => by
    rw [zfi_S (by omega)] at h1
    have h2 := (zcnf_ge (A := A) (s := s) (v := v) n (k + 1) l (zcnf A s v k c) (by omega)).1
    by_cases hq : ¬ A 43 k = 0 ∧ A (45 + 2 * s) (k * 5 + 0) = 0 ∧ A (45 + 2 * s) (k * 5 + 1) = v
    · have e : zcnf A s v k c = c + 1 := if_pos hq
      omega
    · have e : zcnf A s v k c = c := if_neg hq
      rw [e] at h1
      rw [zfi_S (by omega), show zrwf s v q k (A, c) = (A, c) from if_neg hq]
      exact zrwf_id n (k + 1) l c (by omega) h1
theorem zcnf_congr {A A' : ZM} {s v : Int} (h1 : A' 43 = A 43) (h2 : A' (45 + 2 * s) = A (45 + 2 * s)) : zcnf A' s v = zcnf A s v := by
  funext k c
  simp only [zcnf, h1, h2]
set_option maxRecDepth 10000 in
theorem zl_27a {d : Nat} {A B : ZM} {s : Int} (hs : 0 ≤ s ∧ s < 3) (hA : zRg A) {v c l : Int} {q : Nat} {o6 o7 : Option Value} (hv : zrg v) (hcn : 0 ≤ A (44 + 2 * s) 1 ∧ A (44 + 2 * s) 1 ≤ 100) (hl : l = A (44 + 2 * s) 1) (k : Int) (hk : 1 ≤ k ∧ k ≤ A (44 + 2 * s) 1 + 1) {r : Option Value × XS} (hx : ∀ g k1, g = zfi (zcnf A s v) k l c → XG (d + 1) 27 50 [some (.ref (44 + 2 * s.toNat)), some (.ref q), some (zci v), some (.ref 43), some (zci g), some (zci k1), o6, o7] [] (zhp A B) r) : XG (d + 1) 27 7 [some (.ref (44 + 2 * s.toNat)), some (.ref q), some (zci (v)), some (.ref 43), some (zci (c)), some (zci (k)), o6, o7] [] (zhp A B) r := by
  refine xg_step rfl rfl (fun k => rfl) ?_
  refine xg_step rfl rfl (fun k => rfl) ?_
  refine xg_get rfl rfl (zha (by omega)) (zc_Counter hs) rfl rfl ?_
  refine zg_gt rfl rfl (fun x y k => rfl) (by first | assumption | exact hA _ _ | exact hB _ _ | exact zrg_max (by assumption) (hA _ _) | (constructor <;> omega)) (by first | assumption | exact hA _ _ | exact hB _ _ | exact zrg_max (by assumption) (hA _ _) | (constructor <;> omega)) (fun hc => ?_) (fun hc => ?_)
  ·
    exact hx _ _ (zfi_N (by omega)).symm
  ·
    refine xg_step rfl rfl (fun k => rfl) ?_
    refine xg_step rfl rfl (fun k => rfl) ?_
    refine zg_len (x := 101) rfl (zha (by decide)) zc_marks rfl ?_
    refine zg_lt rfl rfl (fun x y k => rfl) (by first | assumption | exact hA _ _ | exact hB _ _ | exact zrg_max (by assumption) (hA _ _) | (constructor <;> omega)) (by first | assumption | exact hA _ _ | exact hB _ _ | exact zrg_max (by assumption) (hA _ _) | (constructor <;> omega)) (fun hc => ?_) (fun hc => ?_)
    ·
      refine xg_step rfl rfl (fun k => rfl) ?_
      refine xg_step rfl rfl (fun k => rfl) ?_
      refine zg_ald (.inr ⟨rfl, rfl⟩) (zha (by decide)) zc_marks (by decide) ⟨by omega, by omega⟩ rfl ?_
      refine zg_eq0 rfl rfl (fun x k => rfl) (by first | assumption | exact hA _ _ | exact hB _ _ | exact zrg_max (by assumption) (hA _ _) | (constructor <;> omega)) (fun hc => ?_) (fun hc => ?_)
      ·
        refine zg_inc rfl rfl rfl rfl ?_
        refine xg_step rfl rfl (fun k => rfl) ?_
        exact zl_27a hs hA hv hcn hl (k + 1) (by omega) (fun g k1 hg => hx g k1 (hg.trans (zfi_s (by omega) (by unfold zcnf; (repeat' split) <;> first | rfl | omega)).symm))
      ·
        refine xg_step rfl rfl (fun k => rfl) ?_
        refine xg_step rfl rfl (fun k => rfl) ?_
        refine xg_step rfl rfl (fun k => rfl) ?_
        refine xg_step rfl rfl (fun k => rfl) ?_
        refine zg_cvb rfl rfl rfl (Nat.le_of_ble_eq_true rfl) (zha (by omega)) (zc_Counter hs) rfl rfl (zr_21 hs hA (by first | assumption | exact hA _ _ | exact hB _ _ | exact zrg_max (by assumption) (hA _ _) | (constructor <;> omega)) (by first | assumption | exact hA _ _ | exact hB _ _ | exact zrg_max (by assumption) (hA _ _) | (constructor <;> omega)) (by first | assumption | exact hA _ _ | exact hB _ _ | exact zrg_max (by assumption) (hA _ _) | (constructor <;> omega)) (by omega)) (fun hc => ?_) (fun hc => ?_)
        ·
          refine xg_step rfl rfl (fun k => rfl) ?_
          refine zg_inc rfl rfl rfl rfl ?_
          refine zg_inc rfl rfl rfl rfl ?_
          refine xg_step rfl rfl (fun k => rfl) ?_
          exact zl_27a hs hA hv hcn hl (k + 1) (by omega) (fun g k1 hg => hx g k1 (hg.trans (zfi_s (by omega) (by unfold zcnf; (repeat' split) <;> first | rfl | omega)).symm))
        ·
          refine xg_step rfl rfl (fun k => rfl) ?_
          refine zg_inc rfl rfl rfl rfl ?_
          refine xg_step rfl rfl (fun k => rfl) ?_
          exact zl_27a hs hA hv hcn hl (k + 1) (by omega) (fun g k1 hg => hx g k1 (hg.trans (zfi_s (by omega) (by unfold zcnf; (repeat' split) <;> first | rfl | omega)).symm))
    ·
      exact hx _ _ (zfi_N (by omega)).symm
termination_by (l + 1 - k).toNat
decreasing_by all_goals omega
set_option maxRecDepth 10000 in
theorem zl_27b {d : Nat} {A B : ZM} {s : Int} (hs : 0 ≤ s ∧ s < 3) (hA : zRg A) {v c l ln k : Int} {q q1 : Nat} (hv : zrg v) (hcn : 0 ≤ A (44 + 2 * s) 1 ∧ A (44 + 2 * s) 1 ≤ 100) (hl : l = A (44 + 2 * s) 1) (hzq : zrow q = true) (hzq1 : 144 ≤ q1) (hn : (q1 : Int) < 144 + A (-2) 0) (hat : 0 ≤ c ∧ ln ≤ A (-1) q1 ∧ A (-1) q1 < 100000) (hlen : ln = zfi (zcnf A s v) k l c) (hk : 1 ≤ k ∧ k ≤ A (44 + 2 * s) 1 + 1) {r : Option Value × XS} (hr : r = (some (.ref q1), zhp (zfi (zrwf s v q1) k l (A, c)).1 B)) : XG (d + 1) 27 73 [some (.ref (44 + 2 * s.toNat)), some (.ref q), some (zci (v)), some (.ref 43), some (zci (ln)), some (.ref q1), some (zci (c)), some (zci (k))] [] (zhp A B) r := by
  have hzr : zrow q1 = true := by simp only [zrow, Bool.or_eq_true, decide_eq_true_eq]; omega
  have hge := zcnf_ge (A := A) (s := s) (v := v) _ k l c rfl
  refine xg_step rfl rfl (fun k => rfl) ?_
  refine xg_step rfl rfl (fun k => rfl) ?_
  refine xg_get rfl rfl (zha (by omega)) (zc_Counter hs) rfl rfl ?_
  refine zg_gt rfl rfl (fun x y k => rfl) (by first | assumption | exact hA _ _ | exact hB _ _ | exact zrg_max (by assumption) (hA _ _) | (constructor <;> omega)) (by first | assumption | exact hA _ _ | exact hB _ _ | exact zrg_max (by assumption) (hA _ _) | (constructor <;> omega)) (fun hc => ?_) (fun hc => ?_)
  ·
    refine xg_step rfl rfl (fun k => rfl) ?_
    refine zg_aret rfl rfl rfl ?_
    first | rw [hr, zfi_N (by omega)] | rw [hr, zrwf_id _ k l c rfl (by omega)]
  ·
    refine xg_step rfl rfl (fun k => rfl) ?_
    refine xg_step rfl rfl (fun k => rfl) ?_
    refine zg_len (x := 101) rfl (zha (by decide)) zc_marks rfl ?_
    refine zg_lt rfl rfl (fun x y k => rfl) (by first | assumption | exact hA _ _ | exact hB _ _ | exact zrg_max (by assumption) (hA _ _) | (constructor <;> omega)) (by first | assumption | exact hA _ _ | exact hB _ _ | exact zrg_max (by assumption) (hA _ _) | (constructor <;> omega)) (fun hc => ?_) (fun hc => ?_)
    ·
      refine xg_step rfl rfl (fun k => rfl) ?_
      refine xg_step rfl rfl (fun k => rfl) ?_
      refine zg_lt rfl rfl (fun x y k => rfl) (by first | assumption | exact hA _ _ | exact hB _ _ | exact zrg_max (by assumption) (hA _ _) | (constructor <;> omega)) (by first | assumption | exact hA _ _ | exact hB _ _ | exact zrg_max (by assumption) (hA _ _) | (constructor <;> omega)) (fun hc => ?_) (fun hc => ?_)
      ·
        refine xg_step rfl rfl (fun k => rfl) ?_
        refine xg_step rfl rfl (fun k => rfl) ?_
        refine zg_ald (.inr ⟨rfl, rfl⟩) (zha (by decide)) zc_marks (by decide) ⟨by omega, by omega⟩ rfl ?_
        refine zg_eq0 rfl rfl (fun x k => rfl) (by first | assumption | exact hA _ _ | exact hB _ _ | exact zrg_max (by assumption) (hA _ _) | (constructor <;> omega)) (fun hc => ?_) (fun hc => ?_)
        ·
          refine zg_inc rfl rfl rfl rfl ?_
          refine xg_step rfl rfl (fun k => rfl) ?_
          exact zl_27b hs hA hv hcn hl hzq hzq1 hn hat (by rw [zfi_s (by omega) (show zcnf A s v k c = c from by unfold zcnf; (repeat' split) <;> first | rfl | omega)] at hlen; exact hlen) (by omega) (hr.trans (by rw [zfi_s (by omega) (show zrwf s v q1 k (A, c) = (A, c) from if_neg (by dsimp only; omega))]))
        ·
          refine xg_step rfl rfl (fun k => rfl) ?_
          refine xg_step rfl rfl (fun k => rfl) ?_
          refine xg_step rfl rfl (fun k => rfl) ?_
          refine xg_step rfl rfl (fun k => rfl) ?_
          refine zg_cvb rfl rfl rfl (Nat.le_of_ble_eq_true rfl) (zha (by omega)) (zc_Counter hs) rfl rfl (zr_21 hs hA (by first | assumption | exact hA _ _ | exact hB _ _ | exact zrg_max (by assumption) (hA _ _) | (constructor <;> omega)) (by first | assumption | exact hA _ _ | exact hB _ _ | exact zrg_max (by assumption) (hA _ _) | (constructor <;> omega)) (by first | assumption | exact hA _ _ | exact hB _ _ | exact zrg_max (by assumption) (hA _ _) | (constructor <;> omega)) (by omega)) (fun hc => ?_) (fun hc => ?_)
          ·
            refine xg_step rfl rfl (fun k => rfl) ?_
            refine xg_step rfl rfl (fun k => rfl) ?_
            refine xg_step rfl rfl (fun k => rfl) ?_
            refine xg_step rfl rfl (fun k => rfl) ?_
            refine xg_get rfl rfl (zha (by omega)) (zc_Counter hs) rfl rfl ?_
            refine xg_step rfl rfl (fun k => rfl) ?_
            refine xg_step rfl rfl (fun k => rfl) ?_
            refine zg_mul rfl ?_
            refine xg_step rfl rfl (fun k => rfl) ?_
            refine zg_add rfl ?_
            refine zg_ald (.inl ⟨rfl, rfl⟩) (zha (by omega)) (zc_cells hs) (by decide) ⟨by omega, by omega⟩ rfl ?_
            refine zg_ast (.inl ⟨rfl, rfl⟩) (zhb (by omega)) (zc_rowcell hzr) (by omega) ⟨by omega, by omega⟩ (zhwA (by omega) (zw_W (by assumption))) ?_
            refine zg_inc rfl rfl rfl rfl ?_
            refine zg_inc rfl rfl rfl rfl ?_
            refine xg_step rfl rfl (fun k => rfl) ?_
            exact zl_27b (l := l) hs (zRg_up hA (by first | assumption | exact hA _ _ | exact hB _ _ | exact zrg_max (by assumption) (hA _ _) | (constructor <;> omega))) hv (by rw [zup_ne (by omega)]; omega) (by rw [zup_ne (by omega)]; omega) hzq hzq1 (by rw [zup_ne (by omega)]; omega) (by rw [zup_ne (by omega)]; omega) (by rw [zcnf_congr (zup_row (by omega)) (zup_row (by omega))]; rw [zfi_s (by omega) (show zcnf A s v k c = c + 1 from by unfold zcnf; (repeat' split) <;> first | rfl | omega)] at hlen; exact hlen) (by rw [zup_ne (by omega)]; omega) (hr.trans (by rw [zfi_s (by omega) (show zrwf s v q1 k (A, c) = (zup A q1 c (A (45 + 2 * s) (k * 5 + 2)), c + 1) from if_pos (by dsimp only; omega))]))
          ·
            refine xg_step rfl rfl (fun k => rfl) ?_
            refine zg_inc rfl rfl rfl rfl ?_
            refine xg_step rfl rfl (fun k => rfl) ?_
            exact zl_27b hs hA hv hcn hl hzq hzq1 hn hat (by rw [zfi_s (by omega) (show zcnf A s v k c = c from by unfold zcnf; (repeat' split) <;> first | rfl | omega)] at hlen; exact hlen) (by omega) (hr.trans (by rw [zfi_s (by omega) (show zrwf s v q1 k (A, c) = (A, c) from if_neg (by dsimp only; omega))]))
      ·
        refine xg_step rfl rfl (fun k => rfl) ?_
        refine zg_aret rfl rfl rfl ?_
        first | rw [hr, zfi_N (by omega)] | rw [hr, zrwf_id _ k l c rfl (by omega)]
    ·
      refine xg_step rfl rfl (fun k => rfl) ?_
      refine zg_aret rfl rfl rfl ?_
      first | rw [hr, zfi_N (by omega)] | rw [hr, zrwf_id _ k l c rfl (by omega)]
termination_by (l + 1 - k).toNat
decreasing_by all_goals omega
/-- a row behind another -/
def zrb (A : ZM) (s v q : Int) : ZM := (zfi (zrwf s v (144 + A (-2) 0)) 1 (A (44 + 2 * s) 1) (zcpy (znew A (zfi (zcnf A s v) 1 (A (44 + 2 * s) 1) (A (-1) q))) (144 + A (-2) 0) q (A (-1) q), A (-1) q)).1
theorem znew_rg {A : ZM} {n : Int} (h : zRg A) (h0 : 0 ≤ A (-2) 0 ∧ A (-2) 0 ≤ 1000) (h1 : 0 ≤ A (-2) 1 ∧ A (-2) 1 ≤ 100000) (hn : 0 ≤ n ∧ n ≤ 100000) : zRg (znew A n) := fun b j => by
  unfold znew
  (repeat' split) <;> first | exact h _ _ | (constructor <;> omega)
theorem zcpy_rg {A : ZM} {q1 q0 l : Int} (h : zRg A) : zRg (zcpy A q1 q0 l) := fun b j => by
  unfold zcpy
  split <;> exact h _ _
theorem zcpy_row {A : ZM} {q1 q0 l b : Int} (h : b ≠ q1) : zcpy A q1 q0 l b = A b := by
  funext j
  unfold zcpy
  rw [if_neg (fun q => h q.1)]
theorem znew_1 {A : ZM} {n j : Int} (h : 0 ≤ A (-2) 0) (hj : j ≠ 144 + A (-2) 0) : znew A n (-1) j = A (-1) j := by
  unfold znew
  rw [if_neg (by omega), if_neg (by omega), if_neg (by omega), if_neg (by omega)]
theorem znew_2 {A : ZM} {n : Int} (h : 0 ≤ A (-2) 0) : znew A n (-1) (144 + A (-2) 0) = n ∧ znew A n (-2) 0 = A (-2) 0 + 1 ∧ znew A n (-2) 1 = A (-2) 1 + n := by
  unfold znew
  refine ⟨?_, ?_, ?_⟩
  · rw [if_neg (by omega), if_pos (by omega)]
  · rw [if_neg (by omega), if_neg (by omega), if_pos (by omega)]
  · rw [if_neg (by omega), if_neg (by omega), if_neg (by omega), if_pos (by omega)]
set_option maxRecDepth 10000 in
theorem zm_27 {d : Nat} {A B : ZM} {s : Int} (hs : 0 ≤ s ∧ s < 3) (hA : zRg A) {v g : Int} {q : Nat} {k1 : Int} {o6 o7 : Option Value} (hv : zrg v) (hcn : 0 ≤ A (44 + 2 * s) 1 ∧ A (44 + 2 * s) 1 ≤ 100) (hzq : zrow q = true) (hq : (q : Int) < 144 + A (-2) 0) (hlq : 0 ≤ A (-1) q ∧ A (-1) q ≤ 1000) (h0 : 0 ≤ A (-2) 0 ∧ A (-2) 0 ≤ 1000) (h1 : 0 ≤ A (-2) 1 ∧ A (-2) 1 ≤ 100000) (hg : g = zfi (zcnf A s v) 1 (A (44 + 2 * s) 1) (A (-1) q)) : XG (d + 1) 27 50 [some (.ref (44 + 2 * s.toNat)), some (.ref q), some (zci v), some (.ref 43), some (zci g), some (zci k1), o6, o7] [] (zhp A B) (some (.ref (144 + (A (-2) 0).toNat)), zhp (zrb A s v q) B) := by
  have hge := zcnf_ge (A := A) (s := s) (v := v) _ 1 (A (44 + 2 * s) 1) (A (-1) q) rfl
  rw [← hg] at hge
  have hq1 : ((144 + (A (-2) 0).toNat : Nat) : Int) = 144 + A (-2) 0 := by omega
  have hz1 : zrow (144 + (A (-2) 0).toNat) = true := by simp only [zrow, Bool.or_eq_true, decide_eq_true_eq]; omega
  obtain ⟨n1, n2, n3⟩ := znew_2 (A := A) (n := g) h0.1
  have nq : znew A g (-1) q = A (-1) q := znew_1 h0.1 (by omega)
  refine xg_step rfl rfl (fun k => rfl) ?_
  refine zg_newi (q := 144 + (A (-2) 0).toNat) rfl (by omega) h0.1 h1.1 hq1 ?_
  iterate 5 refine xg_step rfl rfl (fun k => rfl) ?_
  refine xg_step rfl rfl (fun k => rfl) ?_
  refine zg_len (x := A (-1) q) rfl (zhb (by rw [n2]; omega)) (zc_rowcell hzq) (by rw [nq]; omega) ?_
  refine zg_cpy rfl rfl (Nat.le_of_ble_eq_true rfl) (by omega) (zhb (by rw [n2]; omega)) (zhb (by rw [n2, hq1]; omega)) hzq hz1 (by rw [nq]; omega) (by rw [hq1, n1]; omega) ?_
  refine xg_step rfl rfl (fun k => rfl) ?_
  have r1 : ∀ b : Int, b ≠ 144 + A (-2) 0 → b ≠ -1 → b ≠ -2 → zcpy (znew A g) ((144 + (A (-2) 0).toNat : Nat) : Int) q (A (-1) q) b = A b := fun b e1 e2 e3 => (zcpy_row (by rw [hq1]; exact e1)).trans (znew_row e1 e2 e3)
  have r2 : zcpy (znew A g) ((144 + (A (-2) 0).toNat : Nat) : Int) q (A (-1) q) (-1) = znew A g (-1) := zcpy_row (by omega)
  have r3 : zcpy (znew A g) ((144 + (A (-2) 0).toNat : Nat) : Int) q (A (-1) q) (-2) = znew A g (-2) := zcpy_row (by omega)
  refine zg_len (x := A (-1) q) rfl (zhb (by rw [r3, n2]; omega)) (zc_rowcell hzq) (by rw [r2, nq]; omega) ?_
  iterate 3 refine xg_step rfl rfl (fun k => rfl) ?_
  have e1 : zcpy (znew A g) ((144 + (A (-2) 0).toNat : Nat) : Int) q (A (-1) q) (44 + 2 * s) = A (44 + 2 * s) := r1 _ (by omega) (by omega) (by omega)
  have e2 : zcpy (znew A g) ((144 + (A (-2) 0).toNat : Nat) : Int) q (A (-1) q) (45 + 2 * s) = A (45 + 2 * s) := r1 _ (by omega) (by omega) (by omega)
  have e3 : zcpy (znew A g) ((144 + (A (-2) 0).toNat : Nat) : Int) q (A (-1) q) 43 = A 43 := r1 _ (by omega) (by omega) (by omega)
  refine zl_27b (l := A (44 + 2 * s) 1) hs (zcpy_rg (znew_rg hA h0 h1 (by omega))) hv (by rw [e1]; exact hcn) (by rw [e1]) hzq (by omega) (by rw [r3, n2, hq1]; omega) (by rw [r2, hq1, n1]; omega) (by rw [zcnf_congr e3 e2]; exact hg) (by rw [e1]; omega) ?_
  unfold zrb
  rw [← hg, hq1]
set_option maxRecDepth 10000 in
theorem zr_27 {d : Nat} {A B : ZM} {s : Int} (hs : 0 ≤ s ∧ s < 3) (hA : zRg A) {v : Int} {q : Nat} (hv : zrg v) (hcn : 0 ≤ A (44 + 2 * s) 1 ∧ A (44 + 2 * s) 1 ≤ 100) (hzq : zrow q = true) (hq : (q : Int) < 144 + A (-2) 0) (hlq : 0 ≤ A (-1) q ∧ A (-1) q ≤ 1000) (h0 : 0 ≤ A (-2) 0 ∧ A (-2) 0 ≤ 1000) (h1 : 0 ≤ A (-2) 1 ∧ A (-2) 1 ≤ 100000) : XR (d + 2) 27 [.ref (44 + 2 * s.toNat), .ref q, zci (v), .ref 43] (zhp A B) (some (.ref (144 + (A (-2) 0).toNat)), zhp (zrb A s v q) B) := by
  refine XR.of (Nat.le_of_ble_eq_true rfl) rfl ?_
  refine xg_step rfl rfl (fun k => rfl) ?_
  refine zg_len (x := A (-1) q) rfl (zhb (by omega)) (zc_rowcell hzq) (Int.toNat_of_nonneg (by omega)) ?_
  refine xg_step rfl rfl (fun k => rfl) ?_
  refine xg_step rfl rfl (fun k => rfl) ?_
  refine xg_step rfl rfl (fun k => rfl) ?_
  exact zl_27a hs hA hv hcn rfl 1 (by omega) (fun g k1 hg => zm_27 hs hA hv hcn hzq hq hlq h0 h1 hg)
abbrev zLV (A : ZM) (s v e : Int) : Int := zfi (zlvf A s v) 1 (min (A (44 + 2 * s) 1) (e - 1)) 0
theorem zlv_rg {A : ZM} {s v : Int} : ∀ (n : Nat) (k l g : Int), (l + 1 - k).toNat = n → 0 ≤ g → g < v → 0 ≤ zfi (zlvf A s v) k l g ∧ zfi (zlvf A s v) k l g < v
  | 0, k, l, g, h, h1, h2 => by rw [zfi_N (by omega)]; exact ⟨h1, h2⟩
  | n + 1, k, l, g, h, h1, h2 => by
    rw [zfi_S (by omega)]
    refine zlv_rg n (k + 1) l _ (by omega) ?_ ?_ <;> (unfold zlvf; split <;> omega)
theorem zfi_keep {α : Type} {f : Int → α → α} {P : α → Prop} (h : ∀ k a, P a → P (f k a)) : ∀ (n : Nat) (k l : Int) (a : α), (l + 1 - k).toNat = n → P a → P (zfi f k l a)
  | 0, k, l, a, e, ha => by rw [zfi_N (by omega)]; exact ha
  | n + 1, k, l, a, e, ha => by
    rw [zfi_S (by omega)]
    exact zfi_keep h n (k + 1) l _ (by omega) (h k a ha)
def zclm (i : Int) (A : ZM) : ZM := zup A 43 i 0
/-- only marks change -/
def zmko (A M : ZM) : Prop := zRg M ∧ ∀ b, b ≠ 43 → M b = A b
theorem zmko_clm {A M : ZM} (h : zmko A M) {k l : Int} : zmko A (zfi zclm k l M) := zfi_keep (P := zmko A) (fun k a ⟨q1, q2⟩ => ⟨zRg_up q1 ⟨by decide, by decide⟩, fun b hb => (zup_row hb).trans (q2 b hb)⟩) _ k l M rfl h
theorem zmko_mkf {A M : ZM} (h : zmko A M) {s v k l : Int} : zmko A (zfi (zmkf s v) k l M) := zfi_keep (P := zmko A) (fun k a ⟨q1, q2⟩ => by
    have q3 : ∀ i, zmko A (zup a 43 i 1) := fun i => ⟨zRg_up q1 ⟨by decide, by decide⟩, fun b hb => (zup_row hb).trans (q2 b hb)⟩
    unfold zmkf
    (repeat' split) <;> first | exact q3 _ | exact ⟨q1, q2⟩) _ k l M rfl h
theorem zrb_row {A : ZM} {s v q b : Int} (h : b ≠ 144 + A (-2) 0) : zrb A s v q b = znew A (zfi (zcnf A s v) 1 (A (44 + 2 * s) 1) (A (-1) q)) b := by
  unfold zrb
  refine Eq.trans (zfi_keep (f := zrwf s v (144 + A (-2) 0)) (P := fun x : ZM × Int => x.1 b = zcpy (znew A (zfi (zcnf A s v) 1 (A (44 + 2 * s) 1) (A (-1) q))) (144 + A (-2) 0) q (A (-1) q) b) (fun k x hx => ?_) _ _ _ _ rfl rfl) (zcpy_row h)
  unfold zrwf
  split
  · exact (zup_row h).trans hx
  · exact hx
/-- the row of a view, made as its OPENING is entered -/
def zmrM (A : ZM) (bs a b : Int) : ZM := zfi (zmkf (b % 3) bs) 1 (min (A (44 + 2 * (b % 3)) 1) (b / 3 - 1)) (zfi (zmkf (a % 3) bs) 1 (min (A (44 + 2 * (a % 3)) 1) (a / 3 - 1)) (zfi zclm 0 100 A))
def zmr (A : ZM) (v a b : Int) : ZM :=
  let bs := max (zLV A (a % 3) v (a / 3)) (zLV A (b % 3) v (b / 3))
  zup (zrb (zmrM A bs a b) (bs % 3) bs (A 11 bs)) 11 v (144 + A (-2) 0)
set_option maxRecDepth 10000 in
theorem zm_13 {d : Nat} {A B : ZM} (hA : zRg A) (hcN : ∀ s, 0 ≤ s ∧ s < 3 → 0 ≤ A (44 + 2 * s) 1 ∧ A (44 + 2 * s) 1 ≤ 100) {v a b : Int} (hv : 1 ≤ v ∧ v < 31) (ha : 0 ≤ a ∧ a < 1000) (hb : 0 ≤ b ∧ b < 1000) (h0 : 0 ≤ A (-2) 0 ∧ A (-2) 0 ≤ 1000) (h1 : 0 ≤ A (-2) 1 ∧ A (-2) 1 ≤ 100000) (hrw : ∀ w, 0 ≤ w ∧ w < 31 → (12 ≤ A 11 w ∧ A 11 w ≤ 42 ∨ 144 ≤ A 11 w ∧ A 11 w < 144 + A (-2) 0) ∧ 0 ≤ A (-1) (A 11 w) ∧ A (-1) (A 11 w) ≤ 1000) {bs : Int} {o7 : Option Value} (hbs : bs = max (zLV A (a % 3) v (a / 3)) (zLV A (b % 3) v (b / 3))) : XG (d + 3) 13 74 [some (.ref 8), some (zci v), some (zci a), some (zci b), some (.ref (44 + 2 * (a % 3).toNat)), some (.ref (44 + 2 * (b % 3).toNat)), some (zci bs), o7] [] (zhp (zfi zclm 0 100 A) B) (none, zhp (zmr A v a b) B) := by
  have ra : 0 ≤ zLV A (a % 3) v (a / 3) ∧ zLV A (a % 3) v (a / 3) < v := zlv_rg (A := A) (s := a % 3) (v := v) _ 1 (min (A (44 + 2 * (a % 3)) 1) (a / 3 - 1)) 0 rfl (by omega) (by omega)
  have rb : 0 ≤ zLV A (b % 3) v (b / 3) ∧ zLV A (b % 3) v (b / 3) < v := zlv_rg (A := A) (s := b % 3) (v := v) _ 1 (min (A (44 + 2 * (b % 3)) 1) (b / 3 - 1)) 0 rfl (by omega) (by omega)
  have hb0 : 0 ≤ bs ∧ bs < v := by omega
  have k0 : zmko A A := ⟨hA, fun _ _ => rfl⟩
  have k1 : zmko A (zfi zclm 0 100 A) := zmko_clm k0
  have k2 : zmko A (zfi (zmkf (a % 3) bs) 1 (min (A (44 + 2 * (a % 3)) 1) (a / 3 - 1)) (zfi zclm 0 100 A)) := zmko_mkf k1
  have k3 : zmko A (zmrM A bs a b) := zmko_mkf k2
  obtain ⟨w1, w2, w3⟩ := hrw bs (by omega)
  have zq : zrow (A 11 bs).toNat = true := by simp only [zrow, Bool.or_eq_true, Bool.and_eq_true, decide_eq_true_eq]; omega
  have zc : (((A 11 bs).toNat : Nat) : Int) = A 11 bs := by omega
  iterate 3 refine xg_step rfl rfl (fun k => rfl) ?_
  refine zg_csi rfl rfl (by decide) rfl rfl (Nat.le_of_ble_eq_true rfl) rfl (zr_102 k1.1 (by omega)) ?_
  refine xg_step rfl rfl (fun k => rfl) ?_
  refine xg_get rfl rfl (zha (by decide)) zc_Book rfl rfl ?_
  refine zg_cvv rfl rfl rfl (Nat.le_of_ble_eq_true rfl) (zha (by omega)) (zc_Counter (s := a % 3) (by omega)) rfl rfl (zr_26 (s := a % 3) (by omega) k1.1 (v := bs) (e := a / 3) (by constructor <;> omega) (by constructor <;> omega) (by rw [k1.2 _ (by omega)]; exact hcN _ (by omega))) ?_
  rw [k1.2 (44 + 2 * (a % 3)) (by omega)]
  iterate 3 refine xg_step rfl rfl (fun k => rfl) ?_
  refine zg_csi rfl rfl (by decide) rfl rfl (Nat.le_of_ble_eq_true rfl) rfl (zr_102 k2.1 (by omega)) ?_
  refine xg_step rfl rfl (fun k => rfl) ?_
  refine xg_get rfl rfl (zha (by decide)) zc_Book rfl rfl ?_
  refine zg_cvv rfl rfl rfl (Nat.le_of_ble_eq_true rfl) (zha (by omega)) (zc_Counter (s := b % 3) (by omega)) rfl rfl (zr_26 (s := b % 3) (by omega) k2.1 (v := bs) (e := b / 3) (by constructor <;> omega) (by constructor <;> omega) (by rw [k2.2 _ (by omega)]; exact hcN _ (by omega))) ?_
  rw [k2.2 (44 + 2 * (b % 3)) (by omega)]
  show XG _ _ _ _ _ (zhp (zmrM A bs a b) B) _
  refine xg_step rfl rfl (fun k => rfl) ?_
  refine xg_get rfl rfl (zha (by decide)) zc_Book rfl rfl ?_
  iterate 2 refine xg_step rfl rfl (fun k => rfl) ?_
  refine xg_get rfl rfl (zha (by decide)) zc_Book rfl rfl ?_
  refine xg_step rfl rfl (fun k => rfl) ?_
  refine zg_csi rfl rfl (by decide) rfl rfl (Nat.le_of_ble_eq_true rfl) rfl (zr_99 k3.1 (by omega)) ?_
  refine zg_aald rfl (zha (by decide)) zc_counters (by decide) (by decide) ⟨by omega, by omega⟩ (if_pos (by omega)) ?_
  refine xg_step rfl rfl (fun k => rfl) ?_
  refine xg_get rfl rfl (zha (by decide)) zc_Book rfl rfl ?_
  refine xg_step rfl rfl (fun k => rfl) ?_
  refine zg_aald (b := (A 11 bs).toNat) rfl (zha (by decide)) zc_rows (by decide) (by decide) ⟨by omega, by omega⟩ ((if_pos (by omega)).trans (by rw [k3.2 11 (by omega), Int.toNat_of_nonneg hb0.1])) ?_
  iterate 2 refine xg_step rfl rfl (fun k => rfl) ?_
  refine xg_get rfl rfl (zha (by decide)) zc_Book rfl rfl ?_
  refine zg_cvi rfl rfl rfl (Nat.le_of_ble_eq_true rfl) (zha (by omega)) (zc_Counter (s := bs % 3) (by omega)) rfl rfl (zr_27 (s := bs % 3) (by omega) k3.1 (v := bs) (q := (A 11 bs).toNat) (by constructor <;> omega) (by rw [k3.2 _ (by omega)]; exact hcN _ (by omega)) zq (by rw [k3.2 (-2) (by omega)]; omega) (by rw [k3.2 (-1) (by omega), zc]; exact ⟨w2, w3⟩) (by rw [k3.2 (-2) (by omega)]; exact h0) (by rw [k3.2 (-2) (by omega)]; exact h1)) ?_
  rw [k3.2 (-2) (by omega), zc]
  have e1 : zrb (zmrM A bs a b) (bs % 3) bs (A 11 bs) (-2) 0 = A (-2) 0 + 1 := by
    rw [zrb_row (by rw [k3.2 (-2) (by omega)]; omega), (znew_2 (by rw [k3.2 (-2) (by omega)]; omega)).2.1, k3.2 (-2) (by omega)]
  have e2 : ((144 + (A (-2) 0).toNat : Nat) : Int) = 144 + A (-2) 0 := by omega
  refine zg_aast (q := 144 + (A (-2) 0).toNat) rfl (by omega) (zhb (by rw [e1]; omega)) (by simp only [zrow, Bool.or_eq_true, decide_eq_true_eq]; omega) ?_
  refine zg_ret rfl rfl ?_
  unfold zmr
  dsimp only
  rw [← hbs, e2]
set_option maxRecDepth 10000 in
theorem zl_13 {d : Nat} {A B : ZM} (hA : zRg A) (hcN : ∀ s, 0 ≤ s ∧ s < 3 → 0 ≤ A (44 + 2 * s) 1 ∧ A (44 + 2 * s) 1 ≤ 100) {v a b : Int} (hv : 1 ≤ v ∧ v < 31) (ha : 0 ≤ a ∧ a < 1000) (hb : 0 ≤ b ∧ b < 1000) (h0 : 0 ≤ A (-2) 0 ∧ A (-2) 0 ≤ 1000) (h1 : 0 ≤ A (-2) 1 ∧ A (-2) 1 ≤ 100000) (hrw : ∀ w, 0 ≤ w ∧ w < 31 → (12 ≤ A 11 w ∧ A 11 w ≤ 42 ∨ 144 ≤ A 11 w ∧ A 11 w < 144 + A (-2) 0) ∧ 0 ≤ A (-1) (A 11 w) ∧ A (-1) (A 11 w) ≤ 1000) {bs : Int} (hbs : bs = max (zLV A (a % 3) v (a / 3)) (zLV A (b % 3) v (b / 3))) (k : Int) (hk : 0 ≤ k ∧ k ≤ 101) {M : ZM} (hM : zRg M) (hMk : zfi zclm k 100 M = zfi zclm 0 100 A) : XG (d + 3) 13 50 [some (.ref 8), some (zci (v)), some (zci (a)), some (zci (b)), some (.ref (44 + 2 * (a % 3).toNat)), some (.ref (44 + 2 * (b % 3).toNat)), some (zci (bs)), some (zci (k))] [] (zhp M B) (none, zhp (zmr A v a b) B) := by
  have _ := hM
  refine xg_step rfl rfl (fun k => rfl) ?_
  refine xg_step rfl rfl (fun k => rfl) ?_
  refine xg_get rfl rfl (zha (by decide)) zc_Book rfl rfl ?_
  refine zg_len (x := 101) rfl (zha (by decide)) zc_marks rfl ?_
  refine zg_lt rfl rfl (fun x y k => rfl) (by first | assumption | exact hA _ _ | exact hB _ _ | exact zrg_max (by assumption) (hA _ _) | (constructor <;> omega)) (by first | assumption | exact hA _ _ | exact hB _ _ | exact zrg_max (by assumption) (hA _ _) | (constructor <;> omega)) (fun hc => ?_) (fun hc => ?_)
  ·
    refine xg_step rfl rfl (fun k => rfl) ?_
    refine xg_get rfl rfl (zha (by decide)) zc_Book rfl rfl ?_
    refine xg_step rfl rfl (fun k => rfl) ?_
    refine xg_step rfl rfl (fun k => rfl) ?_
    refine zg_ast (.inr ⟨rfl, rfl, by omega⟩) (zha (by decide)) zc_marks (by decide) ⟨by omega, by omega⟩ (zhwA (by omega) zw_marks) ?_
    refine zg_inc rfl rfl rfl rfl ?_
    refine xg_step rfl rfl (fun k => rfl) ?_
    exact zl_13 hA hcN hv ha hb h0 h1 hrw hbs (k + 1) (by omega) (zRg_up hM (by first | assumption | exact hA _ _ | exact hB _ _ | exact zrg_max (by assumption) (hA _ _) | (constructor <;> omega))) ((zfi_s (by omega) rfl).symm.trans hMk)
  ·
    rw [zfi_N (by omega)] at hMk
    rw [hMk]
    exact zm_13 hA hcN hv ha hb h0 h1 hrw hbs
termination_by (101 - k).toNat
decreasing_by all_goals omega
set_option maxRecDepth 10000 in
theorem zr_13 {d : Nat} {A B : ZM} (hA : zRg A) (hcN : ∀ s, 0 ≤ s ∧ s < 3 → 0 ≤ A (44 + 2 * s) 1 ∧ A (44 + 2 * s) 1 ≤ 100) {v a b : Int} (hv : 1 ≤ v ∧ v < 31) (ha : 0 ≤ a ∧ a < 1000) (hb : 0 ≤ b ∧ b < 1000) (h0 : 0 ≤ A (-2) 0 ∧ A (-2) 0 ≤ 1000) (h1 : 0 ≤ A (-2) 1 ∧ A (-2) 1 ≤ 100000) (hrw : ∀ w, 0 ≤ w ∧ w < 31 → (12 ≤ A 11 w ∧ A 11 w ≤ 42 ∨ 144 ≤ A 11 w ∧ A 11 w < 144 + A (-2) 0) ∧ 0 ≤ A (-1) (A 11 w) ∧ A (-1) (A 11 w) ≤ 1000) : XR (d + 4) 13 [.ref 8, zci (v), zci (a), zci (b)] (zhp A B) (none, zhp (zmr A v a b) B) := by
  have ra := zlv_rg (A := A) (s := a % 3) (v := v) _ 1 (min (A (44 + 2 * (a % 3)) 1) (a / 3 - 1)) 0 rfl (by omega) (by omega)
  have rb := zlv_rg (A := A) (s := b % 3) (v := v) _ 1 (min (A (44 + 2 * (b % 3)) 1) (b / 3 - 1)) 0 rfl (by omega) (by omega)
  refine XR.of (Nat.le_of_ble_eq_true rfl) rfl ?_
  refine xg_step rfl rfl (fun k => rfl) ?_
  refine xg_get rfl rfl (zha (by decide)) zc_Book rfl rfl ?_
  refine xg_step rfl rfl (fun k => rfl) ?_
  refine zg_csi rfl rfl (by decide) rfl rfl (Nat.le_of_ble_eq_true rfl) rfl (zr_101 hA (by omega)) ?_
  refine zg_aald rfl (zha (by decide)) zc_counters (by decide) (by decide) ⟨by omega, by omega⟩ (if_pos (by omega)) ?_
  refine xg_step rfl rfl (fun k => rfl) ?_
  refine xg_step rfl rfl (fun k => rfl) ?_
  refine xg_get rfl rfl (zha (by decide)) zc_Book rfl rfl ?_
  refine xg_step rfl rfl (fun k => rfl) ?_
  refine zg_csi rfl rfl (by decide) rfl rfl (Nat.le_of_ble_eq_true rfl) rfl (zr_101 hA (by omega)) ?_
  refine zg_aald rfl (zha (by decide)) zc_counters (by decide) (by decide) ⟨by omega, by omega⟩ (if_pos (by omega)) ?_
  refine xg_step rfl rfl (fun k => rfl) ?_
  refine xg_step rfl rfl (fun k => rfl) ?_
  refine xg_step rfl rfl (fun k => rfl) ?_
  refine xg_step rfl rfl (fun k => rfl) ?_
  refine zg_csi rfl rfl (by decide) rfl rfl (Nat.le_of_ble_eq_true rfl) rfl (zr_102 hA (by omega)) ?_
  refine zg_cvi rfl rfl rfl (Nat.le_of_ble_eq_true rfl) (zha (by omega)) (zc_Counter (by omega)) rfl rfl (zr_25 (by omega) hA (by first | assumption | exact hA _ _ | exact hB _ _ | exact zrg_max (by assumption) (hA _ _) | (constructor <;> omega)) (by first | assumption | exact hA _ _ | exact hB _ _ | exact zrg_max (by assumption) (hA _ _) | (constructor <;> omega)) (hcN _ (by omega))) ?_
  refine xg_step rfl rfl (fun k => rfl) ?_
  refine xg_step rfl rfl (fun k => rfl) ?_
  refine xg_step rfl rfl (fun k => rfl) ?_
  refine zg_csi rfl rfl (by decide) rfl rfl (Nat.le_of_ble_eq_true rfl) rfl (zr_102 hA (by omega)) ?_
  refine zg_cvi rfl rfl rfl (Nat.le_of_ble_eq_true rfl) (zha (by omega)) (zc_Counter (by omega)) rfl rfl (zr_25 (by omega) hA (by first | assumption | exact hA _ _ | exact hB _ _ | exact zrg_max (by assumption) (hA _ _) | (constructor <;> omega)) (by first | assumption | exact hA _ _ | exact hB _ _ | exact zrg_max (by assumption) (hA _ _) | (constructor <;> omega)) (hcN _ (by omega))) ?_
  refine zg_max rfl rfl (Nat.le_of_ble_eq_true rfl) (by first | assumption | exact hA _ _ | exact hB _ _ | exact zrg_max (by assumption) (hA _ _) | (constructor <;> omega)) (by first | assumption | exact hA _ _ | exact hB _ _ | exact zrg_max (by assumption) (hA _ _) | (constructor <;> omega)) ?_
  refine xg_step rfl rfl (fun k => rfl) ?_
  refine xg_step rfl rfl (fun k => rfl) ?_
  refine xg_step rfl rfl (fun k => rfl) ?_
  exact zl_13 hA hcN hv ha hb h0 h1 hrw rfl 0 (by omega) hA rfl
