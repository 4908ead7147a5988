set_option maxRecDepth 10000 in
theorem zr_93 {d : Nat} {A B : ZM} (hA : zRg A) {r : Int} (hr : 0 ≤ r ∧ r < A 1 6) (hr2 : zrg r) : XR (d + 2) 93 [.ref 0, zci (r)] (zhp A B) (none, zhp A B) := by
  refine XR.of (Nat.le_of_ble_eq_true rfl) rfl ?_
  refine xg_step rfl rfl (fun k => rfl) ?_
  refine xg_get rfl rfl (zha (by decide)) zc_House rfl rfl ?_
  refine xg_step rfl rfl (fun k => rfl) ?_
  refine zg_cvb rfl rfl rfl (Nat.le_of_ble_eq_true rfl) (zha (by decide)) zc_Requests rfl rfl (zr_35 hA (by first | assumption | exact hA _ _ | exact hB _ _ | exact zrg_max (by assumption) (hA _ _) | (constructor <;> omega))) (fun hc => ?_) (fun hc => ?_)
  ·
    refine xg_step rfl rfl (fun k => rfl) ?_
    refine zg_ret rfl rfl ?_
    first | rfl | exact (by omega : False).elim
  ·
    refine xg_step rfl rfl (fun k => rfl) ?_
    exact (by omega : False).elim
set_option maxRecDepth 10000 in
theorem zr_94 {d : Nat} {A B : ZM} (hA : zRg A) {p k : Int} (hp : 0 ≤ p ∧ p < 3) (hk : 1 ≤ k ∧ k ≤ A (44 + 2 * p) 1) (hk2 : zrg k) : XR (d + 3) 94 [.ref 0, zci (p), zci (k)] (zhp A B) (none, zhp A B) := by
  refine XR.of (Nat.le_of_ble_eq_true rfl) rfl ?_
  refine xg_step rfl rfl (fun k => rfl) ?_
  refine zg_csv rfl rfl (by decide) rfl rfl (Nat.le_of_ble_eq_true rfl) rfl (zr_92 hA (by omega)) ?_
  refine xg_step rfl rfl (fun k => rfl) ?_
  refine xg_get rfl rfl (zha (by decide)) zc_House rfl rfl ?_
  refine xg_step rfl rfl (fun k => rfl) ?_
  refine xg_step rfl rfl (fun k => rfl) ?_
  refine zg_cvb rfl rfl rfl (Nat.le_of_ble_eq_true rfl) (zha (by decide)) zc_Book rfl rfl (zr_5 hA (by omega) (by first | assumption | exact hA _ _ | exact hB _ _ | exact zrg_max (by assumption) (hA _ _) | (constructor <;> omega))) (fun hc => ?_) (fun hc => ?_)
  ·
    refine xg_step rfl rfl (fun k => rfl) ?_
    refine zg_ret rfl rfl ?_
    first | rfl | exact (by omega : False).elim
  ·
    refine xg_step rfl rfl (fun k => rfl) ?_
    exact (by omega : False).elim
set_option maxRecDepth 10000 in
theorem zr_95 {d : Nat} {A B : ZM} (hA : zRg A) {p q : Int} (hp : zrg p) (hq : zrg q) (hpq : p ≠ q) : XR (d + 1) 95 [zci (p), zci (q)] (zhp A B) (none, zhp A B) := by
  refine XR.of (Nat.le_of_ble_eq_true rfl) rfl ?_
  refine xg_step rfl rfl (fun k => rfl) ?_
  refine xg_step rfl rfl (fun k => rfl) ?_
  refine zg_eq rfl rfl (fun x y k => rfl) (by first | assumption | exact hA _ _ | exact hB _ _ | exact zrg_max (by assumption) (hA _ _) | (constructor <;> omega)) (by first | assumption | exact hA _ _ | exact hB _ _ | exact zrg_max (by assumption) (hA _ _) | (constructor <;> omega)) (fun hc => ?_) (fun hc => ?_)
  ·
    exact (by omega : False).elim
  ·
    refine zg_ret rfl rfl ?_
    first | rfl | exact (by omega : False).elim
set_option maxRecDepth 10000 in
theorem zr_96 {d : Nat} {A B : ZM} (hA : zRg A) {v : Int} (hv : 0 ≤ v ∧ v < 31) : XR (d + 1) 96 [zci (v)] (zhp A B) (none, zhp A B) := by
  refine XR.of (Nat.le_of_ble_eq_true rfl) rfl ?_
  refine xg_step rfl rfl (fun k => rfl) ?_
  refine zg_lt0 rfl rfl (fun x k => rfl) (by first | assumption | exact hA _ _ | exact hB _ _ | exact zrg_max (by assumption) (hA _ _) | (constructor <;> omega)) (fun hc => ?_) (fun hc => ?_)
  ·
    exact (by omega : False).elim
  ·
    refine xg_step rfl rfl (fun k => rfl) ?_
    refine zg_bi rfl (by decide) ?_
    refine zg_lt rfl rfl (fun x y k => rfl) (by first | assumption | exact hA _ _ | exact hB _ _ | exact zrg_max (by assumption) (hA _ _) | (constructor <;> omega)) (by first | assumption | exact hA _ _ | exact hB _ _ | exact zrg_max (by assumption) (hA _ _) | (constructor <;> omega)) (fun hc => ?_) (fun hc => ?_)
    ·
      refine zg_ret rfl rfl ?_
      first | rfl | exact (by omega : False).elim
    ·
      exact (by omega : False).elim
set_option maxRecDepth 10000 in
theorem zr_97 {d : Nat} {A B : ZM} (hA : zRg A) {p : Int} (hp : 0 ≤ p ∧ p < 3) (hz : ∀ s, 0 ≤ s ∧ s < 3 → A (56 + 17 * s) 9 = 0 ∨ A (56 + 17 * s) 9 = 1) (hl : ¬ A (56 + 17 * p) 9 = 0) : XR (d + 2) 97 [.ref 0, zci (p)] (zhp A B) (none, zhp A B) := by
  refine XR.of (Nat.le_of_ble_eq_true rfl) rfl ?_
  refine xg_step rfl rfl (fun k => rfl) ?_
  refine xg_get rfl rfl (zha (by decide)) zc_House rfl rfl ?_
  refine xg_step rfl rfl (fun k => rfl) ?_
  refine zg_aald rfl (zha (by decide)) zc_servers (by decide) (by decide) ⟨by omega, by omega⟩ (if_pos (by omega)) ?_
  refine zg_cvi rfl rfl rfl (Nat.le_of_ble_eq_true rfl) (zha (by omega)) (zc_Server hp) rfl rfl (zr_45 hp hA (hz _ (by omega))) ?_
  refine zg_eq0 rfl rfl (fun x k => rfl) (by first | assumption | exact hA _ _ | exact hB _ _ | exact zrg_max (by assumption) (hA _ _) | (constructor <;> omega)) (fun hc => ?_) (fun hc => ?_)
  ·
    exact (by omega : False).elim
  ·
    refine zg_ret rfl rfl ?_
    first | rfl | exact (by omega : False).elim
abbrev zCS (A : ZM) (kd a : Int) : Prop := (kd = 0 ∧ 0 ≤ a ∧ a < A 1 6) ∨ (kd = 1 ∧ 0 ≤ a ∧ a ≤ 200) ∨ (kd = 2 ∧ a = 0) ∨ (kd = 3 ∧ 0 ≤ a ∧ a ≤ 600)
set_option maxRecDepth 10000 in
theorem zr_98 {d : Nat} {A B : ZM} (hA : zRg A) {kd a : Int} (hkd : 0 ≤ kd ∧ kd < 4) (hkr : zrg kd) (ha : zrg a) : XR (d + 2) 98 [.ref 0, zci (kd), zci (a)] (zhp A B) (some (zci (zb2 (zCS A kd a))), zhp A B) := by
  refine XR.of (Nat.le_of_ble_eq_true rfl) rfl ?_
  refine xg_step rfl rfl (fun k => rfl) ?_
  refine zg_swi 0 rfl rfl (fun k => rfl) (fun hc => ?_) (fun hc => ?_)
  ·
    refine xg_step rfl rfl (fun k => rfl) ?_
    refine xg_get rfl rfl (zha (by decide)) zc_House rfl rfl ?_
    refine xg_step rfl rfl (fun k => rfl) ?_
    refine zg_cvb rfl rfl rfl (Nat.le_of_ble_eq_true rfl) (zha (by decide)) zc_Requests rfl rfl (zr_35 hA (by first | assumption | exact hA _ _ | exact hB _ _ | exact zrg_max (by assumption) (hA _ _) | (constructor <;> omega))) (fun hc => ?_) (fun hc => ?_)
    ·
      refine zg_iret rfl rfl (zfitZ (by omega)) ?_
      exact zl1 (by simp only [zCS]; omega)
    ·
      refine zg_iret rfl rfl (zfitZ (by omega)) ?_
      exact zl0 (by simp only [zCS]; omega)
  refine zg_swi 1 rfl rfl (fun k => rfl) (fun hc => ?_) (fun hc => ?_)
  ·
    refine xg_step rfl rfl (fun k => rfl) ?_
    refine zg_lt0 rfl rfl (fun x k => rfl) (by first | assumption | exact hA _ _ | exact hB _ _ | exact zrg_max (by assumption) (hA _ _) | (constructor <;> omega)) (fun hc => ?_) (fun hc => ?_)
    ·
      refine xg_step rfl rfl (fun k => rfl) ?_
      refine zg_iret rfl rfl (zfitZ (by omega)) ?_
      exact zl0 (by simp only [zCS]; omega)
    ·
      refine xg_step rfl rfl (fun k => rfl) ?_
      refine zg_si rfl (by decide) ?_
      refine zg_gt rfl rfl (fun x y k => rfl) (by first | assumption | exact hA _ _ | exact hB _ _ | exact zrg_max (by assumption) (hA _ _) | (constructor <;> omega)) (by first | assumption | exact hA _ _ | exact hB _ _ | exact zrg_max (by assumption) (hA _ _) | (constructor <;> omega)) (fun hc => ?_) (fun hc => ?_)
      ·
        refine xg_step rfl rfl (fun k => rfl) ?_
        refine zg_iret rfl rfl (zfitZ (by omega)) ?_
        exact zl0 (by simp only [zCS]; omega)
      ·
        refine xg_step rfl rfl (fun k => rfl) ?_
        refine xg_step rfl rfl (fun k => rfl) ?_
        refine zg_iret rfl rfl (zfitZ (by omega)) ?_
        exact zl1 (by simp only [zCS]; omega)
  refine zg_swi 2 rfl rfl (fun k => rfl) (fun hc => ?_) (fun hc => ?_)
  ·
    refine xg_step rfl rfl (fun k => rfl) ?_
    refine zg_eq0 rfl rfl (fun x k => rfl) (by first | assumption | exact hA _ _ | exact hB _ _ | exact zrg_max (by assumption) (hA _ _) | (constructor <;> omega)) (fun hc => ?_) (fun hc => ?_)
    ·
      refine xg_step rfl rfl (fun k => rfl) ?_
      refine xg_step rfl rfl (fun k => rfl) ?_
      refine zg_iret rfl rfl (zfitZ (by omega)) ?_
      exact zl1 (by simp only [zCS]; omega)
    ·
      refine xg_step rfl rfl (fun k => rfl) ?_
      refine zg_iret rfl rfl (zfitZ (by omega)) ?_
      exact zl0 (by simp only [zCS]; omega)
  refine zg_swd rfl (by first | assumption | exact hA _ _ | exact hB _ _ | exact zrg_max (by assumption) (hA _ _) | (constructor <;> omega)) (by omega) (fun k => rfl) ?_
  refine xg_step rfl rfl (fun k => rfl) ?_
  refine zg_lt0 rfl rfl (fun x k => rfl) (by first | assumption | exact hA _ _ | exact hB _ _ | exact zrg_max (by assumption) (hA _ _) | (constructor <;> omega)) (fun hc => ?_) (fun hc => ?_)
  ·
    refine xg_step rfl rfl (fun k => rfl) ?_
    refine zg_iret rfl rfl (zfitZ (by omega)) ?_
    exact zl0 (by simp only [zCS]; omega)
  ·
    refine xg_step rfl rfl (fun k => rfl) ?_
    refine zg_si rfl (by decide) ?_
    refine zg_gt rfl rfl (fun x y k => rfl) (by first | assumption | exact hA _ _ | exact hB _ _ | exact zrg_max (by assumption) (hA _ _) | (constructor <;> omega)) (by first | assumption | exact hA _ _ | exact hB _ _ | exact zrg_max (by assumption) (hA _ _) | (constructor <;> omega)) (fun hc => ?_) (fun hc => ?_)
    ·
      refine xg_step rfl rfl (fun k => rfl) ?_
      refine zg_iret rfl rfl (zfitZ (by omega)) ?_
      exact zl0 (by simp only [zCS]; omega)
    ·
      refine xg_step rfl rfl (fun k => rfl) ?_
      refine xg_step rfl rfl (fun k => rfl) ?_
      refine zg_iret rfl rfl (zfitZ (by omega)) ?_
      exact zl1 (by simp only [zCS]; omega)
set_option maxRecDepth 10000 in
theorem zr_76 {d : Nat} {A B : ZM} (hA : zRg A) {c k q n : Int} (hc4 : 0 ≤ c ∧ c < 4) (hk : 0 ≤ k ∧ k ≤ 2) (hq : 0 ≤ q ∧ q < 4) (hm : 0 ≤ A 1 6 ∧ A 1 6 < 60) : XR (d + 3) 76 [.ref 0, zci (c), zci (k), zci (q), zci (n)] (zhp A B) (some (zci (A 1 6 + 1 - 1)), zhp (zrqA A c k q n) B) := by
  refine XR.of (Nat.le_of_ble_eq_true rfl) rfl ?_
  refine xg_step rfl rfl (fun k => rfl) ?_
  refine zg_lt0 rfl rfl (fun x k => rfl) (by first | assumption | exact hA _ _ | exact hB _ _ | exact zrg_max (by assumption) (hA _ _) | (constructor <;> omega)) (fun hc => ?_) (fun hc => ?_)
  ·
    exact (by omega : False).elim
  ·
    refine xg_step rfl rfl (fun k => rfl) ?_
    refine xg_step rfl rfl (fun k => rfl) ?_
    refine zg_lt rfl rfl (fun x y k => rfl) (by first | assumption | exact hA _ _ | exact hB _ _ | exact zrg_max (by assumption) (hA _ _) | (constructor <;> omega)) (by first | assumption | exact hA _ _ | exact hB _ _ | exact zrg_max (by assumption) (hA _ _) | (constructor <;> omega)) (fun hc => ?_) (fun hc => ?_)
    ·
      refine xg_step rfl rfl (fun k => rfl) ?_
      refine zg_lt0 rfl rfl (fun x k => rfl) (by first | assumption | exact hA _ _ | exact hB _ _ | exact zrg_max (by assumption) (hA _ _) | (constructor <;> omega)) (fun hc => ?_) (fun hc => ?_)
      ·
        exact (by omega : False).elim
      ·
        refine xg_step rfl rfl (fun k => rfl) ?_
        refine xg_step rfl rfl (fun k => rfl) ?_
        refine zg_gt rfl rfl (fun x y k => rfl) (by first | assumption | exact hA _ _ | exact hB _ _ | exact zrg_max (by assumption) (hA _ _) | (constructor <;> omega)) (by first | assumption | exact hA _ _ | exact hB _ _ | exact zrg_max (by assumption) (hA _ _) | (constructor <;> omega)) (fun hc => ?_) (fun hc => ?_)
        ·
          exact (by omega : False).elim
        ·
          refine xg_step rfl rfl (fun k => rfl) ?_
          refine zg_lt0 rfl rfl (fun x k => rfl) (by first | assumption | exact hA _ _ | exact hB _ _ | exact zrg_max (by assumption) (hA _ _) | (constructor <;> omega)) (fun hc => ?_) (fun hc => ?_)
          ·
            exact (by omega : False).elim
          ·
            refine xg_step rfl rfl (fun k => rfl) ?_
            refine xg_step rfl rfl (fun k => rfl) ?_
            refine zg_lt rfl rfl (fun x y k => rfl) (by first | assumption | exact hA _ _ | exact hB _ _ | exact zrg_max (by assumption) (hA _ _) | (constructor <;> omega)) (by first | assumption | exact hA _ _ | exact hB _ _ | exact zrg_max (by assumption) (hA _ _) | (constructor <;> omega)) (fun hc => ?_) (fun hc => ?_)
            ·
              refine xg_step rfl rfl (fun k => rfl) ?_
              refine xg_get rfl rfl (zha (by decide)) zc_House rfl rfl ?_
              refine zg_cvb rfl rfl rfl (Nat.le_of_ble_eq_true rfl) (zha (by decide)) zc_Requests rfl rfl (zr_34 hA) (fun hc => ?_) (fun hc => ?_)
              ·
                refine xg_step rfl rfl (fun k => rfl) ?_
                exact (by omega : False).elim
              ·
                refine xg_step rfl rfl (fun k => rfl) ?_
                refine xg_step rfl rfl (fun k => rfl) ?_
                refine xg_get rfl rfl (zha (by decide)) zc_House rfl rfl ?_
                refine xg_step rfl rfl (fun k => rfl) ?_
                refine xg_step rfl rfl (fun k => rfl) ?_
                refine xg_step rfl rfl (fun k => rfl) ?_
                refine xg_step rfl rfl (fun k => rfl) ?_
                refine zg_cvi rfl rfl rfl (Nat.le_of_ble_eq_true rfl) (zha (by decide)) zc_Requests rfl rfl (zr_36 hA (by omega) (by omega)) ?_
                refine zg_iret rfl rfl zfitI ?_
                first | rfl | exact (by omega : False).elim
            ·
              exact (by omega : False).elim
    ·
      exact (by omega : False).elim
theorem zr_53y {d : Nat} {A B : ZM} {s : Int} (hs : 0 ≤ s ∧ s < 3) (hG : zG A) (hid : A (56 + 17 * s) 0 = s) (hvw : 0 ≤ A (56 + 17 * s) 7 ∧ A (56 + 17 * s) 7 < 31) {r : Int} (hr : 0 ≤ r ∧ r < 60) (hf : A (44 + 2 * s) 1 < 100) (hcd : zPc A s r) : XR (d + 6) 53 [.ref (56 + 17 * s.toNat), zci r] (zhp A B) (some (zci 1), zhp (zentF A s 0 (A (56 + 17 * s) 7) r 0) B) := by
  have h := zr_53t (d := d) (B := B) hs hG hid hvw hr hf
  rw [zb2_t hcd, if_pos hcd] at h
  exact h
theorem zr_53n {d : Nat} {A B : ZM} {s : Int} (hs : 0 ≤ s ∧ s < 3) (hG : zG A) (hid : A (56 + 17 * s) 0 = s) (hvw : 0 ≤ A (56 + 17 * s) 7 ∧ A (56 + 17 * s) 7 < 31) {r : Int} (hr : 0 ≤ r ∧ r < 60) (hf : A (44 + 2 * s) 1 < 100) (hcd : ¬ zPc A s r) : XR (d + 6) 53 [.ref (56 + 17 * s.toNat), zci r] (zhp A B) (some (zci 0), zhp A B) := by
  have h := zr_53t (d := d) (B := B) hs hG hid hvw hr hf
  rw [zb2_f hcd, if_neg hcd] at h
  exact h
theorem zr_54' {d : Nat} {A B : ZM} {s : Int} (hs : 0 ≤ s ∧ s < 3) (hA : zRg A) {p k : Int} (hp : 0 ≤ p ∧ p < 3) (hk : 1 ≤ k ∧ k < 101) : XR (d + 2) 54 [.ref (56 + 17 * s.toNat), zci p, zci k] (zhp A B) (none, zhp (zup A (58 + 17 * s) (p * 101 + k) 1) B) := by
  have h := zr_54 (d := d) (B := B) hs hA hp (k := k) ⟨by omega, by omega⟩
  rw [if_pos hk] at h
  exact h
set_option maxRecDepth 10000 in
theorem zr_77t {d : Nat} {A B : ZM} (hG : zG A) {p r : Int} (hp : 0 ≤ p ∧ p < 3) (hid : A (56 + 17 * p) 0 = p) (hvw : 0 ≤ A (56 + 17 * p) 7 ∧ A (56 + 17 * p) 7 < 31) (hr : 0 ≤ r ∧ r < A 1 6) (hq60 : A 1 6 ≤ 60) (hf : A (44 + 2 * p) 1 < 100) (hcd : zPc A p r) (hok : zRok p 300 (zentF A p 0 (A (56 + 17 * p) 7) r 0)) : XR (d + 9) 77 [.ref 0, zci (r), zci (p)] (zhp A B) (some (zci 1), zhp (zRA p 300 (zentF A p 0 (A (56 + 17 * p) 7) r 0) 0).2 B) := by
  have hA := hG.1
  refine XR.of (Nat.le_of_ble_eq_true rfl) rfl ?_
  refine xg_step rfl rfl (fun k => rfl) ?_
  refine xg_step rfl rfl (fun k => rfl) ?_
  refine zg_cvv rfl rfl rfl (Nat.le_of_ble_eq_true rfl) (zha (by decide)) zc_House rfl rfl (zr_93 hA (by omega) (by first | assumption | exact hA _ _ | exact hB _ _ | exact zrg_max (by assumption) (hA _ _) | (constructor <;> omega))) ?_
  refine xg_step rfl rfl (fun k => rfl) ?_
  refine zg_csv rfl rfl (by decide) rfl rfl (Nat.le_of_ble_eq_true rfl) rfl (zr_92 hA (by omega)) ?_
  refine xg_step rfl rfl (fun k => rfl) ?_
  refine xg_get rfl rfl (zha (by decide)) zc_House rfl rfl ?_
  refine xg_step rfl rfl (fun k => rfl) ?_
  refine zg_aald rfl (zha (by decide)) zc_servers (by decide) (by decide) ⟨by omega, by omega⟩ (if_pos (by omega)) ?_
  refine xg_step rfl rfl (fun k => rfl) ?_
  refine xg_step rfl rfl (fun k => rfl) ?_
  refine xg_step rfl rfl (fun k => rfl) ?_
  refine zg_cvi rfl rfl rfl (Nat.le_of_ble_eq_true rfl) (zha (by omega)) (zc_Server hp) rfl rfl (zr_53y hp hG hid hvw (by omega) hf hcd) ?_
  refine xg_step rfl rfl (fun k => rfl) ?_
  refine xg_step rfl rfl (fun k => rfl) ?_
  refine zg_cvi rfl rfl rfl (Nat.le_of_ble_eq_true rfl) (zha (by omega)) (zc_Server hp) rfl rfl (zr_55 hp hok) ?_
  refine xg_step rfl rfl (fun k => rfl) ?_
  refine xg_step rfl rfl (fun k => rfl) ?_
  refine zg_iret rfl rfl zfitI ?_
  rfl
set_option maxRecDepth 10000 in
theorem zr_77n {d : Nat} {A B : ZM} (hG : zG A) {p r : Int} (hp : 0 ≤ p ∧ p < 3) (hid : A (56 + 17 * p) 0 = p) (hvw : 0 ≤ A (56 + 17 * p) 7 ∧ A (56 + 17 * p) 7 < 31) (hr : 0 ≤ r ∧ r < A 1 6) (hq60 : A 1 6 ≤ 60) (hf : A (44 + 2 * p) 1 < 100) (hcd : ¬ zPc A p r) : XR (d + 9) 77 [.ref 0, zci (r), zci (p)] (zhp A B) (some (zci 0), zhp A B) := by
  have hA := hG.1
  refine XR.of (Nat.le_of_ble_eq_true rfl) rfl ?_
  refine xg_step rfl rfl (fun k => rfl) ?_
  refine xg_step rfl rfl (fun k => rfl) ?_
  refine zg_cvv rfl rfl rfl (Nat.le_of_ble_eq_true rfl) (zha (by decide)) zc_House rfl rfl (zr_93 hA (by omega) (by first | assumption | exact hA _ _ | exact hB _ _ | exact zrg_max (by assumption) (hA _ _) | (constructor <;> omega))) ?_
  refine xg_step rfl rfl (fun k => rfl) ?_
  refine zg_csv rfl rfl (by decide) rfl rfl (Nat.le_of_ble_eq_true rfl) rfl (zr_92 hA (by omega)) ?_
  refine xg_step rfl rfl (fun k => rfl) ?_
  refine xg_get rfl rfl (zha (by decide)) zc_House rfl rfl ?_
  refine xg_step rfl rfl (fun k => rfl) ?_
  refine zg_aald rfl (zha (by decide)) zc_servers (by decide) (by decide) ⟨by omega, by omega⟩ (if_pos (by omega)) ?_
  refine xg_step rfl rfl (fun k => rfl) ?_
  refine xg_step rfl rfl (fun k => rfl) ?_
  refine xg_step rfl rfl (fun k => rfl) ?_
  refine zg_cvi rfl rfl rfl (Nat.le_of_ble_eq_true rfl) (zha (by omega)) (zc_Server hp) rfl rfl (zr_53n hp hG hid hvw (by omega) hf hcd) ?_
  refine xg_step rfl rfl (fun k => rfl) ?_
  refine xg_step rfl rfl (fun k => rfl) ?_
  refine zg_iret rfl rfl zfitI ?_
  rfl
set_option maxRecDepth 10000 in
theorem zr_77f {d : Nat} {A B : ZM} (hG : zG A) {p r : Int} (hp : 0 ≤ p ∧ p < 3) (hid : A (56 + 17 * p) 0 = p) (hvw : 0 ≤ A (56 + 17 * p) 7 ∧ A (56 + 17 * p) 7 < 31) (hr : 0 ≤ r ∧ r < A 1 6) (hq60 : A 1 6 ≤ 60) (hf : ¬ A (44 + 2 * p) 1 < 100) : XR (d + 9) 77 [.ref 0, zci (r), zci (p)] (zhp A B) (some (zci 0), zhp A B) := by
  have hA := hG.1
  refine XR.of (Nat.le_of_ble_eq_true rfl) rfl ?_
  refine xg_step rfl rfl (fun k => rfl) ?_
  refine xg_step rfl rfl (fun k => rfl) ?_
  refine zg_cvv rfl rfl rfl (Nat.le_of_ble_eq_true rfl) (zha (by decide)) zc_House rfl rfl (zr_93 hA (by omega) (by first | assumption | exact hA _ _ | exact hB _ _ | exact zrg_max (by assumption) (hA _ _) | (constructor <;> omega))) ?_
  refine xg_step rfl rfl (fun k => rfl) ?_
  refine zg_csv rfl rfl (by decide) rfl rfl (Nat.le_of_ble_eq_true rfl) rfl (zr_92 hA (by omega)) ?_
  refine xg_step rfl rfl (fun k => rfl) ?_
  refine xg_get rfl rfl (zha (by decide)) zc_House rfl rfl ?_
  refine xg_step rfl rfl (fun k => rfl) ?_
  refine zg_aald rfl (zha (by decide)) zc_servers (by decide) (by decide) ⟨by omega, by omega⟩ (if_pos (by omega)) ?_
  refine xg_step rfl rfl (fun k => rfl) ?_
  refine xg_step rfl rfl (fun k => rfl) ?_
  refine xg_step rfl rfl (fun k => rfl) ?_
  refine zg_cvi rfl rfl rfl (Nat.le_of_ble_eq_true rfl) (zha (by omega)) (zc_Server hp) rfl rfl (zr_53f hp hG hid hvw (by omega) hf) ?_
  refine xg_step rfl rfl (fun k => rfl) ?_
  refine xg_step rfl rfl (fun k => rfl) ?_
  refine zg_iret rfl rfl zfitI ?_
  rfl
set_option maxRecDepth 10000 in
theorem zr_78 {d : Nat} {A B : ZM} (hA : zRg A) (hz : ∀ s, 0 ≤ s ∧ s < 3 → A (56 + 17 * s) 9 = 0 ∨ A (56 + 17 * s) 9 = 1) {p k q : Int} (hp : 0 ≤ p ∧ p < 3) (hq : 0 ≤ q ∧ q < 3) (hk : 1 ≤ k ∧ k ≤ A (44 + 2 * p) 1) (hk2 : A (44 + 2 * p) 1 ≤ 100) (hpq : p ≠ q) (hl : A (56 + 17 * q) 9 = 0) (hok : zRok q 300 (zup A (58 + 17 * q) (p * 101 + k) 1)) : XR (d + 9) 78 [.ref 0, zci (p), zci (k), zci (q)] (zhp A B) (some (zci (zRA q 300 (zup A (58 + 17 * q) (p * 101 + k) 1) 0).1), zhp (zRA q 300 (zup A (58 + 17 * q) (p * 101 + k) 1) 0).2 B) := by
  refine XR.of (Nat.le_of_ble_eq_true rfl) rfl ?_
  refine xg_step rfl rfl (fun k => rfl) ?_
  refine xg_step rfl rfl (fun k => rfl) ?_
  refine xg_step rfl rfl (fun k => rfl) ?_
  refine zg_cvv rfl rfl rfl (Nat.le_of_ble_eq_true rfl) (zha (by decide)) zc_House rfl rfl (zr_94 hA (by omega) (by omega) (by first | assumption | exact hA _ _ | exact hB _ _ | exact zrg_max (by assumption) (hA _ _) | (constructor <;> omega))) ?_
  refine xg_step rfl rfl (fun k => rfl) ?_
  refine zg_csv rfl rfl (by decide) rfl rfl (Nat.le_of_ble_eq_true rfl) rfl (zr_92 hA (by omega)) ?_
  refine xg_step rfl rfl (fun k => rfl) ?_
  refine xg_step rfl rfl (fun k => rfl) ?_
  refine zg_csv rfl rfl (by decide) rfl rfl (Nat.le_of_ble_eq_true rfl) rfl (zr_95 hA (by first | assumption | exact hA _ _ | exact hB _ _ | exact zrg_max (by assumption) (hA _ _) | (constructor <;> omega)) (by first | assumption | exact hA _ _ | exact hB _ _ | exact zrg_max (by assumption) (hA _ _) | (constructor <;> omega)) (by omega)) ?_
  refine xg_step rfl rfl (fun k => rfl) ?_
  refine xg_get rfl rfl (zha (by decide)) zc_House rfl rfl ?_
  refine xg_step rfl rfl (fun k => rfl) ?_
  refine zg_aald rfl (zha (by decide)) zc_servers (by decide) (by decide) ⟨by omega, by omega⟩ (if_pos (by omega)) ?_
  refine xg_step rfl rfl (fun k => rfl) ?_
  refine xg_step rfl rfl (fun k => rfl) ?_
  refine zg_cvi rfl rfl rfl (Nat.le_of_ble_eq_true rfl) (zha (by omega)) (zc_Server hq) rfl rfl (zr_45 hq hA (hz _ (by omega))) ?_
  refine zg_eq0 rfl rfl (fun x k => rfl) (by first | assumption | exact hA _ _ | exact hB _ _ | exact zrg_max (by assumption) (hA _ _) | (constructor <;> omega)) (fun hc => ?_) (fun hc => ?_)
  ·
    refine xg_step rfl rfl (fun k => rfl) ?_
    refine xg_step rfl rfl (fun k => rfl) ?_
    refine xg_step rfl rfl (fun k => rfl) ?_
    refine zg_cvv rfl rfl rfl (Nat.le_of_ble_eq_true rfl) (zha (by omega)) (zc_Server hq) rfl rfl (zr_54' hq hA hp (by omega)) ?_
    refine xg_step rfl rfl (fun k => rfl) ?_
    refine zg_cvi rfl rfl rfl (Nat.le_of_ble_eq_true rfl) (zha (by omega)) (zc_Server hq) rfl rfl (zr_55 hq hok) ?_
    refine zg_iret rfl rfl zfitI ?_
    first | rfl | exact (by omega : False).elim
  ·
    refine xg_step rfl rfl (fun k => rfl) ?_
    refine zg_iret rfl rfl zfitI ?_
    first | rfl | exact (by omega : False).elim
set_option maxRecDepth 10000 in
theorem zr_78l {d : Nat} {A B : ZM} (hA : zRg A) (hz : ∀ s, 0 ≤ s ∧ s < 3 → A (56 + 17 * s) 9 = 0 ∨ A (56 + 17 * s) 9 = 1) {p k q : Int} (hp : 0 ≤ p ∧ p < 3) (hq : 0 ≤ q ∧ q < 3) (hk : 1 ≤ k ∧ k ≤ A (44 + 2 * p) 1) (hk2 : zrg k) (hpq : p ≠ q) (hl : ¬ A (56 + 17 * q) 9 = 0) : XR (d + 9) 78 [.ref 0, zci (p), zci (k), zci (q)] (zhp A B) (some (zci 0), zhp A B) := by
  refine XR.of (Nat.le_of_ble_eq_true rfl) rfl ?_
  refine xg_step rfl rfl (fun k => rfl) ?_
  refine xg_step rfl rfl (fun k => rfl) ?_
  refine xg_step rfl rfl (fun k => rfl) ?_
  refine zg_cvv rfl rfl rfl (Nat.le_of_ble_eq_true rfl) (zha (by decide)) zc_House rfl rfl (zr_94 hA (by omega) (by omega) (by first | assumption | exact hA _ _ | exact hB _ _ | exact zrg_max (by assumption) (hA _ _) | (constructor <;> omega))) ?_
  refine xg_step rfl rfl (fun k => rfl) ?_
  refine zg_csv rfl rfl (by decide) rfl rfl (Nat.le_of_ble_eq_true rfl) rfl (zr_92 hA (by omega)) ?_
  refine xg_step rfl rfl (fun k => rfl) ?_
  refine xg_step rfl rfl (fun k => rfl) ?_
  refine zg_csv rfl rfl (by decide) rfl rfl (Nat.le_of_ble_eq_true rfl) rfl (zr_95 hA (by first | assumption | exact hA _ _ | exact hB _ _ | exact zrg_max (by assumption) (hA _ _) | (constructor <;> omega)) (by first | assumption | exact hA _ _ | exact hB _ _ | exact zrg_max (by assumption) (hA _ _) | (constructor <;> omega)) (by omega)) ?_
  refine xg_step rfl rfl (fun k => rfl) ?_
  refine xg_get rfl rfl (zha (by decide)) zc_House rfl rfl ?_
  refine xg_step rfl rfl (fun k => rfl) ?_
  refine zg_aald rfl (zha (by decide)) zc_servers (by decide) (by decide) ⟨by omega, by omega⟩ (if_pos (by omega)) ?_
  refine xg_step rfl rfl (fun k => rfl) ?_
  refine xg_step rfl rfl (fun k => rfl) ?_
  refine zg_cvi rfl rfl rfl (Nat.le_of_ble_eq_true rfl) (zha (by omega)) (zc_Server hq) rfl rfl (zr_45 hq hA (hz _ (by omega))) ?_
  refine zg_eq0 rfl rfl (fun x k => rfl) (by first | assumption | exact hA _ _ | exact hB _ _ | exact zrg_max (by assumption) (hA _ _) | (constructor <;> omega)) (fun hc => ?_) (fun hc => ?_)
  ·
    exact (by omega : False).elim
  ·
    refine xg_step rfl rfl (fun k => rfl) ?_
    refine zg_iret rfl rfl zfitI ?_
    first | rfl | exact (by omega : False).elim
/-- following the askings -/
def zFO (M : ZM) (t : Int) : ZM := zentF (zturn M t (zSG M t) 0) t 2 (zSG M t) 0 0
theorem zr_52y {d : Nat} {A B : ZM} {s : Int} (hs : 0 ≤ s ∧ s < 3) (hG : zG A) (hid : A (56 + 17 * s) 0 = s) (hvw : 0 ≤ A (56 + 17 * s) 7 ∧ A (56 + 17 * s) 7 < 31) (has : ∀ p, 0 ≤ p ∧ p < 3 → -1 ≤ A (66 + 17 * s) p ∧ A (66 + 17 * s) p < 31) (hq : A (56 + 17 * s) 7 < zSG A s) : XR (d + 6) 52 [.ref (56 + 17 * s.toNat)] (zhp A B) (some (zci 1), zhp (zFO A s) B) := by
  have h := zr_52 (d := d) (B := B) hs hG hid hvw has
  rw [zb2_t hq, if_pos hq] at h
  exact h
theorem zr_52n {d : Nat} {A B : ZM} {s : Int} (hs : 0 ≤ s ∧ s < 3) (hG : zG A) (hid : A (56 + 17 * s) 0 = s) (hvw : 0 ≤ A (56 + 17 * s) 7 ∧ A (56 + 17 * s) 7 < 31) (has : ∀ p, 0 ≤ p ∧ p < 3 → -1 ≤ A (66 + 17 * s) p ∧ A (66 + 17 * s) p < 31) (hq : ¬ A (56 + 17 * s) 7 < zSG A s) : XR (d + 6) 52 [.ref (56 + 17 * s.toNat)] (zhp A B) (some (zci 0), zhp A B) := by
  have h := zr_52 (d := d) (B := B) hs hG hid hvw has
  rw [zb2_f hq, if_neg hq] at h
  exact h
set_option maxRecDepth 10000 in
theorem zr_79l {d : Nat} {A B : ZM} (hA : zRg A) (hz : ∀ s, 0 ≤ s ∧ s < 3 → A (56 + 17 * s) 9 = 0 ∨ A (56 + 17 * s) 9 = 1) {p : Int} (hp : 0 ≤ p ∧ p < 3) (hvw : 0 ≤ A (56 + 17 * p) 7 ∧ A (56 + 17 * p) 7 < 31) (hl : ¬ A (56 + 17 * p) 9 = 0 ∨ 30 ≤ A (56 + 17 * p) 7) : XR (d + 9) 79 [.ref 0, zci (p)] (zhp A B) (some (zci (-1)), zhp A B) := by
  refine XR.of (Nat.le_of_ble_eq_true rfl) rfl ?_
  refine xg_step rfl rfl (fun k => rfl) ?_
  refine zg_csv rfl rfl (by decide) rfl rfl (Nat.le_of_ble_eq_true rfl) rfl (zr_92 hA (by omega)) ?_
  refine xg_step rfl rfl (fun k => rfl) ?_
  refine xg_get rfl rfl (zha (by decide)) zc_House rfl rfl ?_
  refine xg_step rfl rfl (fun k => rfl) ?_
  refine zg_aald rfl (zha (by decide)) zc_servers (by decide) (by decide) ⟨by omega, by omega⟩ (if_pos (by omega)) ?_
  refine xg_step rfl rfl (fun k => rfl) ?_
  refine xg_step rfl rfl (fun k => rfl) ?_
  refine zg_cvi rfl rfl rfl (Nat.le_of_ble_eq_true rfl) (zha (by omega)) (zc_Server hp) rfl rfl (zr_45 hp hA (hz _ (by omega))) ?_
  refine zg_eq0 rfl rfl (fun x k => rfl) (by first | assumption | exact hA _ _ | exact hB _ _ | exact zrg_max (by assumption) (hA _ _) | (constructor <;> omega)) (fun hc => ?_) (fun hc => ?_)
  ·
    refine xg_step rfl rfl (fun k => rfl) ?_
    refine zg_cvi rfl rfl rfl (Nat.le_of_ble_eq_true rfl) (zha (by omega)) (zc_Server hp) rfl rfl (zr_43 hp hA) ?_
    refine zg_bi rfl (by decide) ?_
    refine zg_lt rfl rfl (fun x y k => rfl) (by first | assumption | exact hA _ _ | exact hB _ _ | exact zrg_max (by assumption) (hA _ _) | (constructor <;> omega)) (by first | assumption | exact hA _ _ | exact hB _ _ | exact zrg_max (by assumption) (hA _ _) | (constructor <;> omega)) (fun hc => ?_) (fun hc => ?_)
    ·
      exact (by omega : False).elim
    ·
      refine xg_step rfl rfl (fun k => rfl) ?_
      refine zg_iret rfl rfl zfitI ?_
      first | rfl | exact (by omega : False).elim
  ·
    refine xg_step rfl rfl (fun k => rfl) ?_
    refine zg_iret rfl rfl zfitI ?_
    first | rfl | exact (by omega : False).elim
set_option maxRecDepth 10000 in
theorem zr_79y {d : Nat} {A B : ZM} (hG : zG A) (hz : ∀ s, 0 ≤ s ∧ s < 3 → A (56 + 17 * s) 9 = 0 ∨ A (56 + 17 * s) 9 = 1) {p : Int} (hp : 0 ≤ p ∧ p < 3) (hvw : 0 ≤ A (56 + 17 * p) 7 ∧ A (56 + 17 * p) 7 < 31) (hl : A (56 + 17 * p) 9 = 0) (hv30 : A (56 + 17 * p) 7 < 30) {M : ZM} (hM : M = (zup A (66 + 17 * p) p (max (A (66 + 17 * p) p) (A (56 + 17 * p) 7 + 1)))) (hGM : zG M) (hidM : M (56 + 17 * p) 0 = p) (hvM : 0 ≤ M (56 + 17 * p) 7 ∧ M (56 + 17 * p) 7 < 31) (haM : ∀ c, 0 ≤ c ∧ c < 3 → -1 ≤ M (66 + 17 * p) c ∧ M (66 + 17 * p) c < 31) (hq5 : M (56 + 17 * p) 7 < zSG M p) (hok : zRok p 300 (zFO M p)) : XR (d + 9) 79 [.ref 0, zci (p)] (zhp A B) (some (zci (A (56 + 17 * p) 7 + 1)), zhp (zRA p 300 (zFO M p) 0).2 B) := by
  have hA := hG.1
  subst hM
  refine XR.of (Nat.le_of_ble_eq_true rfl) rfl ?_
  refine xg_step rfl rfl (fun k => rfl) ?_
  refine zg_csv rfl rfl (by decide) rfl rfl (Nat.le_of_ble_eq_true rfl) rfl (zr_92 hA (by omega)) ?_
  refine xg_step rfl rfl (fun k => rfl) ?_
  refine xg_get rfl rfl (zha (by decide)) zc_House rfl rfl ?_
  refine xg_step rfl rfl (fun k => rfl) ?_
  refine zg_aald rfl (zha (by decide)) zc_servers (by decide) (by decide) ⟨by omega, by omega⟩ (if_pos (by omega)) ?_
  refine xg_step rfl rfl (fun k => rfl) ?_
  refine xg_step rfl rfl (fun k => rfl) ?_
  refine zg_cvi rfl rfl rfl (Nat.le_of_ble_eq_true rfl) (zha (by omega)) (zc_Server hp) rfl rfl (zr_45 hp hA (hz _ (by omega))) ?_
  refine zg_eq0 rfl rfl (fun x k => rfl) (by first | assumption | exact hA _ _ | exact hB _ _ | exact zrg_max (by assumption) (hA _ _) | (constructor <;> omega)) (fun hc => ?_) (fun hc => ?_)
  ·
    refine xg_step rfl rfl (fun k => rfl) ?_
    refine zg_cvi rfl rfl rfl (Nat.le_of_ble_eq_true rfl) (zha (by omega)) (zc_Server hp) rfl rfl (zr_43 hp hA) ?_
    refine zg_bi rfl (by decide) ?_
    refine zg_lt rfl rfl (fun x y k => rfl) (by first | assumption | exact hA _ _ | exact hB _ _ | exact zrg_max (by assumption) (hA _ _) | (constructor <;> omega)) (by first | assumption | exact hA _ _ | exact hB _ _ | exact zrg_max (by assumption) (hA _ _) | (constructor <;> omega)) (fun hc => ?_) (fun hc => ?_)
    ·
      refine xg_step rfl rfl (fun k => rfl) ?_
      refine zg_cvi rfl rfl rfl (Nat.le_of_ble_eq_true rfl) (zha (by omega)) (zc_Server hp) rfl rfl (zr_43 hp hA) ?_
      refine xg_step rfl rfl (fun k => rfl) ?_
      refine zg_add rfl ?_
      refine xg_step rfl rfl (fun k => rfl) ?_
      refine xg_step rfl rfl (fun k => rfl) ?_
      refine xg_step rfl rfl (fun k => rfl) ?_
      refine xg_step rfl rfl (fun k => rfl) ?_
      refine zg_cvv rfl rfl rfl (Nat.le_of_ble_eq_true rfl) (zha (by omega)) (zc_Server hp) rfl rfl (zr_51 hp hA hp ⟨by omega, by omega⟩) ?_
      refine xg_step rfl rfl (fun k => rfl) ?_
      refine zg_cvi rfl rfl rfl (Nat.le_of_ble_eq_true rfl) (zha (by omega)) (zc_Server hp) rfl rfl (zr_52y hp hGM hidM hvM haM hq5) ?_
      refine xg_step rfl rfl (fun k => rfl) ?_
      refine xg_step rfl rfl (fun k => rfl) ?_
      refine zg_cvi rfl rfl rfl (Nat.le_of_ble_eq_true rfl) (zha (by omega)) (zc_Server hp) rfl rfl (zr_55 hp hok) ?_
      refine xg_step rfl rfl (fun k => rfl) ?_
      refine xg_step rfl rfl (fun k => rfl) ?_
      refine zg_iret rfl rfl zfitI ?_
      first | rfl | exact (by omega : False).elim
    ·
      refine xg_step rfl rfl (fun k => rfl) ?_
      refine zg_iret rfl rfl zfitI ?_
      first | rfl | exact (by omega : False).elim
  ·
    refine xg_step rfl rfl (fun k => rfl) ?_
    refine zg_iret rfl rfl zfitI ?_
    first | rfl | exact (by omega : False).elim
set_option maxRecDepth 10000 in
theorem zr_79n {d : Nat} {A B : ZM} (hG : zG A) (hz : ∀ s, 0 ≤ s ∧ s < 3 → A (56 + 17 * s) 9 = 0 ∨ A (56 + 17 * s) 9 = 1) {p : Int} (hp : 0 ≤ p ∧ p < 3) (hvw : 0 ≤ A (56 + 17 * p) 7 ∧ A (56 + 17 * p) 7 < 31) (hl : A (56 + 17 * p) 9 = 0) (hv30 : A (56 + 17 * p) 7 < 30) {M : ZM} (hM : M = (zup A (66 + 17 * p) p (max (A (66 + 17 * p) p) (A (56 + 17 * p) 7 + 1)))) (hGM : zG M) (hidM : M (56 + 17 * p) 0 = p) (hvM : 0 ≤ M (56 + 17 * p) 7 ∧ M (56 + 17 * p) 7 < 31) (haM : ∀ c, 0 ≤ c ∧ c < 3 → -1 ≤ M (66 + 17 * p) c ∧ M (66 + 17 * p) c < 31) (hq5 : ¬ M (56 + 17 * p) 7 < zSG M p) : XR (d + 9) 79 [.ref 0, zci (p)] (zhp A B) (some (zci (A (56 + 17 * p) 7 + 1)), zhp M B) := by
  have hA := hG.1
  subst hM
  refine XR.of (Nat.le_of_ble_eq_true rfl) rfl ?_
  refine xg_step rfl rfl (fun k => rfl) ?_
  refine zg_csv rfl rfl (by decide) rfl rfl (Nat.le_of_ble_eq_true rfl) rfl (zr_92 hA (by omega)) ?_
  refine xg_step rfl rfl (fun k => rfl) ?_
  refine xg_get rfl rfl (zha (by decide)) zc_House rfl rfl ?_
  refine xg_step rfl rfl (fun k => rfl) ?_
  refine zg_aald rfl (zha (by decide)) zc_servers (by decide) (by decide) ⟨by omega, by omega⟩ (if_pos (by omega)) ?_
  refine xg_step rfl rfl (fun k => rfl) ?_
  refine xg_step rfl rfl (fun k => rfl) ?_
  refine zg_cvi rfl rfl rfl (Nat.le_of_ble_eq_true rfl) (zha (by omega)) (zc_Server hp) rfl rfl (zr_45 hp hA (hz _ (by omega))) ?_
  refine zg_eq0 rfl rfl (fun x k => rfl) (by first | assumption | exact hA _ _ | exact hB _ _ | exact zrg_max (by assumption) (hA _ _) | (constructor <;> omega)) (fun hc => ?_) (fun hc => ?_)
  ·
    refine xg_step rfl rfl (fun k => rfl) ?_
    refine zg_cvi rfl rfl rfl (Nat.le_of_ble_eq_true rfl) (zha (by omega)) (zc_Server hp) rfl rfl (zr_43 hp hA) ?_
    refine zg_bi rfl (by decide) ?_
    refine zg_lt rfl rfl (fun x y k => rfl) (by first | assumption | exact hA _ _ | exact hB _ _ | exact zrg_max (by assumption) (hA _ _) | (constructor <;> omega)) (by first | assumption | exact hA _ _ | exact hB _ _ | exact zrg_max (by assumption) (hA _ _) | (constructor <;> omega)) (fun hc => ?_) (fun hc => ?_)
    ·
      refine xg_step rfl rfl (fun k => rfl) ?_
      refine zg_cvi rfl rfl rfl (Nat.le_of_ble_eq_true rfl) (zha (by omega)) (zc_Server hp) rfl rfl (zr_43 hp hA) ?_
      refine xg_step rfl rfl (fun k => rfl) ?_
      refine zg_add rfl ?_
      refine xg_step rfl rfl (fun k => rfl) ?_
      refine xg_step rfl rfl (fun k => rfl) ?_
      refine xg_step rfl rfl (fun k => rfl) ?_
      refine xg_step rfl rfl (fun k => rfl) ?_
      refine zg_cvv rfl rfl rfl (Nat.le_of_ble_eq_true rfl) (zha (by omega)) (zc_Server hp) rfl rfl (zr_51 hp hA hp ⟨by omega, by omega⟩) ?_
      refine xg_step rfl rfl (fun k => rfl) ?_
      refine zg_cvi rfl rfl rfl (Nat.le_of_ble_eq_true rfl) (zha (by omega)) (zc_Server hp) rfl rfl (zr_52n hp hGM hidM hvM haM hq5) ?_
      refine xg_step rfl rfl (fun k => rfl) ?_
      refine xg_step rfl rfl (fun k => rfl) ?_
      refine zg_iret rfl rfl zfitI ?_
      first | rfl | exact (by omega : False).elim
    ·
      refine xg_step rfl rfl (fun k => rfl) ?_
      refine zg_iret rfl rfl zfitI ?_
      first | rfl | exact (by omega : False).elim
  ·
    refine xg_step rfl rfl (fun k => rfl) ?_
    refine zg_iret rfl rfl zfitI ?_
    first | rfl | exact (by omega : False).elim
set_option maxRecDepth 10000 in
theorem zr_80l {d : Nat} {A B : ZM} (hA : zRg A) (hz : ∀ s, 0 ≤ s ∧ s < 3 → A (56 + 17 * s) 9 = 0 ∨ A (56 + 17 * s) 9 = 1) {p q : Int} (hp : 0 ≤ p ∧ p < 3) (hq : 0 ≤ q ∧ q < 3) (hpq : p ≠ q) (hl : ¬ A (56 + 17 * q) 9 = 0) : XR (d + 9) 80 [.ref 0, zci (p), zci (q)] (zhp A B) (some (zci 0), zhp A B) := by
  refine XR.of (Nat.le_of_ble_eq_true rfl) rfl ?_
  refine xg_step rfl rfl (fun k => rfl) ?_
  refine zg_csv rfl rfl (by decide) rfl rfl (Nat.le_of_ble_eq_true rfl) rfl (zr_92 hA (by omega)) ?_
  refine xg_step rfl rfl (fun k => rfl) ?_
  refine zg_csv rfl rfl (by decide) rfl rfl (Nat.le_of_ble_eq_true rfl) rfl (zr_92 hA (by omega)) ?_
  refine xg_step rfl rfl (fun k => rfl) ?_
  refine xg_step rfl rfl (fun k => rfl) ?_
  refine zg_csv rfl rfl (by decide) rfl rfl (Nat.le_of_ble_eq_true rfl) rfl (zr_95 hA (by first | assumption | exact hA _ _ | exact hB _ _ | exact zrg_max (by assumption) (hA _ _) | (constructor <;> omega)) (by first | assumption | exact hA _ _ | exact hB _ _ | exact zrg_max (by assumption) (hA _ _) | (constructor <;> omega)) (by omega)) ?_
  refine xg_step rfl rfl (fun k => rfl) ?_
  refine xg_get rfl rfl (zha (by decide)) zc_House rfl rfl ?_
  refine xg_step rfl rfl (fun k => rfl) ?_
  refine zg_aald rfl (zha (by decide)) zc_servers (by decide) (by decide) ⟨by omega, by omega⟩ (if_pos (by omega)) ?_
  refine xg_step rfl rfl (fun k => rfl) ?_
  refine xg_step rfl rfl (fun k => rfl) ?_
  refine zg_cvi rfl rfl rfl (Nat.le_of_ble_eq_true rfl) (zha (by omega)) (zc_Server hq) rfl rfl (zr_45 hq hA (hz _ (by omega))) ?_
  refine zg_eq0 rfl rfl (fun x k => rfl) (by first | assumption | exact hA _ _ | exact hB _ _ | exact zrg_max (by assumption) (hA _ _) | (constructor <;> omega)) (fun hc => ?_) (fun hc => ?_)
  ·
    exact (by omega : False).elim
  ·
    refine xg_step rfl rfl (fun k => rfl) ?_
    refine zg_iret rfl rfl zfitI ?_
    first | rfl | exact (by omega : False).elim
set_option maxRecDepth 10000 in
theorem zr_80y {d : Nat} {A B : ZM} (hG : zG A) (hz : ∀ s, 0 ≤ s ∧ s < 3 → A (56 + 17 * s) 9 = 0 ∨ A (56 + 17 * s) 9 = 1) {p q : Int} (hp : 0 ≤ p ∧ p < 3) (hq : 0 ≤ q ∧ q < 3) (hpq : p ≠ q) (hl : A (56 + 17 * q) 9 = 0) (hidp : A (56 + 17 * p) 0 = p) {M : ZM} (hM : M = (zup A (66 + 17 * q) p (max (A (66 + 17 * q) p) (A (66 + 17 * p) p)))) (hGM : zG M) (hidM : M (56 + 17 * q) 0 = q) (hvM : 0 ≤ M (56 + 17 * q) 7 ∧ M (56 + 17 * q) 7 < 31) (haM : ∀ c, 0 ≤ c ∧ c < 3 → -1 ≤ M (66 + 17 * q) c ∧ M (66 + 17 * q) c < 31) (hq5 : M (56 + 17 * q) 7 < zSG M q) (hok : zRok q 300 (zFO M q)) : XR (d + 9) 80 [.ref 0, zci (p), zci (q)] (zhp A B) (some (zci 1), zhp (zRA q 300 (zFO M q) 0).2 B) := by
  have hA := hG.1
  have hwr := hA (66 + 17 * p) p
  subst hM
  refine XR.of (Nat.le_of_ble_eq_true rfl) rfl ?_
  refine xg_step rfl rfl (fun k => rfl) ?_
  refine zg_csv rfl rfl (by decide) rfl rfl (Nat.le_of_ble_eq_true rfl) rfl (zr_92 hA (by omega)) ?_
  refine xg_step rfl rfl (fun k => rfl) ?_
  refine zg_csv rfl rfl (by decide) rfl rfl (Nat.le_of_ble_eq_true rfl) rfl (zr_92 hA (by omega)) ?_
  refine xg_step rfl rfl (fun k => rfl) ?_
  refine xg_step rfl rfl (fun k => rfl) ?_
  refine zg_csv rfl rfl (by decide) rfl rfl (Nat.le_of_ble_eq_true rfl) rfl (zr_95 hA (by first | assumption | exact hA _ _ | exact hB _ _ | exact zrg_max (by assumption) (hA _ _) | (constructor <;> omega)) (by first | assumption | exact hA _ _ | exact hB _ _ | exact zrg_max (by assumption) (hA _ _) | (constructor <;> omega)) (by omega)) ?_
  refine xg_step rfl rfl (fun k => rfl) ?_
  refine xg_get rfl rfl (zha (by decide)) zc_House rfl rfl ?_
  refine xg_step rfl rfl (fun k => rfl) ?_
  refine zg_aald rfl (zha (by decide)) zc_servers (by decide) (by decide) ⟨by omega, by omega⟩ (if_pos (by omega)) ?_
  refine xg_step rfl rfl (fun k => rfl) ?_
  refine xg_step rfl rfl (fun k => rfl) ?_
  refine zg_cvi rfl rfl rfl (Nat.le_of_ble_eq_true rfl) (zha (by omega)) (zc_Server hq) rfl rfl (zr_45 hq hA (hz _ (by omega))) ?_
  refine zg_eq0 rfl rfl (fun x k => rfl) (by first | assumption | exact hA _ _ | exact hB _ _ | exact zrg_max (by assumption) (hA _ _) | (constructor <;> omega)) (fun hc => ?_) (fun hc => ?_)
  ·
    refine xg_step rfl rfl (fun k => rfl) ?_
    refine xg_step rfl rfl (fun k => rfl) ?_
    refine xg_step rfl rfl (fun k => rfl) ?_
    refine xg_get rfl rfl (zha (by decide)) zc_House rfl rfl ?_
    refine xg_step rfl rfl (fun k => rfl) ?_
    refine zg_aald rfl (zha (by decide)) zc_servers (by decide) (by decide) ⟨by omega, by omega⟩ (if_pos (by omega)) ?_
    refine zg_cvi rfl rfl rfl (Nat.le_of_ble_eq_true rfl) (zha (by omega)) (zc_Server hp) rfl rfl (zr_47 hp hA hidp) ?_
    refine zg_cvv rfl rfl rfl (Nat.le_of_ble_eq_true rfl) (zha (by omega)) (zc_Server hq) rfl rfl (zr_51 hq hA hp hwr) ?_
    refine xg_step rfl rfl (fun k => rfl) ?_
    refine zg_cvi rfl rfl rfl (Nat.le_of_ble_eq_true rfl) (zha (by omega)) (zc_Server hq) rfl rfl (zr_52y hq hGM hidM hvM haM hq5) ?_
    refine xg_step rfl rfl (fun k => rfl) ?_
    refine xg_step rfl rfl (fun k => rfl) ?_
    refine zg_cvi rfl rfl rfl (Nat.le_of_ble_eq_true rfl) (zha (by omega)) (zc_Server hq) rfl rfl (zr_55 hq hok) ?_
    refine xg_step rfl rfl (fun k => rfl) ?_
    refine xg_step rfl rfl (fun k => rfl) ?_
    refine zg_iret rfl rfl zfitI ?_
    first | rfl | exact (by omega : False).elim
  ·
    refine xg_step rfl rfl (fun k => rfl) ?_
    refine zg_iret rfl rfl zfitI ?_
    first | rfl | exact (by omega : False).elim
set_option maxRecDepth 10000 in
theorem zr_80n {d : Nat} {A B : ZM} (hG : zG A) (hz : ∀ s, 0 ≤ s ∧ s < 3 → A (56 + 17 * s) 9 = 0 ∨ A (56 + 17 * s) 9 = 1) {p q : Int} (hp : 0 ≤ p ∧ p < 3) (hq : 0 ≤ q ∧ q < 3) (hpq : p ≠ q) (hl : A (56 + 17 * q) 9 = 0) (hidp : A (56 + 17 * p) 0 = p) {M : ZM} (hM : M = (zup A (66 + 17 * q) p (max (A (66 + 17 * q) p) (A (66 + 17 * p) p)))) (hGM : zG M) (hidM : M (56 + 17 * q) 0 = q) (hvM : 0 ≤ M (56 + 17 * q) 7 ∧ M (56 + 17 * q) 7 < 31) (haM : ∀ c, 0 ≤ c ∧ c < 3 → -1 ≤ M (66 + 17 * q) c ∧ M (66 + 17 * q) c < 31) (hq5 : ¬ M (56 + 17 * q) 7 < zSG M q) : XR (d + 9) 80 [.ref 0, zci (p), zci (q)] (zhp A B) (some (zci 0), zhp M B) := by
  have hA := hG.1
  have hwr := hA (66 + 17 * p) p
  subst hM
  refine XR.of (Nat.le_of_ble_eq_true rfl) rfl ?_
  refine xg_step rfl rfl (fun k => rfl) ?_
  refine zg_csv rfl rfl (by decide) rfl rfl (Nat.le_of_ble_eq_true rfl) rfl (zr_92 hA (by omega)) ?_
  refine xg_step rfl rfl (fun k => rfl) ?_
  refine zg_csv rfl rfl (by decide) rfl rfl (Nat.le_of_ble_eq_true rfl) rfl (zr_92 hA (by omega)) ?_
  refine xg_step rfl rfl (fun k => rfl) ?_
  refine xg_step rfl rfl (fun k => rfl) ?_
  refine zg_csv rfl rfl (by decide) rfl rfl (Nat.le_of_ble_eq_true rfl) rfl (zr_95 hA (by first | assumption | exact hA _ _ | exact hB _ _ | exact zrg_max (by assumption) (hA _ _) | (constructor <;> omega)) (by first | assumption | exact hA _ _ | exact hB _ _ | exact zrg_max (by assumption) (hA _ _) | (constructor <;> omega)) (by omega)) ?_
  refine xg_step rfl rfl (fun k => rfl) ?_
  refine xg_get rfl rfl (zha (by decide)) zc_House rfl rfl ?_
  refine xg_step rfl rfl (fun k => rfl) ?_
  refine zg_aald rfl (zha (by decide)) zc_servers (by decide) (by decide) ⟨by omega, by omega⟩ (if_pos (by omega)) ?_
  refine xg_step rfl rfl (fun k => rfl) ?_
  refine xg_step rfl rfl (fun k => rfl) ?_
  refine zg_cvi rfl rfl rfl (Nat.le_of_ble_eq_true rfl) (zha (by omega)) (zc_Server hq) rfl rfl (zr_45 hq hA (hz _ (by omega))) ?_
  refine zg_eq0 rfl rfl (fun x k => rfl) (by first | assumption | exact hA _ _ | exact hB _ _ | exact zrg_max (by assumption) (hA _ _) | (constructor <;> omega)) (fun hc => ?_) (fun hc => ?_)
  ·
    refine xg_step rfl rfl (fun k => rfl) ?_
    refine xg_step rfl rfl (fun k => rfl) ?_
    refine xg_step rfl rfl (fun k => rfl) ?_
    refine xg_get rfl rfl (zha (by decide)) zc_House rfl rfl ?_
    refine xg_step rfl rfl (fun k => rfl) ?_
    refine zg_aald rfl (zha (by decide)) zc_servers (by decide) (by decide) ⟨by omega, by omega⟩ (if_pos (by omega)) ?_
    refine zg_cvi rfl rfl rfl (Nat.le_of_ble_eq_true rfl) (zha (by omega)) (zc_Server hp) rfl rfl (zr_47 hp hA hidp) ?_
    refine zg_cvv rfl rfl rfl (Nat.le_of_ble_eq_true rfl) (zha (by omega)) (zc_Server hq) rfl rfl (zr_51 hq hA hp hwr) ?_
    refine xg_step rfl rfl (fun k => rfl) ?_
    refine zg_cvi rfl rfl rfl (Nat.le_of_ble_eq_true rfl) (zha (by omega)) (zc_Server hq) rfl rfl (zr_52n hq hGM hidM hvM haM hq5) ?_
    refine xg_step rfl rfl (fun k => rfl) ?_
    refine xg_step rfl rfl (fun k => rfl) ?_
    refine zg_iret rfl rfl zfitI ?_
    first | rfl | exact (by omega : False).elim
  ·
    refine xg_step rfl rfl (fun k => rfl) ?_
    refine zg_iret rfl rfl zfitI ?_
    first | rfl | exact (by omega : False).elim
