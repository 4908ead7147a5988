/-! the throws of the class's methods -/
section ZTH
variable {d : Nat} {A B : ZM} {p q k r v w kd a b c n : Int}
set_option maxRecDepth 10000 in
theorem tx_92 (hp : zrg p) (h : ¬ (0 ≤ p ∧ p < 3)) : XX (d + 1) 92 [zci p] (zhp A B) 2 := by
  refine XX.of (Nat.le_of_ble_eq_true rfl) rfl ?_
  refine xx_step rfl rfl rfl (fun k => rfl) ?_
  refine zx_lt0 rfl rfl rfl (fun x k => rfl) hp (fun h1 => ?_) (fun h1 => ?_)
  · exact xx_throw rfl (Nat.le_of_ble_eq_true rfl)
  · refine xx_step rfl rfl rfl (fun k => rfl) ?_
    refine xx_step rfl rfl rfl (fun k => rfl) ?_
    refine zx_lt (y := 3) rfl rfl rfl (fun x y k => rfl) hp ⟨by decide, by decide⟩ (fun h2 => ?_) (fun h2 => ?_)
    · exact (by omega : False).elim
    · exact xx_throw rfl (Nat.le_of_ble_eq_true rfl)
set_option maxRecDepth 10000 in
theorem tx_96 (hv : zrg v) (h : ¬ (0 ≤ v ∧ v < 31)) : XX (d + 1) 96 [zci v] (zhp A B) 0 := by
  refine XX.of (Nat.le_of_ble_eq_true rfl) rfl ?_
  refine xx_step rfl rfl rfl (fun k => rfl) ?_
  refine zx_lt0 rfl rfl rfl (fun x k => rfl) hv (fun h1 => ?_) (fun h1 => ?_)
  · exact xx_throw rfl (Nat.le_of_ble_eq_true rfl)
  · refine xx_step rfl rfl rfl (fun k => rfl) ?_
    refine zx_bi rfl rfl (by decide) ?_
    refine zx_lt (y := 31) rfl rfl rfl (fun x y k => rfl) hv ⟨by decide, by decide⟩ (fun h2 => ?_) (fun h2 => ?_)
    · exact (by omega : False).elim
    · exact xx_throw rfl (Nat.le_of_ble_eq_true rfl)
set_option maxRecDepth 10000 in
theorem tx_95 (hp : zrg p) (hq : zrg q) (h : p = q) : XX (d + 1) 95 [zci p, zci q] (zhp A B) 0 := by
  refine XX.of (Nat.le_of_ble_eq_true rfl) rfl ?_
  refine xx_step rfl rfl rfl (fun k => rfl) ?_
  refine xx_step rfl rfl rfl (fun k => rfl) ?_
  refine zx_eq rfl rfl rfl (fun x y k => rfl) hp hq (fun h2 => ?_) (fun h2 => ?_)
  · exact xx_throw rfl (Nat.le_of_ble_eq_true rfl)
  · exact absurd h h2
set_option maxRecDepth 10000 in
theorem tx_93 (hA : zRg A) (hr : zrg r) (h : ¬ (0 ≤ r ∧ r < A 1 6)) : XX (d + 2) 93 [.ref 0, zci r] (zhp A B) 2 := by
  refine XX.of (Nat.le_of_ble_eq_true rfl) rfl ?_
  refine xx_step rfl rfl rfl (fun k => rfl) ?_
  refine zx_get rfl rfl rfl (zha (by decide)) zc_House rfl rfl ?_
  refine xx_step rfl rfl rfl (fun k => rfl) ?_
  refine zx_cv (rv := some (zci 0)) rfl rfl rfl rfl (Nat.le_of_ble_eq_true rfl) (zha (by decide)) zc_Requests rfl rfl (by have := zr_35 (d := d) (B := B) hA hr; rw [zb2_f h] at this; exact this) ?_
  refine zx_eq0 (x := 0) rfl rfl rfl (fun x k => rfl) ⟨by decide, by decide⟩ (fun _ => ?_) (fun h2 => absurd rfl h2)
  exact xx_throw rfl (Nat.le_of_ble_eq_true rfl)
set_option maxRecDepth 10000 in
theorem tx_97 (hA : zRg A) (hp : 0 ≤ p ∧ p < 3) (h : A (56 + 17 * p) 9 = 0) : XX (d + 2) 97 [.ref 0, zci p] (zhp A B) 1 := by
  refine XX.of (Nat.le_of_ble_eq_true rfl) rfl ?_
  refine xx_step rfl rfl rfl (fun k => rfl) ?_
  refine zx_get rfl rfl rfl (zha (by decide)) zc_House rfl rfl ?_
  refine xx_step rfl rfl rfl (fun k => rfl) ?_
  refine zx_aald rfl rfl (zha (by decide)) zc_servers (by decide) (by decide) ⟨by omega, by omega⟩ (if_pos (by omega)) ?_
  refine zx_cv (rv := some (zci 0)) rfl rfl rfl rfl (Nat.le_of_ble_eq_true rfl) (zha (by omega)) (zc_Server hp) rfl rfl (by have := zr_45 (d := d) (B := B) hp hA (.inl h); rw [h] at this; exact this) ?_
  refine zx_eq0 (x := 0) rfl rfl rfl (fun x k => rfl) ⟨by decide, by decide⟩ (fun _ => ?_) (fun h2 => absurd rfl h2)
  exact xx_throw rfl (Nat.le_of_ble_eq_true rfl)
set_option maxRecDepth 10000 in
theorem tx_94a (hp : zrg p) (h : ¬ (0 ≤ p ∧ p < 3)) : XX (d + 3) 94 [.ref 0, zci p, zci k] (zhp A B) 2 := by
  refine XX.of (Nat.le_of_ble_eq_true rfl) rfl ?_
  refine xx_step rfl rfl rfl (fun k => rfl) ?_
  exact zx_csX rfl rfl rfl rfl rfl (Nat.le_of_ble_eq_true rfl) rfl (tx_92 hp h)
set_option maxRecDepth 10000 in
theorem tx_94b (hA : zRg A) (hp : 0 ≤ p ∧ p < 3) (hk : zrg k) (h : ¬ (1 ≤ k ∧ k ≤ A (44 + 2 * p) 1)) : XX (d + 3) 94 [.ref 0, zci p, zci k] (zhp A B) 2 := by
  refine XX.of (Nat.le_of_ble_eq_true rfl) rfl ?_
  refine xx_step rfl rfl rfl (fun k => rfl) ?_
  refine zx_cs (rv := none) rfl rfl rfl (.inl rfl) rfl rfl (Nat.le_of_ble_eq_true rfl) rfl (zr_92 hA hp) ?_
  refine xx_step rfl rfl rfl (fun k => rfl) ?_
  refine zx_get rfl rfl rfl (zha (by decide)) zc_House rfl rfl ?_
  refine xx_step rfl rfl rfl (fun k => rfl) ?_
  refine xx_step rfl rfl rfl (fun k => rfl) ?_
  refine zx_cv (rv := some (zci 0)) rfl rfl rfl rfl (Nat.le_of_ble_eq_true rfl) (zha (by decide)) zc_Book rfl rfl (by have := zr_5 (d := d) (B := B) hA hp hk; rw [zb2_f h] at this; exact this) ?_
  refine zx_eq0 (x := 0) rfl rfl rfl (fun x k => rfl) ⟨by decide, by decide⟩ (fun _ => ?_) (fun h2 => absurd rfl h2)
  exact xx_throw rfl (Nat.le_of_ble_eq_true rfl)
theorem tx_94 (hA : zRg A) (hp : zrg p) (hk : zrg k) (h : ¬ ((0 ≤ p ∧ p < 3) ∧ (1 ≤ k ∧ k ≤ A (44 + 2 * p) 1))) : XX (d + 3) 94 [.ref 0, zci p, zci k] (zhp A B) 2 := by
  by_cases e : 0 ≤ p ∧ p < 3
  · exact tx_94b hA e hk (fun q => h ⟨e, q⟩)
  · exact tx_94a hp e
set_option maxRecDepth 10000 in
theorem tx_77a (hA : zRg A) (hr : zrg r) (h : ¬ (0 ≤ r ∧ r < A 1 6)) : XX (d + 9) 77 [.ref 0, zci r, zci p] (zhp A B) 2 := by
  refine XX.of (Nat.le_of_ble_eq_true rfl) rfl ?_
  refine xx_step rfl rfl rfl (fun k => rfl) ?_
  refine xx_step rfl rfl rfl (fun k => rfl) ?_
  exact zx_cvX rfl rfl rfl rfl (Nat.le_of_ble_eq_true rfl) (zha (by decide)) zc_House rfl rfl (tx_93 hA hr h)
set_option maxRecDepth 10000 in
theorem tx_77b (hA : zRg A) (hr : 0 ≤ r ∧ r < A 1 6) (hrz : zrg r) (hp : zrg p) (h : ¬ (0 ≤ p ∧ p < 3)) : XX (d + 9) 77 [.ref 0, zci r, zci p] (zhp A B) 2 := by
  refine XX.of (Nat.le_of_ble_eq_true rfl) rfl ?_
  refine xx_step rfl rfl rfl (fun k => rfl) ?_
  refine xx_step rfl rfl rfl (fun k => rfl) ?_
  refine zx_cv (rv := none) rfl rfl rfl rfl (Nat.le_of_ble_eq_true rfl) (zha (by decide)) zc_House rfl rfl (zr_93 hA hr hrz) ?_
  refine xx_step rfl rfl rfl (fun k => rfl) ?_
  exact zx_csX rfl rfl rfl rfl rfl (Nat.le_of_ble_eq_true rfl) rfl (tx_92 hp h)
set_option maxRecDepth 10000 in
theorem tx_78a (hA : zRg A) (hp : zrg p) (hk : zrg k) (h : ¬ ((0 ≤ p ∧ p < 3) ∧ (1 ≤ k ∧ k ≤ A (44 + 2 * p) 1))) : XX (d + 9) 78 [.ref 0, zci p, zci k, zci q] (zhp A B) 2 := by
  refine XX.of (Nat.le_of_ble_eq_true rfl) rfl ?_
  refine xx_step rfl rfl rfl (fun k => rfl) ?_
  refine xx_step rfl rfl rfl (fun k => rfl) ?_
  refine xx_step rfl rfl rfl (fun k => rfl) ?_
  exact zx_cvX rfl rfl rfl rfl (Nat.le_of_ble_eq_true rfl) (zha (by decide)) zc_House rfl rfl (tx_94 hA hp hk h)
set_option maxRecDepth 10000 in
theorem tx_78b (hA : zRg A) (hp : 0 ≤ p ∧ p < 3) (hk : 1 ≤ k ∧ k ≤ A (44 + 2 * p) 1) (hkz : zrg k) (hq : zrg q) (h : ¬ (0 ≤ q ∧ q < 3)) : XX (d + 9) 78 [.ref 0, zci p, zci k, zci q] (zhp A B) 2 := by
  refine XX.of (Nat.le_of_ble_eq_true rfl) rfl ?_
  refine xx_step rfl rfl rfl (fun k => rfl) ?_
  refine xx_step rfl rfl rfl (fun k => rfl) ?_
  refine xx_step rfl rfl rfl (fun k => rfl) ?_
  refine zx_cv (rv := none) rfl rfl rfl rfl (Nat.le_of_ble_eq_true rfl) (zha (by decide)) zc_House rfl rfl (zr_94 hA hp hk hkz) ?_
  refine xx_step rfl rfl rfl (fun k => rfl) ?_
  exact zx_csX rfl rfl rfl rfl rfl (Nat.le_of_ble_eq_true rfl) rfl (tx_92 hq h)
set_option maxRecDepth 10000 in
theorem tx_78c (hA : zRg A) (hp : 0 ≤ p ∧ p < 3) (hk : 1 ≤ k ∧ k ≤ A (44 + 2 * p) 1) (hkz : zrg k) (hq : 0 ≤ q ∧ q < 3) (hpz : zrg p) (hqz : zrg q) (h : p = q) : XX (d + 9) 78 [.ref 0, zci p, zci k, zci q] (zhp A B) 0 := by
  refine XX.of (Nat.le_of_ble_eq_true rfl) rfl ?_
  refine xx_step rfl rfl rfl (fun k => rfl) ?_
  refine xx_step rfl rfl rfl (fun k => rfl) ?_
  refine xx_step rfl rfl rfl (fun k => rfl) ?_
  refine zx_cv (rv := none) rfl rfl rfl rfl (Nat.le_of_ble_eq_true rfl) (zha (by decide)) zc_House rfl rfl (zr_94 hA hp hk hkz) ?_
  refine xx_step rfl rfl rfl (fun k => rfl) ?_
  refine zx_cs (rv := none) rfl rfl rfl (.inl rfl) rfl rfl (Nat.le_of_ble_eq_true rfl) rfl (zr_92 hA hq) ?_
  refine xx_step rfl rfl rfl (fun k => rfl) ?_
  refine xx_step rfl rfl rfl (fun k => rfl) ?_
  exact zx_csX rfl rfl rfl rfl rfl (Nat.le_of_ble_eq_true rfl) rfl (tx_95 hpz hqz h)
set_option maxRecDepth 10000 in
theorem tx_79 (hp : zrg p) (h : ¬ (0 ≤ p ∧ p < 3)) : XX (d + 9) 79 [.ref 0, zci p] (zhp A B) 2 := by
  refine XX.of (Nat.le_of_ble_eq_true rfl) rfl ?_
  refine xx_step rfl rfl rfl (fun k => rfl) ?_
  exact zx_csX rfl rfl rfl rfl rfl (Nat.le_of_ble_eq_true rfl) rfl (tx_92 hp h)
set_option maxRecDepth 10000 in
theorem tx_80a (hp : zrg p) (h : ¬ (0 ≤ p ∧ p < 3)) : XX (d + 9) 80 [.ref 0, zci p, zci q] (zhp A B) 2 := by
  refine XX.of (Nat.le_of_ble_eq_true rfl) rfl ?_
  refine xx_step rfl rfl rfl (fun k => rfl) ?_
  exact zx_csX rfl rfl rfl rfl rfl (Nat.le_of_ble_eq_true rfl) rfl (tx_92 hp h)
set_option maxRecDepth 10000 in
theorem tx_80b (hA : zRg A) (hp : 0 ≤ p ∧ p < 3) (hq : zrg q) (h : ¬ (0 ≤ q ∧ q < 3)) : XX (d + 9) 80 [.ref 0, zci p, zci q] (zhp A B) 2 := by
  refine XX.of (Nat.le_of_ble_eq_true rfl) rfl ?_
  refine xx_step rfl rfl rfl (fun k => rfl) ?_
  refine zx_cs (rv := none) rfl rfl rfl (.inl rfl) rfl rfl (Nat.le_of_ble_eq_true rfl) rfl (zr_92 hA hp) ?_
  refine xx_step rfl rfl rfl (fun k => rfl) ?_
  exact zx_csX rfl rfl rfl rfl rfl (Nat.le_of_ble_eq_true rfl) rfl (tx_92 hq h)
set_option maxRecDepth 10000 in
theorem tx_80c (hA : zRg A) (hp : 0 ≤ p ∧ p < 3) (hq : 0 ≤ q ∧ q < 3) (hpz : zrg p) (hqz : zrg q) (h : p = q) : XX (d + 9) 80 [.ref 0, zci p, zci q] (zhp A B) 0 := by
  refine XX.of (Nat.le_of_ble_eq_true rfl) rfl ?_
  refine xx_step rfl rfl rfl (fun k => rfl) ?_
  refine zx_cs (rv := none) rfl rfl rfl (.inl rfl) rfl rfl (Nat.le_of_ble_eq_true rfl) rfl (zr_92 hA hp) ?_
  refine xx_step rfl rfl rfl (fun k => rfl) ?_
  refine zx_cs (rv := none) rfl rfl rfl (.inl rfl) rfl rfl (Nat.le_of_ble_eq_true rfl) rfl (zr_92 hA hq) ?_
  refine xx_step rfl rfl rfl (fun k => rfl) ?_
  refine xx_step rfl rfl rfl (fun k => rfl) ?_
  exact zx_csX rfl rfl rfl rfl rfl (Nat.le_of_ble_eq_true rfl) rfl (tx_95 hpz hqz h)
set_option maxRecDepth 10000 in
theorem tx_81a (hp : zrg p) (h : ¬ (0 ≤ p ∧ p < 3)) : XX (d + 9) 81 [.ref 0, zci p, zci r] (zhp A B) 2 := by
  refine XX.of (Nat.le_of_ble_eq_true rfl) rfl ?_
  refine xx_step rfl rfl rfl (fun k => rfl) ?_
  exact zx_csX rfl rfl rfl rfl rfl (Nat.le_of_ble_eq_true rfl) rfl (tx_92 hp h)
set_option maxRecDepth 10000 in
theorem tx_81b (hA : zRg A) (hp : 0 ≤ p ∧ p < 3) (hr : zrg r) (h : ¬ (0 ≤ r ∧ r < A 1 6)) : XX (d + 9) 81 [.ref 0, zci p, zci r] (zhp A B) 2 := by
  refine XX.of (Nat.le_of_ble_eq_true rfl) rfl ?_
  refine xx_step rfl rfl rfl (fun k => rfl) ?_
  refine zx_cs (rv := none) rfl rfl rfl (.inl rfl) rfl rfl (Nat.le_of_ble_eq_true rfl) rfl (zr_92 hA hp) ?_
  refine xx_step rfl rfl rfl (fun k => rfl) ?_
  refine xx_step rfl rfl rfl (fun k => rfl) ?_
  exact zx_cvX rfl rfl rfl rfl (Nat.le_of_ble_eq_true rfl) (zha (by decide)) zc_House rfl rfl (tx_93 hA hr h)
set_option maxRecDepth 10000 in
theorem tx_91a (hp : zrg p) (h : ¬ (0 ≤ p ∧ p < 3)) : XX (d + 9) 91 [.ref 0, zci p, zci r] (zhp A B) 2 := by
  refine XX.of (Nat.le_of_ble_eq_true rfl) rfl ?_
  refine xx_step rfl rfl rfl (fun k => rfl) ?_
  exact zx_csX rfl rfl rfl rfl rfl (Nat.le_of_ble_eq_true rfl) rfl (tx_92 hp h)
set_option maxRecDepth 10000 in
theorem tx_91b (hA : zRg A) (hp : 0 ≤ p ∧ p < 3) (hr : zrg r) (h : ¬ (0 ≤ r ∧ r < A 1 6)) : XX (d + 9) 91 [.ref 0, zci p, zci r] (zhp A B) 2 := by
  refine XX.of (Nat.le_of_ble_eq_true rfl) rfl ?_
  refine xx_step rfl rfl rfl (fun k => rfl) ?_
  refine zx_cs (rv := none) rfl rfl rfl (.inl rfl) rfl rfl (Nat.le_of_ble_eq_true rfl) rfl (zr_92 hA hp) ?_
  refine xx_step rfl rfl rfl (fun k => rfl) ?_
  refine xx_step rfl rfl rfl (fun k => rfl) ?_
  exact zx_cvX rfl rfl rfl rfl (Nat.le_of_ble_eq_true rfl) (zha (by decide)) zc_House rfl rfl (tx_93 hA hr h)
set_option maxRecDepth 10000 in
theorem tx_82 (hp : zrg p) (h : ¬ (0 ≤ p ∧ p < 3)) : XX (d + 9) 82 [.ref 0, zci p] (zhp A B) 2 := by
  refine XX.of (Nat.le_of_ble_eq_true rfl) rfl ?_
  refine xx_step rfl rfl rfl (fun k => rfl) ?_
  exact zx_csX rfl rfl rfl rfl rfl (Nat.le_of_ble_eq_true rfl) rfl (tx_92 hp h)
set_option maxRecDepth 10000 in
theorem tx_83a (hp : zrg p) (h : ¬ (0 ≤ p ∧ p < 3)) : XX (d + 9) 83 [.ref 0, zci p, zci kd, zci v, zci a, zci b] (zhp A B) 2 := by
  refine XX.of (Nat.le_of_ble_eq_true rfl) rfl ?_
  refine xx_step rfl rfl rfl (fun k => rfl) ?_
  exact zx_csX rfl rfl rfl rfl rfl (Nat.le_of_ble_eq_true rfl) rfl (tx_92 hp h)
set_option maxRecDepth 10000 in
theorem tx_83b (hA : zRg A) (hp : 0 ≤ p ∧ p < 3) (h : A (56 + 17 * p) 9 = 0) : XX (d + 9) 83 [.ref 0, zci p, zci kd, zci v, zci a, zci b] (zhp A B) 1 := by
  refine XX.of (Nat.le_of_ble_eq_true rfl) rfl ?_
  refine xx_step rfl rfl rfl (fun k => rfl) ?_
  refine zx_cs (rv := none) rfl rfl rfl (.inl rfl) rfl rfl (Nat.le_of_ble_eq_true rfl) rfl (zr_92 hA hp) ?_
  refine xx_step rfl rfl rfl (fun k => rfl) ?_
  refine xx_step rfl rfl rfl (fun k => rfl) ?_
  exact zx_cvX rfl rfl rfl rfl (Nat.le_of_ble_eq_true rfl) (zha (by decide)) zc_House rfl rfl (tx_97 hA hp h)
set_option maxRecDepth 10000 in
theorem tx_83k (hA : zRg A) (hp : 0 ≤ p ∧ p < 3) (hz : ∀ s, 0 ≤ s ∧ s < 3 → A (56 + 17 * s) 9 = 0 ∨ A (56 + 17 * s) 9 = 1) (hl : ¬ A (56 + 17 * p) 9 = 0) (hk : zrg kd) (h : ¬ (0 ≤ kd ∧ kd < 4)) : XX (d + 9) 83 [.ref 0, zci p, zci kd, zci v, zci a, zci b] (zhp A B) 0 := by
  refine XX.of (Nat.le_of_ble_eq_true rfl) rfl ?_
  refine xx_step rfl rfl rfl (fun k => rfl) ?_
  refine zx_cs (rv := none) rfl rfl rfl (.inl rfl) rfl rfl (Nat.le_of_ble_eq_true rfl) rfl (zr_92 hA hp) ?_
  refine xx_step rfl rfl rfl (fun k => rfl) ?_
  refine xx_step rfl rfl rfl (fun k => rfl) ?_
  refine zx_cv (rv := none) rfl rfl rfl rfl (Nat.le_of_ble_eq_true rfl) (zha (by decide)) zc_House rfl rfl (zr_97 hA hp hz hl) ?_
  refine xx_step rfl rfl rfl (fun k => rfl) ?_
  refine zx_lt0 rfl rfl rfl (fun x k => rfl) hk (fun h1 => ?_) (fun h1 => ?_)
  · exact xx_throw rfl (Nat.le_of_ble_eq_true rfl)
  · refine xx_step rfl rfl rfl (fun k => rfl) ?_
    refine xx_step rfl rfl rfl (fun k => rfl) ?_
    refine zx_gt (y := 3) rfl rfl rfl (fun x y k => rfl) hk ⟨by decide, by decide⟩ (fun h2 => ?_) (fun h2 => ?_)
    · exact xx_throw rfl (Nat.le_of_ble_eq_true rfl)
    · exact (by omega : False).elim
set_option maxRecDepth 10000 in
theorem tx_83v (hA : zRg A) (hp : 0 ≤ p ∧ p < 3) (hz : ∀ s, 0 ≤ s ∧ s < 3 → A (56 + 17 * s) 9 = 0 ∨ A (56 + 17 * s) 9 = 1) (hl : ¬ A (56 + 17 * p) 9 = 0) (hk : 0 ≤ kd ∧ kd < 4) (hkz : zrg kd) (hv : zrg v) (h : ¬ (0 ≤ v ∧ v < 31)) : XX (d + 9) 83 [.ref 0, zci p, zci kd, zci v, zci a, zci b] (zhp A B) 0 := by
  refine XX.of (Nat.le_of_ble_eq_true rfl) rfl ?_
  refine xx_step rfl rfl rfl (fun k => rfl) ?_
  refine zx_cs (rv := none) rfl rfl rfl (.inl rfl) rfl rfl (Nat.le_of_ble_eq_true rfl) rfl (zr_92 hA hp) ?_
  refine xx_step rfl rfl rfl (fun k => rfl) ?_
  refine xx_step rfl rfl rfl (fun k => rfl) ?_
  refine zx_cv (rv := none) rfl rfl rfl rfl (Nat.le_of_ble_eq_true rfl) (zha (by decide)) zc_House rfl rfl (zr_97 hA hp hz hl) ?_
  refine xx_step rfl rfl rfl (fun k => rfl) ?_
  refine zx_lt0 rfl rfl rfl (fun x k => rfl) hkz (fun h1 => (by omega : False).elim) (fun h1 => ?_)
  refine xx_step rfl rfl rfl (fun k => rfl) ?_
  refine xx_step rfl rfl rfl (fun k => rfl) ?_
  refine zx_gt (y := 3) rfl rfl rfl (fun x y k => rfl) hkz ⟨by decide, by decide⟩ (fun h2 => (by omega : False).elim) (fun h2 => ?_)
  refine xx_step rfl rfl rfl (fun k => rfl) ?_
  exact zx_csX rfl rfl rfl rfl rfl (Nat.le_of_ble_eq_true rfl) rfl (tx_96 hv h)
set_option maxRecDepth 10000 in
theorem tx_83x (hA : zRg A) (hp : 0 ≤ p ∧ p < 3) (hz : ∀ s, 0 ≤ s ∧ s < 3 → A (56 + 17 * s) 9 = 0 ∨ A (56 + 17 * s) 9 = 1) (hl : ¬ A (56 + 17 * p) 9 = 0) (hk : 0 ≤ kd ∧ kd < 4) (hkz : zrg kd) (hv : 0 ≤ v ∧ v < 31) (ha : zrg a) (h : ¬ zCS A kd a) : XX (d + 9) 83 [.ref 0, zci p, zci kd, zci v, zci a, zci b] (zhp A B) 0 := by
  refine XX.of (Nat.le_of_ble_eq_true rfl) rfl ?_
  refine xx_step rfl rfl rfl (fun k => rfl) ?_
  refine zx_cs (rv := none) rfl rfl rfl (.inl rfl) rfl rfl (Nat.le_of_ble_eq_true rfl) rfl (zr_92 hA hp) ?_
  refine xx_step rfl rfl rfl (fun k => rfl) ?_
  refine xx_step rfl rfl rfl (fun k => rfl) ?_
  refine zx_cv (rv := none) rfl rfl rfl rfl (Nat.le_of_ble_eq_true rfl) (zha (by decide)) zc_House rfl rfl (zr_97 hA hp hz hl) ?_
  refine xx_step rfl rfl rfl (fun k => rfl) ?_
  refine zx_lt0 rfl rfl rfl (fun x k => rfl) hkz (fun h1 => (by omega : False).elim) (fun h1 => ?_)
  refine xx_step rfl rfl rfl (fun k => rfl) ?_
  refine xx_step rfl rfl rfl (fun k => rfl) ?_
  refine zx_gt (y := 3) rfl rfl rfl (fun x y k => rfl) hkz ⟨by decide, by decide⟩ (fun h2 => (by omega : False).elim) (fun h2 => ?_)
  refine xx_step rfl rfl rfl (fun k => rfl) ?_
  refine zx_cs (rv := none) rfl rfl rfl (.inl rfl) rfl rfl (Nat.le_of_ble_eq_true rfl) rfl (zr_96 hA hv) ?_
  refine xx_step rfl rfl rfl (fun k => rfl) ?_
  refine xx_step rfl rfl rfl (fun k => rfl) ?_
  refine xx_step rfl rfl rfl (fun k => rfl) ?_
  refine zx_cv (rv := some (zci 0)) rfl rfl rfl rfl (Nat.le_of_ble_eq_true rfl) (zha (by decide)) zc_House rfl rfl (by have := zr_98 (d := d + 6) (B := B) hA hk hkz ha; rw [zb2_f h] at this; exact this) ?_
  refine zx_eq0 (x := 0) rfl rfl rfl (fun x k => rfl) ⟨by decide, by decide⟩ (fun _ => ?_) (fun h2 => absurd rfl h2)
  exact xx_throw rfl (Nat.le_of_ble_eq_true rfl)
set_option maxRecDepth 10000 in
theorem tx_83y (hA : zRg A) (hp : 0 ≤ p ∧ p < 3) (hz : ∀ s, 0 ≤ s ∧ s < 3 → A (56 + 17 * s) 9 = 0 ∨ A (56 + 17 * s) 9 = 1) (hl : ¬ A (56 + 17 * p) 9 = 0) (hk : 0 ≤ kd ∧ kd < 4) (hkz : zrg kd) (hv : 0 ≤ v ∧ v < 31) (ha : zrg a) (hca : zCS A kd a) (hb : zrg b) (h3 : kd = 3) (h : ¬ zCS A 3 b) : XX (d + 9) 83 [.ref 0, zci p, zci kd, zci v, zci a, zci b] (zhp A B) 0 := by
  refine XX.of (Nat.le_of_ble_eq_true rfl) rfl ?_
  refine xx_step rfl rfl rfl (fun k => rfl) ?_
  refine zx_cs (rv := none) rfl rfl rfl (.inl rfl) rfl rfl (Nat.le_of_ble_eq_true rfl) rfl (zr_92 hA hp) ?_
  refine xx_step rfl rfl rfl (fun k => rfl) ?_
  refine xx_step rfl rfl rfl (fun k => rfl) ?_
  refine zx_cv (rv := none) rfl rfl rfl rfl (Nat.le_of_ble_eq_true rfl) (zha (by decide)) zc_House rfl rfl (zr_97 hA hp hz hl) ?_
  refine xx_step rfl rfl rfl (fun k => rfl) ?_
  refine zx_lt0 rfl rfl rfl (fun x k => rfl) hkz (fun h1 => (by omega : False).elim) (fun h1 => ?_)
  refine xx_step rfl rfl rfl (fun k => rfl) ?_
  refine xx_step rfl rfl rfl (fun k => rfl) ?_
  refine zx_gt (y := 3) rfl rfl rfl (fun x y k => rfl) hkz ⟨by decide, by decide⟩ (fun h2 => (by omega : False).elim) (fun h2 => ?_)
  refine xx_step rfl rfl rfl (fun k => rfl) ?_
  refine zx_cs (rv := none) rfl rfl rfl (.inl rfl) rfl rfl (Nat.le_of_ble_eq_true rfl) rfl (zr_96 hA hv) ?_
  refine xx_step rfl rfl rfl (fun k => rfl) ?_
  refine xx_step rfl rfl rfl (fun k => rfl) ?_
  refine xx_step rfl rfl rfl (fun k => rfl) ?_
  refine zx_cv (rv := some (zci 1)) rfl rfl rfl rfl (Nat.le_of_ble_eq_true rfl) (zha (by decide)) zc_House rfl rfl (by have := zr_98 (d := d + 6) (B := B) hA hk hkz ha; rw [zb2_t hca] at this; exact this) ?_
  refine zx_eq0 (x := 1) rfl rfl rfl (fun x k => rfl) ⟨by decide, by decide⟩ (fun h2 => absurd h2 (by decide)) (fun _ => ?_)
  refine xx_step rfl rfl rfl (fun k => rfl) ?_
  refine xx_step rfl rfl rfl (fun k => rfl) ?_
  refine zx_eq (y := 3) rfl rfl rfl (fun x y k => rfl) hkz ⟨by decide, by decide⟩ (fun _ => ?_) (fun h2 => absurd h3 h2)
  refine xx_step rfl rfl rfl (fun k => rfl) ?_
  refine xx_step rfl rfl rfl (fun k => rfl) ?_
  refine xx_step rfl rfl rfl (fun k => rfl) ?_
  refine zx_cv (rv := some (zci 0)) rfl rfl rfl rfl (Nat.le_of_ble_eq_true rfl) (zha (by decide)) zc_House rfl rfl (by have := zr_98 (d := d + 6) (B := B) hA (kd := 3) (by decide) ⟨by decide, by decide⟩ hb; rw [zb2_f h] at this; exact this) ?_
  refine zx_eq0 (x := 0) rfl rfl rfl (fun x k => rfl) ⟨by decide, by decide⟩ (fun _ => ?_) (fun h2 => absurd rfl h2)
  refine xx_step rfl rfl rfl (fun k => rfl) ?_
  exact xx_throw rfl (Nat.le_of_ble_eq_true rfl)
set_option maxRecDepth 10000 in
theorem tx_83z (hA : zRg A) (hp : 0 ≤ p ∧ p < 3) (hz : ∀ s, 0 ≤ s ∧ s < 3 → A (56 + 17 * s) 9 = 0 ∨ A (56 + 17 * s) 9 = 1) (hl : ¬ A (56 + 17 * p) 9 = 0) (hk : 0 ≤ kd ∧ kd < 4) (hkz : zrg kd) (hv : 0 ≤ v ∧ v < 31) (ha : zrg a) (hca : zCS A kd a) (hb : zrg b) (h3 : ¬ kd = 3) (h : ¬ b = 0) : XX (d + 9) 83 [.ref 0, zci p, zci kd, zci v, zci a, zci b] (zhp A B) 0 := by
  refine XX.of (Nat.le_of_ble_eq_true rfl) rfl ?_
  refine xx_step rfl rfl rfl (fun k => rfl) ?_
  refine zx_cs (rv := none) rfl rfl rfl (.inl rfl) rfl rfl (Nat.le_of_ble_eq_true rfl) rfl (zr_92 hA hp) ?_
  refine xx_step rfl rfl rfl (fun k => rfl) ?_
  refine xx_step rfl rfl rfl (fun k => rfl) ?_
  refine zx_cv (rv := none) rfl rfl rfl rfl (Nat.le_of_ble_eq_true rfl) (zha (by decide)) zc_House rfl rfl (zr_97 hA hp hz hl) ?_
  refine xx_step rfl rfl rfl (fun k => rfl) ?_
  refine zx_lt0 rfl rfl rfl (fun x k => rfl) hkz (fun h1 => (by omega : False).elim) (fun h1 => ?_)
  refine xx_step rfl rfl rfl (fun k => rfl) ?_
  refine xx_step rfl rfl rfl (fun k => rfl) ?_
  refine zx_gt (y := 3) rfl rfl rfl (fun x y k => rfl) hkz ⟨by decide, by decide⟩ (fun h2 => (by omega : False).elim) (fun h2 => ?_)
  refine xx_step rfl rfl rfl (fun k => rfl) ?_
  refine zx_cs (rv := none) rfl rfl rfl (.inl rfl) rfl rfl (Nat.le_of_ble_eq_true rfl) rfl (zr_96 hA hv) ?_
  refine xx_step rfl rfl rfl (fun k => rfl) ?_
  refine xx_step rfl rfl rfl (fun k => rfl) ?_
  refine xx_step rfl rfl rfl (fun k => rfl) ?_
  refine zx_cv (rv := some (zci 1)) rfl rfl rfl rfl (Nat.le_of_ble_eq_true rfl) (zha (by decide)) zc_House rfl rfl (by have := zr_98 (d := d + 6) (B := B) hA hk hkz ha; rw [zb2_t hca] at this; exact this) ?_
  refine zx_eq0 (x := 1) rfl rfl rfl (fun x k => rfl) ⟨by decide, by decide⟩ (fun h2 => absurd h2 (by decide)) (fun _ => ?_)
  refine xx_step rfl rfl rfl (fun k => rfl) ?_
  refine xx_step rfl rfl rfl (fun k => rfl) ?_
  refine zx_eq (y := 3) rfl rfl rfl (fun x y k => rfl) hkz ⟨by decide, by decide⟩ (fun h2 => absurd h2 h3) (fun _ => ?_)
  refine xx_step rfl rfl rfl (fun k => rfl) ?_
  refine zx_eq0 rfl rfl rfl (fun x k => rfl) hb (fun h2 => absurd h2 h) (fun _ => ?_)
  exact xx_throw rfl (Nat.le_of_ble_eq_true rfl)
set_option maxRecDepth 10000 in
theorem tx_84a (hp : zrg p) (h : ¬ (0 ≤ p ∧ p < 3)) : XX (d + 9) 84 [.ref 0, zci p, zci v] (zhp A B) 2 := by
  refine XX.of (Nat.le_of_ble_eq_true rfl) rfl ?_
  refine xx_step rfl rfl rfl (fun k => rfl) ?_
  exact zx_csX rfl rfl rfl rfl rfl (Nat.le_of_ble_eq_true rfl) rfl (tx_92 hp h)
set_option maxRecDepth 10000 in
theorem tx_84b (hA : zRg A) (hp : 0 ≤ p ∧ p < 3) (h : A (56 + 17 * p) 9 = 0) : XX (d + 9) 84 [.ref 0, zci p, zci v] (zhp A B) 1 := by
  refine XX.of (Nat.le_of_ble_eq_true rfl) rfl ?_
  refine xx_step rfl rfl rfl (fun k => rfl) ?_
  refine zx_cs (rv := none) rfl rfl rfl (.inl rfl) rfl rfl (Nat.le_of_ble_eq_true rfl) rfl (zr_92 hA hp) ?_
  refine xx_step rfl rfl rfl (fun k => rfl) ?_
  refine xx_step rfl rfl rfl (fun k => rfl) ?_
  exact zx_cvX rfl rfl rfl rfl (Nat.le_of_ble_eq_true rfl) (zha (by decide)) zc_House rfl rfl (tx_97 hA hp h)
set_option maxRecDepth 10000 in
theorem tx_84c (hA : zRg A) (hp : 0 ≤ p ∧ p < 3) (hz : ∀ s, 0 ≤ s ∧ s < 3 → A (56 + 17 * s) 9 = 0 ∨ A (56 + 17 * s) 9 = 1) (hl : ¬ A (56 + 17 * p) 9 = 0) (hv : zrg v) (h : ¬ (0 ≤ v ∧ v < 31)) : XX (d + 9) 84 [.ref 0, zci p, zci v] (zhp A B) 0 := by
  refine XX.of (Nat.le_of_ble_eq_true rfl) rfl ?_
  refine xx_step rfl rfl rfl (fun k => rfl) ?_
  refine zx_cs (rv := none) rfl rfl rfl (.inl rfl) rfl rfl (Nat.le_of_ble_eq_true rfl) rfl (zr_92 hA hp) ?_
  refine xx_step rfl rfl rfl (fun k => rfl) ?_
  refine xx_step rfl rfl rfl (fun k => rfl) ?_
  refine zx_cv (rv := none) rfl rfl rfl rfl (Nat.le_of_ble_eq_true rfl) (zha (by decide)) zc_House rfl rfl (zr_97 hA hp hz hl) ?_
  refine xx_step rfl rfl rfl (fun k => rfl) ?_
  exact zx_csX rfl rfl rfl rfl rfl (Nat.le_of_ble_eq_true rfl) rfl (tx_96 hv h)
set_option maxRecDepth 10000 in
theorem tx_85a (hp : zrg p) (h : ¬ (0 ≤ p ∧ p < 3)) : XX (d + 9) 85 [.ref 0, zci p, zci r, zci w] (zhp A B) 2 := by
  refine XX.of (Nat.le_of_ble_eq_true rfl) rfl ?_
  refine xx_step rfl rfl rfl (fun k => rfl) ?_
  exact zx_csX rfl rfl rfl rfl rfl (Nat.le_of_ble_eq_true rfl) rfl (tx_92 hp h)
set_option maxRecDepth 10000 in
theorem tx_85b (hA : zRg A) (hp : 0 ≤ p ∧ p < 3) (hr : zrg r) (h : ¬ (0 ≤ r ∧ r < A 1 6)) : XX (d + 9) 85 [.ref 0, zci p, zci r, zci w] (zhp A B) 2 := by
  refine XX.of (Nat.le_of_ble_eq_true rfl) rfl ?_
  refine xx_step rfl rfl rfl (fun k => rfl) ?_
  refine zx_cs (rv := none) rfl rfl rfl (.inl rfl) rfl rfl (Nat.le_of_ble_eq_true rfl) rfl (zr_92 hA hp) ?_
  refine xx_step rfl rfl rfl (fun k => rfl) ?_
  refine xx_step rfl rfl rfl (fun k => rfl) ?_
  exact zx_cvX rfl rfl rfl rfl (Nat.le_of_ble_eq_true rfl) (zha (by decide)) zc_House rfl rfl (tx_93 hA hr h)
set_option maxRecDepth 10000 in
theorem tx_85c (hA : zRg A) (hp : 0 ≤ p ∧ p < 3) (hr : 0 ≤ r ∧ r < A 1 6) (hrz : zrg r) (h : A (56 + 17 * p) 9 = 0) : XX (d + 9) 85 [.ref 0, zci p, zci r, zci w] (zhp A B) 1 := by
  refine XX.of (Nat.le_of_ble_eq_true rfl) rfl ?_
  refine xx_step rfl rfl rfl (fun k => rfl) ?_
  refine zx_cs (rv := none) rfl rfl rfl (.inl rfl) rfl rfl (Nat.le_of_ble_eq_true rfl) rfl (zr_92 hA hp) ?_
  refine xx_step rfl rfl rfl (fun k => rfl) ?_
  refine xx_step rfl rfl rfl (fun k => rfl) ?_
  refine zx_cv (rv := none) rfl rfl rfl rfl (Nat.le_of_ble_eq_true rfl) (zha (by decide)) zc_House rfl rfl (zr_93 hA hr hrz) ?_
  refine xx_step rfl rfl rfl (fun k => rfl) ?_
  refine xx_step rfl rfl rfl (fun k => rfl) ?_
  exact zx_cvX rfl rfl rfl rfl (Nat.le_of_ble_eq_true rfl) (zha (by decide)) zc_House rfl rfl (tx_97 hA hp h)
set_option maxRecDepth 10000 in
theorem tx_86a (hp : zrg p) (h : ¬ (0 ≤ p ∧ p < 3)) : XX (d + 9) 86 [.ref 0, zci p, zci w] (zhp A B) 2 := by
  refine XX.of (Nat.le_of_ble_eq_true rfl) rfl ?_
  refine xx_step rfl rfl rfl (fun k => rfl) ?_
  exact zx_csX rfl rfl rfl rfl rfl (Nat.le_of_ble_eq_true rfl) rfl (tx_92 hp h)
set_option maxRecDepth 10000 in
theorem tx_86b (hA : zRg A) (hp : 0 ≤ p ∧ p < 3) (hw : zrg w) (h : ¬ (0 ≤ w ∧ w < 13)) : XX (d + 9) 86 [.ref 0, zci p, zci w] (zhp A B) 0 := by
  refine XX.of (Nat.le_of_ble_eq_true rfl) rfl ?_
  refine xx_step rfl rfl rfl (fun k => rfl) ?_
  refine zx_cs (rv := none) rfl rfl rfl (.inl rfl) rfl rfl (Nat.le_of_ble_eq_true rfl) rfl (zr_92 hA hp) ?_
  refine xx_step rfl rfl rfl (fun k => rfl) ?_
  refine zx_get rfl rfl rfl (zha (by decide)) zc_House rfl rfl ?_
  refine xx_step rfl rfl rfl (fun k => rfl) ?_
  refine zx_aald rfl rfl (zha (by decide)) zc_servers (by decide) (by decide) ⟨by omega, by omega⟩ (if_pos (by omega)) ?_
  refine xx_step rfl rfl rfl (fun k => rfl) ?_
  refine xx_step rfl rfl rfl (fun k => rfl) ?_
  refine zx_swd (pc' := 154) rfl rfl hw (by omega) (fun k => rfl) ?_
  exact xx_throw rfl (Nat.le_of_ble_eq_true rfl)
set_option maxRecDepth 10000 in
theorem tx_87 (hp : zrg p) (h : ¬ (0 ≤ p ∧ p < 3)) : XX (d + 9) 87 [.ref 0, zci p, zci k] (zhp A B) 2 := by
  refine XX.of (Nat.le_of_ble_eq_true rfl) rfl ?_
  refine xx_step rfl rfl rfl (fun k => rfl) ?_
  exact zx_csX rfl rfl rfl rfl rfl (Nat.le_of_ble_eq_true rfl) rfl (tx_92 hp h)
set_option maxRecDepth 10000 in
theorem tx_88a (hA : zRg A) (hp : zrg p) (hk : zrg k) (h : ¬ ((0 ≤ p ∧ p < 3) ∧ (1 ≤ k ∧ k ≤ A (44 + 2 * p) 1))) : XX (d + 9) 88 [.ref 0, zci p, zci k, zci w] (zhp A B) 2 := by
  refine XX.of (Nat.le_of_ble_eq_true rfl) rfl ?_
  refine xx_step rfl rfl rfl (fun k => rfl) ?_
  refine xx_step rfl rfl rfl (fun k => rfl) ?_
  refine xx_step rfl rfl rfl (fun k => rfl) ?_
  exact zx_cvX rfl rfl rfl rfl (Nat.le_of_ble_eq_true rfl) (zha (by decide)) zc_House rfl rfl (tx_94 hA hp hk h)
set_option maxRecDepth 10000 in
theorem tx_88b (hA : zRg A) (hp : 0 ≤ p ∧ p < 3) (hk : 1 ≤ k ∧ k ≤ A (44 + 2 * p) 1) (hkz : zrg k) (hw : zrg w) (h : ¬ (0 ≤ w ∧ w ≤ 4)) : XX (d + 9) 88 [.ref 0, zci p, zci k, zci w] (zhp A B) 0 := by
  refine XX.of (Nat.le_of_ble_eq_true rfl) rfl ?_
  refine xx_step rfl rfl rfl (fun k => rfl) ?_
  refine xx_step rfl rfl rfl (fun k => rfl) ?_
  refine xx_step rfl rfl rfl (fun k => rfl) ?_
  refine zx_cv (rv := none) rfl rfl rfl rfl (Nat.le_of_ble_eq_true rfl) (zha (by decide)) zc_House rfl rfl (zr_94 hA hp hk hkz) ?_
  refine xx_step rfl rfl rfl (fun k => rfl) ?_
  refine zx_lt0 rfl rfl rfl (fun x k => rfl) hw (fun h1 => ?_) (fun h1 => ?_)
  · exact xx_throw rfl (Nat.le_of_ble_eq_true rfl)
  · refine xx_step rfl rfl rfl (fun k => rfl) ?_
    refine xx_step rfl rfl rfl (fun k => rfl) ?_
    refine zx_gt (y := 4) rfl rfl rfl (fun x y k => rfl) hw ⟨by decide, by decide⟩ (fun h2 => ?_) (fun h2 => ?_)
    · exact xx_throw rfl (Nat.le_of_ble_eq_true rfl)
    · exact (by omega : False).elim
set_option maxRecDepth 10000 in
theorem tx_89 (hv : zrg v) (h : ¬ (0 ≤ v ∧ v < 31)) : XX (d + 9) 89 [.ref 0, zci v, zci k] (zhp A B) 0 := by
  refine XX.of (Nat.le_of_ble_eq_true rfl) rfl ?_
  refine xx_step rfl rfl rfl (fun k => rfl) ?_
  exact zx_csX rfl rfl rfl rfl rfl (Nat.le_of_ble_eq_true rfl) rfl (tx_96 hv h)
set_option maxRecDepth 10000 in
theorem tx_90a (hA : zRg A) (hr : zrg r) (h : ¬ (0 ≤ r ∧ r < A 1 6)) : XX (d + 9) 90 [.ref 0, zci r, zci w] (zhp A B) 2 := by
  refine XX.of (Nat.le_of_ble_eq_true rfl) rfl ?_
  refine xx_step rfl rfl rfl (fun k => rfl) ?_
  refine xx_step rfl rfl rfl (fun k => rfl) ?_
  exact zx_cvX rfl rfl rfl rfl (Nat.le_of_ble_eq_true rfl) (zha (by decide)) zc_House rfl rfl (tx_93 hA hr h)
set_option maxRecDepth 10000 in
theorem tx_90b (hA : zRg A) (hr : 0 ≤ r ∧ r < A 1 6) (hrz : zrg r) (hw : zrg w) (h : ¬ (0 ≤ w ∧ w < 4)) : XX (d + 9) 90 [.ref 0, zci r, zci w] (zhp A B) 0 := by
  refine XX.of (Nat.le_of_ble_eq_true rfl) rfl ?_
  refine xx_step rfl rfl rfl (fun k => rfl) ?_
  refine xx_step rfl rfl rfl (fun k => rfl) ?_
  refine zx_cv (rv := none) rfl rfl rfl rfl (Nat.le_of_ble_eq_true rfl) (zha (by decide)) zc_House rfl rfl (zr_93 hA hr hrz) ?_
  refine xx_step rfl rfl rfl (fun k => rfl) ?_
  refine zx_swd (pc' := 80) rfl rfl hw (by omega) (fun k => rfl) ?_
  exact xx_throw rfl (Nat.le_of_ble_eq_true rfl)
set_option maxRecDepth 10000 in
theorem tx_76a (hc : zrg c) (h : ¬ (0 ≤ c ∧ c < 4)) : XX (d + 9) 76 [.ref 0, zci c, zci k, zci q, zci n] (zhp A B) 0 := by
  refine XX.of (Nat.le_of_ble_eq_true rfl) rfl ?_
  refine xx_step rfl rfl rfl (fun k => rfl) ?_
  refine zx_lt0 rfl rfl rfl (fun x k => rfl) hc (fun h1 => ?_) (fun h1 => ?_)
  · exact xx_throw rfl (Nat.le_of_ble_eq_true rfl)
  · refine xx_step rfl rfl rfl (fun k => rfl) ?_
    refine xx_step rfl rfl rfl (fun k => rfl) ?_
    refine zx_lt (y := 4) rfl rfl rfl (fun x y k => rfl) hc ⟨by decide, by decide⟩ (fun h2 => (by omega : False).elim) (fun h2 => ?_)
    exact xx_throw rfl (Nat.le_of_ble_eq_true rfl)
set_option maxRecDepth 10000 in
theorem tx_76b (hc : 0 ≤ c ∧ c < 4) (hcz : zrg c) (hk : zrg k) (h : ¬ (0 ≤ k ∧ k ≤ 2)) : XX (d + 9) 76 [.ref 0, zci c, zci k, zci q, zci n] (zhp A B) 0 := by
  refine XX.of (Nat.le_of_ble_eq_true rfl) rfl ?_
  refine xx_step rfl rfl rfl (fun k => rfl) ?_
  refine zx_lt0 rfl rfl rfl (fun x k => rfl) hcz (fun h1 => (by omega : False).elim) (fun h1 => ?_)
  refine xx_step rfl rfl rfl (fun k => rfl) ?_
  refine xx_step rfl rfl rfl (fun k => rfl) ?_
  refine zx_lt (y := 4) rfl rfl rfl (fun x y k => rfl) hcz ⟨by decide, by decide⟩ (fun h2 => ?_) (fun h2 => (by omega : False).elim)
  refine xx_step rfl rfl rfl (fun k => rfl) ?_
  refine zx_lt0 rfl rfl rfl (fun x k => rfl) hk (fun h1 => ?_) (fun h1 => ?_)
  · exact xx_throw rfl (Nat.le_of_ble_eq_true rfl)
  · refine xx_step rfl rfl rfl (fun k => rfl) ?_
    refine xx_step rfl rfl rfl (fun k => rfl) ?_
    refine zx_gt (y := 2) rfl rfl rfl (fun x y k => rfl) hk ⟨by decide, by decide⟩ (fun h2 => ?_) (fun h2 => (by omega : False).elim)
    exact xx_throw rfl (Nat.le_of_ble_eq_true rfl)
set_option maxRecDepth 10000 in
theorem tx_76c (hc : 0 ≤ c ∧ c < 4) (hcz : zrg c) (hk : 0 ≤ k ∧ k ≤ 2) (hkz : zrg k) (hq : zrg q) (h : ¬ (0 ≤ q ∧ q < 4)) : XX (d + 9) 76 [.ref 0, zci c, zci k, zci q, zci n] (zhp A B) 0 := by
  refine XX.of (Nat.le_of_ble_eq_true rfl) rfl ?_
  refine xx_step rfl rfl rfl (fun k => rfl) ?_
  refine zx_lt0 rfl rfl rfl (fun x k => rfl) hcz (fun h1 => (by omega : False).elim) (fun h1 => ?_)
  refine xx_step rfl rfl rfl (fun k => rfl) ?_
  refine xx_step rfl rfl rfl (fun k => rfl) ?_
  refine zx_lt (y := 4) rfl rfl rfl (fun x y k => rfl) hcz ⟨by decide, by decide⟩ (fun h2 => ?_) (fun h2 => (by omega : False).elim)
  refine xx_step rfl rfl rfl (fun k => rfl) ?_
  refine zx_lt0 rfl rfl rfl (fun x k => rfl) hkz (fun h1 => (by omega : False).elim) (fun h1 => ?_)
  refine xx_step rfl rfl rfl (fun k => rfl) ?_
  refine xx_step rfl rfl rfl (fun k => rfl) ?_
  refine zx_gt (y := 2) rfl rfl rfl (fun x y k => rfl) hkz ⟨by decide, by decide⟩ (fun h2 => (by omega : False).elim) (fun h2 => ?_)
  refine xx_step rfl rfl rfl (fun k => rfl) ?_
  refine zx_lt0 rfl rfl rfl (fun x k => rfl) hq (fun h1 => ?_) (fun h1 => ?_)
  · exact xx_throw rfl (Nat.le_of_ble_eq_true rfl)
  · refine xx_step rfl rfl rfl (fun k => rfl) ?_
    refine xx_step rfl rfl rfl (fun k => rfl) ?_
    refine zx_lt (y := 4) rfl rfl rfl (fun x y k => rfl) hq ⟨by decide, by decide⟩ (fun h2 => (by omega : False).elim) (fun h2 => ?_)
    exact xx_throw rfl (Nat.le_of_ble_eq_true rfl)
set_option maxRecDepth 10000 in
theorem tx_76d (hA : zRg A) (hc : 0 ≤ c ∧ c < 4) (hcz : zrg c) (hk : 0 ≤ k ∧ k ≤ 2) (hkz : zrg k) (hq : 0 ≤ q ∧ q < 4) (hqz : zrg q) (h : 60 ≤ A 1 6) : XX (d + 9) 76 [.ref 0, zci c, zci k, zci q, zci n] (zhp A B) 1 := by
  refine XX.of (Nat.le_of_ble_eq_true rfl) rfl ?_
  refine xx_step rfl rfl rfl (fun k => rfl) ?_
  refine zx_lt0 rfl rfl rfl (fun x k => rfl) hcz (fun h1 => (by omega : False).elim) (fun h1 => ?_)
  refine xx_step rfl rfl rfl (fun k => rfl) ?_
  refine xx_step rfl rfl rfl (fun k => rfl) ?_
  refine zx_lt (y := 4) rfl rfl rfl (fun x y k => rfl) hcz ⟨by decide, by decide⟩ (fun h2 => ?_) (fun h2 => (by omega : False).elim)
  refine xx_step rfl rfl rfl (fun k => rfl) ?_
  refine zx_lt0 rfl rfl rfl (fun x k => rfl) hkz (fun h1 => (by omega : False).elim) (fun h1 => ?_)
  refine xx_step rfl rfl rfl (fun k => rfl) ?_
  refine xx_step rfl rfl rfl (fun k => rfl) ?_
  refine zx_gt (y := 2) rfl rfl rfl (fun x y k => rfl) hkz ⟨by decide, by decide⟩ (fun h2 => (by omega : False).elim) (fun h2 => ?_)
  refine xx_step rfl rfl rfl (fun k => rfl) ?_
  refine zx_lt0 rfl rfl rfl (fun x k => rfl) hqz (fun h1 => (by omega : False).elim) (fun h1 => ?_)
  refine xx_step rfl rfl rfl (fun k => rfl) ?_
  refine xx_step rfl rfl rfl (fun k => rfl) ?_
  refine zx_lt (y := 4) rfl rfl rfl (fun x y k => rfl) hqz ⟨by decide, by decide⟩ (fun h2 => ?_) (fun h2 => (by omega : False).elim)
  refine xx_step rfl rfl rfl (fun k => rfl) ?_
  refine zx_get rfl rfl rfl (zha (by decide)) zc_House rfl rfl ?_
  refine zx_cv (rv := some (zci 1)) rfl rfl rfl rfl (Nat.le_of_ble_eq_true rfl) (zha (by decide)) zc_Requests rfl rfl (by have := zr_34 (d := d + 7) (B := B) hA; rw [zb2_t h] at this; exact this) ?_
  refine zx_eq0 (x := 1) rfl rfl rfl (fun x k => rfl) ⟨by decide, by decide⟩ (fun h2 => absurd h2 (by decide)) (fun _ => ?_)
  exact xx_throw rfl (Nat.le_of_ble_eq_true rfl)
end ZTH
