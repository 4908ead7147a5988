/-! reading on: class and reference alike -/
def zSt (B : ZM) (t : Int) : Int := B (59 + 17 * t) 0 + B (59 + 17 * t) 1 + B (59 + 17 * t) 2
theorem zSt_up {B : ZM} {t p x : Int} (hp : 0 ≤ p ∧ p < 3) : zSt (zup B (59 + 17 * t) p x) t = zSt B t - B (59 + 17 * t) p + x := by
  have h2 : p = 0 ∨ p = 1 ∨ p = 2 := by omega
  unfold zSt
  rcases h2 with rfl | rfl | rfl <;> simp [zup] <;> omega
theorem zSt_c {A X : ZM} {t : Int} (h : X (59 + 17 * t) = A (59 + 17 * t)) : zSt X t = zSt A t := by unfold zSt; rw [h]
theorem zSt_303 {B C : ZM} {t : Int} (hI : zI B C) (ht : 0 ≤ t ∧ t < 3) : 3 ≤ zSt B t ∧ zSt B t ≤ 303 := by
  have q : ∀ p, 0 ≤ p ∧ p < 3 → 1 ≤ B (59 + 17 * t) p ∧ B (59 + 17 * t) p ≤ 101 := fun p hp => by
    have := (hI.2.2.2.2.2.2.1 t ht).1.2.2.2.2.1 p hp
    have := hI.2.2.1.1.1 p hp
    omega
  have q0 := q 0 (by decide)
  have q1 := q 1 (by decide)
  have q2 := q 2 (by decide)
  unfold zSt
  omega
/-- nobody is next -/
theorem zNS_n {B : ZM} {t : Int} (ho : zOw B t) : zNS B t = -1 ↔ ∀ p, 0 ≤ p ∧ p < 3 → ¬ zRd B t p := by
  have ho' : B (59 + 17 * t) t = B (44 + 2 * t) 1 + 1 := ho
  have e1 : zNS B t = zNSg B t 0 := if_neg (by omega)
  rw [e1, zNSg_S (by omega), zNSg_S (p := 0 + 1) (by omega), zNSg_S (p := 0 + 1 + 1) (by omega), zNSg_N (p := 0 + 1 + 1 + 1) (by omega)]
  constructor
  · intro h p hp hr
    have h2 : p = 0 ∨ p = 1 ∨ p = 2 := by omega
    by_cases g0 : zRd B t 0
    · rw [if_pos g0] at h; omega
    · rw [if_neg g0] at h
      by_cases g1 : zRd B t (0 + 1)
      · rw [if_pos g1] at h; omega
      · rw [if_neg g1] at h
        by_cases g2 : zRd B t (0 + 1 + 1)
        · rw [if_pos g2] at h; omega
        · rcases h2 with rfl | rfl | rfl
          · exact g0 hr
          · exact g1 hr
          · exact g2 hr
  · intro h
    rw [if_neg (h 0 (by decide)), if_neg (h (0 + 1) (by decide)), if_neg (h (0 + 1 + 1) (by decide))]
theorem zNS_f {B : ZM} {t : Int} (ho : zOw B t) {q : Int} (hq : 0 ≤ q ∧ q < zNS B t) : ¬ zRd B t q := by
  have ho' : B (59 + 17 * t) t = B (44 + 2 * t) 1 + 1 := ho
  have e1 : zNS B t = zNSg B t 0 := if_neg (by omega)
  rw [e1, zNSg_S (by omega), zNSg_S (p := 0 + 1) (by omega), zNSg_S (p := 0 + 1 + 1) (by omega), zNSg_N (p := 0 + 1 + 1 + 1) (by omega)] at hq
  by_cases g0 : zRd B t 0
  · rw [if_pos g0] at hq; omega
  · rw [if_neg g0] at hq
    by_cases g1 : zRd B t (0 + 1)
    · rw [if_pos g1] at hq
      rw [show q = 0 by omega]; exact g0
    · rw [if_neg g1] at hq
      by_cases g2 : zRd B t (0 + 1 + 1)
      · rw [if_pos g2] at hq
        have : q = 0 ∨ q = 1 := by omega
        rcases this with rfl | rfl
        · exact g0
        · exact g1
      · rw [if_neg g2] at hq; omega
section ZRO
variable {Z B C W : ZM} {t : Int}
theorem zNr_i (hI : zI B C) (ht : 0 ≤ t ∧ t < 3) {p : Int} (hp : 0 ≤ p ∧ p < 3) : zNr B t p ↔ ¬ zRd B t p := by
  obtain ⟨⟨a1, a2, a3, a4, a5, a6, a7, a8, a9, a10⟩, -⟩ := hI.2.2.2.2.2.2.1 t ht
  have hn := a5 p hp
  have hc := hI.2.2.1.1.1 p hp
  unfold zNr zRd
  generalize hw : zWt B t p (B (59 + 17 * t) p) = ww
  constructor
  · rintro (h | h | h | h) ⟨q1, q2, q3⟩
    · exact q1 h
    · exact h (a6 p _ hp (by omega) q2.2)
    · exact q2.2 h
    · exact q3 h
  · intro h
    by_cases e1 : p = t
    · exact .inl e1
    · by_cases e2 : 1 ≤ B (59 + 17 * t) p ∧ B (59 + 17 * t) p ≤ B (44 + 2 * p) 1
      · by_cases e3 : B (58 + 17 * t) (p * 101 + B (59 + 17 * t) p) = 0
        · exact .inr (.inr (.inl e3))
        · exact .inr (.inr (.inr (Classical.byContradiction fun q => h ⟨e1, ⟨by omega, e3⟩, q⟩)))
      · exact .inr (.inl e2)
theorem zRA_s {n : Nat} {c : Int} : zRA t (n + 1) B c = if zNS B t = -1 then (c, B) else zRA t n (zRS B t) (if zNS B t = t then c else c + 1) := rfl
/-- one message of another's, with what it makes the server certify -/
theorem zM (hI : zI B C) (ht : 0 ≤ t ∧ t < 3) (hl : B (56 + 17 * t) 9 = 0) (ho : zOw B t) (hFx : zFx B t) (hn : ¬ zNS B t = -1) (d : Nat) : ∃ (E C' : ZM) (j : Nat), (j = 1 ∨ j = 2) ∧ (∀ n c, zRA t (n + j) B c = zRA t n E (c + 1)) ∧ XR (d + 18) 122 [.ref 107, zci t, zci (zNS B t), zci (B (59 + 17 * t) (zNS B t))] (zhp Z (zmg (zup B (59 + 17 * t) (zNS B t) (B (59 + 17 * t) (zNS B t) + 1)) C)) (none, zhp Z (zmg E C')) ∧ zI E C' ∧ zFx E t ∧ zOw E t ∧ zFr B E t ∧ zSt E t = zSt B t + j := by
  obtain ⟨n1, n2, n3, n4⟩ := zNS_c hI ht hl (zOw_4 ho) hn
  have ho' : B (59 + 17 * t) t = B (44 + 2 * t) 1 + 1 := ho
  have n5 : zNS B t ≠ t := by
    rcases n4 with q | q
    · rw [q.1] at q; omega
    · exact q.1
  obtain ⟨y1, y2, y3, y4, y5, y6, y7, y8⟩ := zNx_Y hI ht n1 rfl n2 n3 (.inr ⟨n5, ho⟩) rfl
  obtain ⟨-, t2, -, t4⟩ := zTk_Y y1 y2 ht n1 y3 y4 y5 y6 y7
  have eS : zRS B t = zD (ztake (zup B (59 + 17 * t) (zNS B t) (B (59 + 17 * t) (zNS B t) + 1)) t (zNS B t) (B (59 + 17 * t) (zNS B t))) t := rfl
  have lY : zup B (59 + 17 * t) (zNS B t) (B (59 + 17 * t) (zNS B t) + 1) (56 + 17 * t) 9 = 0 := by rw [zup_row (by omega)]; exact hl
  have sY : zSt (zup B (59 + 17 * t) (zNS B t) (B (59 + 17 * t) (zNS B t) + 1)) t = zSt B t + 1 := by rw [zSt_up n1]; omega
  by_cases hX : zOw (ztake (zup B (59 + 17 * t) (zNS B t) (B (59 + 17 * t) (zNS B t) + 1)) t (zNS B t) (B (59 + 17 * t) (zNS B t))) t
  · obtain ⟨C', j1, j2⟩ := zR1 (Z := Z) y1 y2 ht n1 y3 y4 y5 y6 y7 hX d
    obtain ⟨d1, d2, d3, d4, d5⟩ := zD_all j1 ht
    refine ⟨zRS B t, _, 1, .inl rfl, fun n c => by rw [zRA_s, if_neg hn, if_neg n5], j2.le (by omega), d3, d4, ?_, ?_, ?_⟩
    · rw [eS]; exact zOw_c hX (zD_row (by omega) (by omega)) (zD_row (by omega) (by omega))
    · exact zFr_t y8 (zFr_t t2 (zFr_D j1 ht))
    · rw [eS, zSt_c (zD_row (by omega) (by omega)), zSt_c t4, sY]; omega
  · obtain ⟨r1, r2, C', r3, r4, r5, r6, r7, r8⟩ := zR2 (Z := Z) y1 y2 ht lY (zFx_59 hFx) n1 y3 y4 y5 y6 y7 rfl hX rfl d
    rw [t4] at r1
    generalize hXe : ztake (zup B (59 + 17 * t) (zNS B t) (B (59 + 17 * t) (zNS B t) + 1)) t (zNS B t) (B (59 + 17 * t) (zNS B t)) = X at *
    have e59 : zD X t (59 + 17 * t) = X (59 + 17 * t) := zD_row (by omega) (by omega)
    have e44 : zD X t (44 + 2 * t) = X (44 + 2 * t) := zD_row (by omega) (by omega)
    have hns : zNS (zD X t) t = t := if_pos (by rw [e59, e44, t4, r1]; omega)
    have eS2 : zRS (zD X t) t = zD (ztake (zup X (59 + 17 * t) t (X (44 + 2 * t) 1 + 1)) t t (X (44 + 2 * t) 1)) t := by
      unfold zRS
      rw [hns, e59, t4, r1]
      exact r2
    refine ⟨_, C', 2, .inr rfl, fun n c => ?_, r3, r4, r5, r6, zFr_t y8 r7, ?_⟩
    · rw [show n + 2 = (n + 1) + 1 from rfl, zRA_s, if_neg hn, if_neg n5, eS, zRA_s, if_neg (by rw [hns]; omega), if_pos hns, eS2]
    · rw [zSt_c r8, zSt_up ht, r1, sY]; omega
theorem zRO (ht : 0 ≤ t ∧ t < 3) (d : Nat) : ∀ (m : Nat) (B C : ZM) (n : Nat), zI B C → B (56 + 17 * t) 9 = 0 → zOw B t → zFx B t → 303 - zSt B t ≤ m → m ≤ n → ∃ (B' C' : ZM) (r : Int), (∀ c, zRA t n B c = (c + r, B')) ∧ (∀ c o4, XG (d + 18) 128 4 [some (.ref 107), some (zci t), some (zci c), some (zci 0), o4] [] (zhp Z (zmg B C)) (some (zci (c + r)), zhp Z (zmg B' C'))) ∧ zI B' C' ∧ zOw B' t ∧ zFx B' t ∧ zFr B B' t ∧ zNS B' t = -1 := by
  intro m
  induction m using Nat.strongRecOn with
  | ind m ih =>
    intro B C n hI hl ho hFx hm hmn
    obtain ⟨⟨a1, a2, a3, a4, a5, a6, a7, a8, a9, a10⟩, -⟩ := hI.2.2.2.2.2.2.1 t ht
    have hnx : ∀ p, 0 ≤ p ∧ p < 3 → 1 ≤ B (59 + 17 * t) p ∧ B (59 + 17 * t) p ≤ 101 := fun p hp => by
      have := a5 p hp
      have := hI.2.2.1.1.1 p hp
      omega
    by_cases hn : zNS B t = -1
    · refine ⟨B, C, 0, fun c => ?_, fun c o4 => ?_, hI, ho, hFx, zFr_l hI ht (fun _ _ => rfl) rfl rfl (Int.le_refl _) rfl, hn⟩
      · rw [Int.add_zero]
        cases n with
        | zero => rfl
        | succ n => rw [zRA_s, if_pos hn]
      · rw [Int.add_zero]
        exact zq_128n (d := d + 8) hI.1 hI.2.1 hI.2.2.1.1 ht hnx (by omega) (fun p hp => (zNr_i hI ht hp).mpr ((zNS_n ho).mp hn p hp))
    · obtain ⟨E, C1, j, hj, e1, e2, e3, e4, e5, e6, e7⟩ := zM (Z := Z) hI ht hl ho hFx hn d
      obtain ⟨n1, n2, n3, n4⟩ := zNS_c hI ht hl (zOw_4 ho) hn
      have h303 := zSt_303 e3 ht
      obtain ⟨B', C', r, i1, i2, i3, i4, i5, i6, i7⟩ := ih (m - j) (by omega) E C1 (n - j) e3 (e6.2.2.1.trans hl) e5 e4 (by omega) (by omega)
      refine ⟨B', C', 1 + r, fun c => ?_, fun c o4 => ?_, i3, i4, i5, zFr_t e6 i6, i7⟩
      · rw [show n = (n - j) + j by omega, e1, i1, show c + (1 + r) = c + 1 + r by omega]
      · rw [show c + (1 + r) = c + 1 + r by omega]
        have hrd : ¬ zNr B t (zNS B t) := fun q => by
          rcases n4 with z | z
          · have ho' : B (59 + 17 * t) t = B (44 + 2 * t) 1 + 1 := ho
            rw [z.1] at z; omega
          · exact (zNr_i hI ht n1).mp q z.2.2
        exact zq_128y (d := d + 2) hI.1 hI.2.1 hI.2.2.1.1 ht hnx (by omega) n1.2 (fun q hq => (zNr_i hI ht (by omega)).mpr (zNS_f ho hq)) hrd e2 (fun o => i2 (c + 1) o)
theorem z128 {d : Nat} {σ : XS} {r : Option Value × XS} (h : ∀ o4, XG d 128 4 [some (.ref 107), some (zci t), some (zci 0), some (zci 0), o4] [] σ r) : XR (d + 1) 128 [.ref 107, zci t] σ r := by
  refine XR.of (Nat.le_of_ble_eq_true rfl) rfl ?_
  iterate 4 refine xg_step rfl rfl (fun k => rfl) ?_
  exact h none
theorem zFx_ent {kd v a b : Int} (hI : zI W C) (H : zAr W t kd v a b) (hkd : kd ≠ 3) (h : zFx W t) : zFx (zent W t kd v a b) t := by
  have h20 := (zRw_2 hI.2.2.2.1).2
  have ht := H.2.1
  have x10 : zent W t kd v a b 10 = W 10 := by
    funext w
    rw [zent_op H, if_neg (fun q => hkd q.2.2.1)]
  unfold zFx zVo zNT
  rw [x10, zent_srv H h20 (c := 56 + 17 * t) (by omega), zent_srv H h20 (c := 60 + 17 * t) (by omega), zent_srv H h20 (c := 61 + 17 * t) (by omega), zent_srv H h20 (c := 62 + 17 * t) (by omega)]
  exact h
/-- a message of its own, read at once -/
theorem zM0 {kd v a b : Int} (hI : zI W C) (ho : zOw W t) (ht : 0 ≤ t ∧ t < 3) (hl : W (56 + 17 * t) 9 = 0) (hFx : zFx W t) (hkd : kd = 0 ∨ kd = 2) (hv : 0 ≤ v ∧ v < 31) (ha : 0 ≤ a ∧ a < 1000) (hb : 0 ≤ b ∧ b < 1000) (hr : kd = 0 → a < W 1 6) (hf : W (44 + 2 * t) 1 < 100) (hy : kd = 0 ∨ kd = 1 → v = W (56 + 17 * t) 7 ∧ ¬ W (56 + 17 * t) 8 = 0) (d : Nat) : (∃ C0, zI (zent W t kd v a b) C0) ∧ zV4 (zent W t kd v a b) t ∧ zent W t kd v a b (56 + 17 * t) 9 = 0 ∧ ∃ (E C' : ZM) (j : Nat), (j = 1 ∨ j = 2) ∧ (∀ n c, zRA t (n + j) (zent W t kd v a b) c = zRA t n E c) ∧ XR (d + 19) 121 [.ref 107, zci t, zci kd, zci v, zci a, zci b] (zhp Z (zmg W C)) (some (zci (W (44 + 2 * t) 1 + 1)), zhp Z (zmg E C')) ∧ zI E C' ∧ zFx E t ∧ zOw E t ∧ zFr W E t ∧ zSt E t = zSt W t + j := by
  have h2 := (zRw_2 hI.2.2.2.1).2
  have hc := hI.2.2.1.1.1 t ht
  have h15 := zI_15 hI
  obtain ⟨H, i1, i2⟩ := zI_ent hI ht (by omega) hv ha hb hf hr
  obtain ⟨w1, w2, w3⟩ := zOwn_Y hI ho H i1 hy
  obtain ⟨y1, y2, y3, y4, y5, y6, y7, y8⟩ := zNx_Y i1 ht ht w1 (by rw [w2]; omega) w3 (.inl ⟨rfl, w2.symm⟩) rfl
  obtain ⟨-, t2, -, t4⟩ := zTk_Y y1 y2 ht ht y3 y4 y5 y6 y7
  have lX : zent W t kd v a b (56 + 17 * t) 9 = 0 := by rw [zent_srv H h2 (by omega)]; exact hl
  have v4 : zV4 (zent W t kd v a b) t := by
    obtain ⟨n0, n1, -⟩ := zent_new H rfl
    intro _
    rw [w1, w2, n0, n1, zent_srv H h2 (c := 56 + 17 * t) (by omega)]
    exact ⟨Int.le_refl _, fun _ q _ => hy q⟩
  have fX := zFx_ent hI H (by omega) hFx
  have frX := zFr_e hI H i2
  have sX : zSt (zent W t kd v a b) t = zSt W t := zSt_c (zent_srv H h2 (by omega))
  refine ⟨⟨_, i1⟩, v4, lX, ?_⟩
  have hcr := fun {B2 C2 : ZM} (hread : XR (d + 18) 122 [.ref 107, zci t, zci t, zci (W (44 + 2 * t) 1 + 1)] (zhp Z (zmg (zup (zent W t kd v a b) (59 + 17 * t) t (W (44 + 2 * t) 1 + 1 + 1)) (zmom C t (W (44 + 2 * t) 1 + 1)))) (none, zhp Z (zmg B2 C2))) => zq_121r (d := d + 17) (A := Z) hI.1 hI.2.1 ht (zRw_2 hI.2.2.2.1).1 hc (kd := kd) (w := v) (a := a) (b := b) ⟨by omega, by omega⟩ ⟨by omega, by omega⟩ ⟨by omega, by omega⟩ ⟨by omega, by omega⟩ (by omega) (by omega) hl hread
  generalize zent W t kd v a b = X at *
  have hns : zNS X t = t := if_pos (by rw [w1, w2]; omega)
  have eS : zRS X t = zD (ztake (zup X (59 + 17 * t) t (W (44 + 2 * t) 1 + 1 + 1)) t t (W (44 + 2 * t) 1 + 1)) t := by
    unfold zRS
    rw [hns, w1]
  have lY : zup X (59 + 17 * t) t (W (44 + 2 * t) 1 + 1 + 1) (56 + 17 * t) 9 = 0 := by rw [zup_row (by omega)]; exact lX
  have sY : zSt (zup X (59 + 17 * t) t (W (44 + 2 * t) 1 + 1 + 1)) t = zSt W t + 1 := by rw [zSt_up ht, w1, sX]; omega
  by_cases hX : zOw (ztake (zup X (59 + 17 * t) t (W (44 + 2 * t) 1 + 1 + 1)) t t (W (44 + 2 * t) 1 + 1)) t
  · obtain ⟨C', j1, j2⟩ := zR1 (Z := Z) y1 y2 ht ht y3 y4 y5 y6 y7 hX d
    obtain ⟨d1, d2, d3, d4, d5⟩ := zD_all j1 ht
    refine ⟨zRS X t, zDC (ztake (zup X (59 + 17 * t) t (W (44 + 2 * t) 1 + 1 + 1)) t t (W (44 + 2 * t) 1 + 1)) t C', 1, .inl rfl, fun n c => by rw [zRA_s, if_neg (by rw [hns]; omega), if_pos hns], ?_, ?_, ?_, ?_, ?_⟩
    · rw [eS]; exact hcr (j2.le (by omega))
    · rw [eS]; exact d3
    · rw [eS]; exact d4
    · rw [eS]; exact zOw_c hX (zD_row (by omega) (by omega)) (zD_row (by omega) (by omega))
    · rw [eS]; exact ⟨zFr_t frX (zFr_t y8 (zFr_t t2 (zFr_D j1 ht))), by rw [zSt_c (zD_row (by omega) (by omega)), zSt_c t4, sY]; omega⟩
  · obtain ⟨r1, r2, C', r3, r4, r5, r6, r7, r8⟩ := zR2 (Z := Z) y1 y2 ht lY (zFx_59 fX) ht y3 y4 y5 y6 y7 rfl hX rfl d
    rw [t4] at r1
    generalize hXe : ztake (zup X (59 + 17 * t) t (W (44 + 2 * t) 1 + 1 + 1)) t t (W (44 + 2 * t) 1 + 1) = V at *
    have e59 : zD V t (59 + 17 * t) = V (59 + 17 * t) := zD_row (by omega) (by omega)
    have e44 : zD V t (44 + 2 * t) = V (44 + 2 * t) := zD_row (by omega) (by omega)
    have hns2 : zNS (zD V t) t = t := if_pos (by rw [e59, e44, t4, r1]; omega)
    have eS2 : zRS (zD V t) t = zD (ztake (zup V (59 + 17 * t) t (V (44 + 2 * t) 1 + 1)) t t (V (44 + 2 * t) 1)) t := by
      unfold zRS
      rw [hns2, e59, t4, r1]
      exact r2
    refine ⟨_, C', 2, .inr rfl, fun n c => ?_, hcr r3, r4, r5, r6, zFr_t frX (zFr_t y8 r7), ?_⟩
    · rw [show n + 2 = (n + 1) + 1 from rfl, zRA_s, if_neg (by rw [hns]; omega), if_pos hns, eS, zRA_s, if_neg (by rw [hns2]; omega), if_pos hns2, eS2]
    · rw [zSt_c r8, zSt_up ht, r1, sY]; omega
end ZRO
