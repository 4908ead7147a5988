/-! certifying, and reading what makes the server certify -/
section ZCT
variable {Z C Y W X E : ZM} {t p k kd v a b : Int}
theorem zOw_own (ho : zOw Y t) (h2 : Y (45 + 2 * t) (k * 5 + 0) ≠ 2) (ht : 0 ≤ t ∧ t < 3) : zOw (ztake Y t t k) t := by
  unfold ztake
  by_cases h0 : ¬ Y (45 + 2 * t) (k * 5 + 4) = 0 ∨ Y (45 + 2 * t) (k * 5 + 1) < Y (56 + 17 * t) 7
  · rw [if_pos h0]; exact ho
  rw [if_neg h0]
  by_cases k0 : Y (45 + 2 * t) (k * 5 + 0) = 0
  · rw [if_pos k0, if_pos rfl]
    exact zOw_c ho (zput_row (by omega) (by omega)) (zput_row (by omega) (by omega))
  rw [if_neg k0]
  by_cases k1 : Y (45 + 2 * t) (k * 5 + 0) = 1
  · rw [if_pos k1]
    unfold zvote
    split
    · exact zOw_c ho (zup_row (by omega)) (zup_row (by omega))
    · exact ho
  rw [if_neg k1, if_neg h2]
  by_cases hc : Y (56 + 17 * t) 7 < Y (45 + 2 * t) (k * 5 + 1) ∨ Y (56 + 17 * t) 8 = 0
  · rw [if_pos hc, if_pos rfl]
    exact zOw_c ho (zturn_row (by omega) (by omega) (by omega)) (zturn_row (by omega) (by omega) (by omega))
  · rw [if_neg hc]; exact ho
/-- what a new message of its own is, as it stands unread -/
theorem zOwn_Y (hI : zI W C) (ho : zOw W t) (H : zAr W t kd v a b) (i1 : zI (zent W t kd v a b) (zmom C t (W (44 + 2 * t) 1 + 1))) (hy : kd = 0 ∨ kd = 1 → v = W (56 + 17 * t) 7 ∧ ¬ W (56 + 17 * t) 8 = 0) : zent W t kd v a b (59 + 17 * t) t = W (44 + 2 * t) 1 + 1 ∧ zent W t kd v a b (44 + 2 * t) 1 = W (44 + 2 * t) 1 + 1 ∧ zRy (zent W t kd v a b) t t (W (44 + 2 * t) 1 + 1) := by
  have h2 := (zRw_2 hI.2.2.2.1).2
  have ht := H.2.1
  obtain ⟨n0, n1, n2, n3, n4⟩ := zent_new H rfl
  refine ⟨by rw [zent_srv H h2 (by omega)]; exact ho, by rw [zent_cnt H ht, if_pos rfl], ?_⟩
  unfold zRy
  rw [n0, n1, zent_srv H h2 (c := 56 + 17 * t) (by omega)]
  exact fun q _ => .inr (hy q)
theorem zCert1 (hI : zI W C) (ho : zOw W t) (ht : 0 ≤ t ∧ t < 3) (hl : W (56 + 17 * t) 9 = 0) (hkd : kd = 0 ∨ kd = 1 ∨ kd = 3) (hv : 0 ≤ v ∧ v < 31) (ha : 0 ≤ a ∧ a < 1000) (hb : 0 ≤ b ∧ b < 1000) (hr : kd = 0 → a < W 1 6) (hf : W (44 + 2 * t) 1 < 100) (hy : kd = 0 ∨ kd = 1 → v = W (56 + 17 * t) 7 ∧ ¬ W (56 + 17 * t) 8 = 0) (d : Nat) (hE : E = zD (ztake (zup (zent W t kd v a b) (59 + 17 * t) t (W (44 + 2 * t) 1 + 1 + 1)) t t (W (44 + 2 * t) 1 + 1)) t) : ∃ C4, XR (d + 16) 121 [.ref 107, zci t, zci kd, zci v, zci a, zci b] (zhp Z (zmg W C)) (some (zci (W (44 + 2 * t) 1 + 1)), zhp Z (zmg E C4)) ∧ zI E C4 ∧ zFx E t ∧ zOw E t ∧ zFr W E t ∧ E (59 + 17 * t) = zup W (59 + 17 * t) t (W (44 + 2 * t) 1 + 1 + 1) (59 + 17 * t) := by
  have h2 := (zRw_2 hI.2.2.2.1).2
  have hc := hI.2.2.1.1.1 t ht
  have h15 := zI_15 hI
  obtain ⟨H, i1, i2⟩ := zI_ent hI ht (by omega) hv ha hb hf hr
  obtain ⟨w1, w2, w3⟩ := zOwn_Y hI ho H i1 hy
  obtain ⟨n0, -⟩ := zent_new H rfl
  obtain ⟨y1, y2, y3, y4, y5, y6, y7, y8⟩ := zNx_Y i1 ht ht w1 (by rw [w2]; omega) w3 (.inl ⟨rfl, w2.symm⟩) rfl
  have kn : zup (zent W t kd v a b) (59 + 17 * t) t (W (44 + 2 * t) 1 + 1 + 1) (45 + 2 * t) ((W (44 + 2 * t) 1 + 1) * 5 + 0) ≠ 2 := by
    rw [zup_row (by omega), n0]; omega
  have o2 := zOw_own y2 kn ht
  obtain ⟨C', j1, j2⟩ := zR1 (Z := Z) y1 y2 ht ht y3 y4 y5 y6 y7 o2 d
  obtain ⟨-, t2, -, t4⟩ := zTk_Y y1 y2 ht ht y3 y4 y5 y6 y7
  obtain ⟨d1, d2, d3, d4, d5⟩ := zD_all j1 ht
  subst hE
  refine ⟨_, zq_121r (d := d + 14) hI.1 hI.2.1 ht (zRw_2 hI.2.2.2.1).1 hc ⟨by omega, by omega⟩ ⟨by omega, by omega⟩ ⟨by omega, by omega⟩ ⟨by omega, by omega⟩ (by omega) (by omega) hl j2, d3, d4, zOw_c o2 (zD_row (by omega) (by omega)) (zD_row (by omega) (by omega)), zFr_t (zFr_e hI H i2) (zFr_t y8 (zFr_t t2 (zFr_D j1 ht))), ?_⟩
  rw [zD_row (by omega) (by omega), t4]
  exact zup_cr (zent_srv H h2 (by omega))
/-- a vote that is there already, or a VOID one: nothing -/
theorem zTk_id (h1 : Y (45 + 2 * t) (k * 5 + 0) = 1) (hv : Y (62 + 17 * t) (Y (45 + 2 * t) (k * 5 + 2)) = 1) : ztake Y t t k = Y := by
  unfold ztake
  by_cases h0 : ¬ Y (45 + 2 * t) (k * 5 + 4) = 0 ∨ Y (45 + 2 * t) (k * 5 + 1) < Y (56 + 17 * t) 7
  · rw [if_pos h0]
  rw [if_neg h0, if_neg (show ¬ Y (45 + 2 * t) (k * 5 + 0) = 0 by omega), if_pos h1]
  unfold zvote
  split
  · funext c j
    by_cases e : c = 62 + 17 * t ∧ j = Y (45 + 2 * t) (k * 5 + 2)
    · rw [zup_eq e, e.1, e.2, hv]
    · rw [zup_ne e]
  · rfl
theorem zNT_no (h : zNT Y t = -1) (hp : ∀ i, 0 ≤ i ∧ i < Y (60 + 17 * t) 2 → 1 ≤ Y (61 + 17 * t) i) (h0 : 0 ≤ Y (60 + 17 * t) 3) : ¬ (Y (60 + 17 * t) 3 < Y (60 + 17 * t) 2 ∧ (0 ≤ Y (61 + 17 * t) (Y (60 + 17 * t) 3) ∧ Y (61 + 17 * t) (Y (60 + 17 * t) 3) < 101) ∧ ¬ Y (62 + 17 * t) (Y (61 + 17 * t) (Y (60 + 17 * t) 3)) = 0) := fun q => by
  unfold zNT at h
  rw [if_pos q] at h
  have := hp _ ⟨h0, q.1⟩
  omega
set_option maxHeartbeats 1000000 in
theorem zR2 (hI : zI Y C) (ho : zOw Y t) (ht : 0 ≤ t ∧ t < 3) (hl : Y (56 + 17 * t) 9 = 0) (hFx : zFx Y t) (hp : 0 ≤ p ∧ p < 3) (hk : 1 ≤ k ∧ k ≤ Y (44 + 2 * p) 1) (hnx : Y (59 + 17 * t) p = k + 1) (hs : C 107 40 + 1 ≤ zSum Y) (hput : p = Y (56 + 17 * t) 7 % 3 → Y (45 + 2 * p) (k * 5 + 0) = 0 → Y (45 + 2 * p) (k * 5 + 1) = Y (56 + 17 * t) 7 → Y (60 + 17 * t) 2 + 1 ≤ zPC Y (Y (56 + 17 * t) 7 % 3) (Y (56 + 17 * t) 7) k) (hw : zRy Y t p k) (hX : X = ztake Y t p k) (hno : ¬ zOw X t) (hE : E = zD (ztake (zup X (59 + 17 * t) t (X (44 + 2 * t) 1 + 1)) t t (X (44 + 2 * t) 1)) t) (d : Nat) : X (59 + 17 * t) t = X (44 + 2 * t) 1 ∧ zD (ztake (zup (zD X t) (59 + 17 * t) t (X (44 + 2 * t) 1 + 1)) t t (X (44 + 2 * t) 1)) t = E ∧ ∃ C', XR (d + 18) 122 [.ref 107, zci t, zci p, zci k] (zhp Z (zmg Y C)) (none, zhp Z (zmg E C')) ∧ zI E C' ∧ zFx E t ∧ zOw E t ∧ zFr Y E t ∧ E (59 + 17 * t) = zup Y (59 + 17 * t) t (X (44 + 2 * t) 1 + 1) (59 + 17 * t) := by
  obtain ⟨hA, hC, hL, hR, hQ, hN, hSS, hXx⟩ := id hI
  obtain ⟨⟨a1, a2, a3, a4, a5, a6, a7, a8, a9, a10⟩, ⟨b1, b2, b3, b4, b5, b6⟩, c1⟩ := hSS t ht
  obtain ⟨⟨m0, m1, m2, m3⟩, -, -, -, mch⟩ := hL.1.2.1 p k hp hk
  have hcp := hL.1.1 p hp
  have h909 := zCx_909 hI
  have hk1 : 1 ≤ k ∧ k ≤ 100 := by omega
  have hvr : zrg (Y (56 + 17 * t) 7) := ⟨by omega, by omega⟩
  unfold ztake at hX
  by_cases h0 : ¬ Y (45 + 2 * p) (k * 5 + 4) = 0 ∨ Y (45 + 2 * p) (k * 5 + 1) < Y (56 + 17 * t) 7
  · rw [if_pos h0] at hX
    rw [hX] at hno
    exact absurd ho hno
  rw [if_neg h0] at hX
  have hf : Y (45 + 2 * p) (k * 5 + 4) = 0 := Classical.byContradiction fun q => h0 (.inl q)
  have hv : ¬ Y (45 + 2 * p) (k * 5 + 1) < Y (56 + 17 * t) 7 := fun q => h0 (.inr q)
  by_cases k0 : Y (45 + 2 * p) (k * 5 + 0) = 0
  · rw [if_pos k0] at hX
    have hva := (hw (.inl k0) hf).resolve_left hv
    have hpl := (zF0 hL hp hk k0 rfl hf).1
    rw [hva.1] at hpl
    have hpc := hput hpl.symm k0 hva.1
    obtain ⟨i1, h100⟩ := zI_put hI ht (k := k) (by rw [hpl]; exact hk) (by rw [hpl]; exact k0) (by rw [show Y (59 + 17 * t) (Y (56 + 17 * t) 7 % 3) = k + 1 by rw [hpl]; exact hnx, show k + 1 - 1 = k by omega]; exact hpc)
    have rn : ∀ b, b ≠ 60 + 17 * t → b ≠ 61 + 17 * t → zput Y t k b = Y b := fun b h1 h2 => zput_row h1 h2
    have f1 : zFr Y (zput Y t k) t := zFr_l hI ht (fun b hb => rn b (by omega) (by omega)) (by rw [rn _ (by omega) (by omega)]) (rn _ (by omega) (by omega)) (by rw [rn _ (by omega) (by omega)]; exact Int.le_refl _) (rn _ (by omega) (by omega))
    have o1 : zOw (zput Y t k) t := zOw_c ho (rn _ (by omega) (by omega)) (rn _ (by omega) (by omega))
    by_cases e : p = t
    · rw [if_pos e] at hX
      rw [hX] at hno
      exact absurd o1 hno
    · rw [if_neg e] at hX
      unfold zentF at hX
      by_cases hful : zput Y t k (44 + 2 * t) 1 < 100
      · rw [if_pos hful] at hX
        have p56 := rn (56 + 17 * t) (by omega) (by omega)
        have hy : (1 : Int) = 0 ∨ (1 : Int) = 1 → Y (56 + 17 * t) 7 = zput Y t k (56 + 17 * t) 7 ∧ ¬ zput Y t k (56 + 17 * t) 8 = 0 := fun _ => by rw [p56]; exact ⟨rfl, hva.2⟩
        obtain ⟨H, i2, i3⟩ := zI_ent i1 ht (kd := 1) (v := Y (56 + 17 * t) 7) (a := k) (b := 0) (by decide) a2 (by omega) (by decide) hful (fun q => absurd q (by decide))
        obtain ⟨w1, w2, w3⟩ := zOwn_Y i1 o1 H i2 hy
        obtain ⟨n0, n1, n2, n3, n4⟩ := zent_new H rfl
        have h20 := (zRw_2 i1.2.2.2.1).2
        obtain ⟨C4, q1, q2, q3, q4, q5, q6⟩ := zCert1 (Z := Z) (E := E) (v := Y (56 + 17 * t) 7) (a := k) (b := 0) i1 o1 ht (by rw [p56]; exact hl) (.inr (.inl rfl)) a2 (by omega) (by decide) (fun q => absurd q (by decide)) hful hy d (by rw [hE, hX, w2])
        rw [← hX] at w1 w2 n0 n2
        refine ⟨by rw [w1, w2], ?_, ?_⟩
        · -- both ways the same
          by_cases hvk : Y (62 + 17 * t) k = 0
          · have x56 : X (56 + 17 * t) = Y (56 + 17 * t) := by rw [hX, zent_srv H h20 (by omega), p56]
            have x62 : X (62 + 17 * t) = Y (62 + 17 * t) := by rw [hX, zent_srv H h20 (by omega), rn _ (by omega) (by omega)]
            have x60 : X (60 + 17 * t) = zput Y t k (60 + 17 * t) := by rw [hX, zent_srv H h20 (by omega)]
            have x61 : X (61 + 17 * t) = zput Y t k (61 + 17 * t) := by rw [hX, zent_srv H h20 (by omega)]
            have x10 : X 10 = Y 10 := by
              funext w
              rw [hX, zent_op H, if_neg (fun q => absurd q.2.2.1 (by decide)), rn _ (by omega) (by omega)]
            have ep : zput Y t k = zup (zup Y (61 + 17 * t) (Y (60 + 17 * t) 2) k) (60 + 17 * t) 2 (Y (60 + 17 * t) 2 + 1) := if_pos h100
            have p60 : ∀ j, j ≠ 2 → X (60 + 17 * t) j = Y (60 + 17 * t) j := fun j hj => by rw [x60, ep, zup_ne (fun z => hj z.2), zup_row (by omega)]
            have p602 : X (60 + 17 * t) 2 = Y (60 + 17 * t) 2 + 1 := by rw [x60, ep, zup_eq ⟨rfl, rfl⟩]
            have p61 : ∀ i, X (61 + 17 * t) i = if i = Y (60 + 17 * t) 2 then k else Y (61 + 17 * t) i := fun i => by
              rw [x61, ep, zup_row (by omega)]
              by_cases q : i = Y (60 + 17 * t) 2
              · rw [if_pos q, zup_eq ⟨rfl, q⟩]
              · rw [if_neg q, zup_ne (fun z => q z.2)]
            have hfx : zFx X t := by
              rcases hFx with q | q | q
              · exact absurd q hva.2
              · refine .inr (.inl ⟨by rw [p60 4 (by decide)]; exact q.1, ?_⟩)
                unfold zVo
                rw [x10, x56, x62]
                exact q.2
              · refine .inr (.inr ⟨by rw [p60 4 (by decide)]; exact q.1, if_neg ?_⟩)
                have := zNT_no q.2 (fun i hi => (b2 i hi).1.1) b1.1
                rw [p60 3 (by decide), p602, p61, x62]
                by_cases q3 : Y (60 + 17 * t) 3 = Y (60 + 17 * t) 2
                · rw [if_pos q3]
                  exact fun z => z.2.2 hvk
                · rw [if_neg q3]
                  exact fun z => this ⟨by omega, z.2⟩
            rw [zFx_D hfx, hE]
          · have hvk1 : Y (62 + 17 * t) k = 1 := (a9 k).resolve_left hvk
            have ixI : zI X (zmom C t (zput Y t k (44 + 2 * t) 1 + 1)) := by rw [hX]; exact i2
            have x62 : X (62 + 17 * t) = Y (62 + 17 * t) := by rw [hX, zent_srv H h20 (by omega), rn _ (by omega) (by omega)]
            have hid : ∀ M : ZM, M (45 + 2 * t) = X (45 + 2 * t) → M (62 + 17 * t) = X (62 + 17 * t) → ztake M t t (X (44 + 2 * t) 1) = M := fun M h1 h2 => by
              refine zTk_id ?_ ?_
              · rw [h1, w2, n0]
              · rw [h1, h2, w2, n2, x62]; exact hvk1
            rw [hE, hid _ (by rw [zup_row (by omega), zD_row (by omega) (by omega)]) (by rw [zup_row (by omega), zD_row (by omega) (by omega)]), hid _ (zup_row (by omega)) (zup_row (by omega))]
            have hrow := (ixI.2.2.2.1.2.2.1 (X (56 + 17 * t) 7) (ixI.2.2.2.2.2.2.1 t ht).1.2.1).1
            rw [zD_59 (A := X) ht (by omega), zFx_D (zFx_59 (zD_all ixI ht).2.2.2.1)]
        · have hm := zq_123n (d := d + 15) (A := Z) hA hC ht hk1 (by omega) a2 (by omega) q1
          have hr := zq_122p (d := d + 3) (A := Z) hA hC hL.1 ht hp hk k0 hf hva.1 hva.2 q2.1 q2.2.1 hm (zD_all q2 ht).2.1
          have hz := (zD_all q2 ht).2.2.1
          rw [zFx_D q3] at hr hz
          refine ⟨_, hr, hz, q3, q4, zFr_t f1 q5, ?_⟩
          rw [q6, w2]
          exact zup_cr (rn _ (by omega) (by omega))
      · rw [if_neg hful] at hX
        rw [hX] at hno
        exact absurd o1 hno
  rw [if_neg k0] at hX
  by_cases k1 : Y (45 + 2 * p) (k * 5 + 0) = 1
  · rw [if_pos k1] at hX
    refine absurd ?_ hno
    rw [hX]
    unfold zvote
    split
    · exact zOw_c ho (zup_row (by omega)) (zup_row (by omega))
    · exact ho
  rw [if_neg k1] at hX
  by_cases k2 : Y (45 + 2 * p) (k * 5 + 0) = 2
  · rw [if_pos k2] at hX
    have i1 := zI_note hI ht hp (k := k) (w := Y (45 + 2 * p) (k * 5 + 1)) hk1 m1 (by omega) hs
    have rn : ∀ b, b ≠ 64 + 17 * t → b ≠ 65 + 17 * t → znote Y t (Y (45 + 2 * p) (k * 5 + 1)) (k * 3 + p) b = Y b := fun b h1 h2 => znote_row h1 h2
    have f1 : zFr Y (znote Y t (Y (45 + 2 * p) (k * 5 + 1)) (k * 3 + p)) t := zFr_l hI ht (fun b hb => rn b (by omega) (by omega)) (by rw [rn _ (by omega) (by omega)]) (rn _ (by omega) (by omega)) (by rw [rn _ (by omega) (by omega)]; exact Int.le_refl _) (rn _ (by omega) (by omega))
    have o1 : zOw (znote Y t (Y (45 + 2 * p) (k * 5 + 1)) (k * 3 + p)) t := zOw_c ho (rn _ (by omega) (by omega)) (rn _ (by omega) (by omega))
    have n56 := rn (56 + 17 * t) (by omega) (by omega)
    have hcq := ((i1.2.2.2.2.2.2.1 t ht).2.2 (Y (45 + 2 * p) (k * 5 + 1)) (by rw [n56]; omega) m1.2).1
    have a8' := (i1.2.2.2.2.2.2.1 t ht).1.2.2.2.2.2.2.2.1
    by_cases hcc : Y (45 + 2 * p) (k * 5 + 1) = Y (56 + 17 * t) 7 ∧ Y (56 + 17 * t) 8 = 0 ∧ Y (56 + 17 * t) 7 % 3 = t ∧ ¬ znote Y t (Y (45 + 2 * p) (k * 5 + 1)) (k * 3 + p) (65 + 17 * t) (Y (56 + 17 * t) 7) = 0
    · rw [if_pos hcc] at hX
      unfold zentF at hX
      by_cases hful : znote Y t (Y (45 + 2 * p) (k * 5 + 1)) (k * 3 + p) (44 + 2 * t) 1 < 100
      · rw [if_pos hful] at hX
        have hy : (3 : Int) = 0 ∨ (3 : Int) = 1 → Y (56 + 17 * t) 7 = znote Y t (Y (45 + 2 * p) (k * 5 + 1)) (k * 3 + p) (56 + 17 * t) 7 ∧ ¬ znote Y t (Y (45 + 2 * p) (k * 5 + 1)) (k * 3 + p) (56 + 17 * t) 8 = 0 := fun q => absurd q (by decide)
        obtain ⟨H, i2, i3⟩ := zI_ent i1 ht (kd := 3) (v := Y (56 + 17 * t) 7) (by decide) a2 (a8' _ a2).1 (a8' _ a2).2 hful (fun q => absurd q (by decide))
        obtain ⟨w1, w2, w3⟩ := zOwn_Y i1 o1 H i2 hy
        have h20 := (zRw_2 i1.2.2.2.1).2
        obtain ⟨C4, q1, q2, q3, q4, q5, q6⟩ := zCert1 (Z := Z) (E := E) i1 o1 ht (by rw [n56]; exact hl) (.inr (.inr rfl)) a2 (a8' _ a2).1 (a8' _ a2).2 (fun q => absurd q (by decide)) hful hy d (by rw [hE, hX, w2])
        rw [← hX] at w1 w2
        refine ⟨by rw [w1, w2], ?_, ?_⟩
        · have hfx : zFx X t := .inl (by rw [hX, zent_srv H h20 (by omega), n56]; exact hcc.2.1)
          rw [zFx_D hfx, hE]
        · have hg : znote Y t (Y (45 + 2 * p) (k * 5 + 1)) (k * 3 + p) (65 + 17 * t) (Y (45 + 2 * p) (k * 5 + 1)) ≠ 0 := by
            have := hcc.2.2.2
            rw [hcc.1] at this ⊢
            exact this
          rw [← hcc.1] at q1
          have hm := zq_125y (d := d + 15) (A := Z) hA hC ht hp hk1 m1 (by omega) hvr hcc.1 hcc.2.1 (by rw [hcc.1]; exact hcc.2.2.1) i1.2.1 hcq hg q1
          have hr := zq_122h (d := d + 3) (A := Z) hA hC hL.1 ht hp hk k2 hf q2.1 q2.2.1 hm (zD_all q2 ht).2.1
          have hz := (zD_all q2 ht).2.2.1
          rw [zFx_D q3] at hr hz
          refine ⟨_, hr, hz, q3, q4, zFr_t f1 q5, ?_⟩
          rw [q6, w2]
          exact zup_cr (rn _ (by omega) (by omega))
      · rw [if_neg hful] at hX
        rw [hX] at hno
        exact absurd o1 hno
    · rw [if_neg hcc] at hX
      rw [hX] at hno
      exact absurd o1 hno
  rw [if_neg k2] at hX
  have k3 : Y (45 + 2 * p) (k * 5 + 0) = 3 := by omega
  by_cases hc : Y (56 + 17 * t) 7 < Y (45 + 2 * p) (k * 5 + 1) ∨ Y (56 + 17 * t) 8 = 0
  · rw [if_pos hc] at hX
    obtain ⟨z1, z2, z3, z4⟩ := zF3 hL hp hk k3 rfl hf
    have i1 := zI_turn hI ht (w := Y (45 + 2 * p) (k * 5 + 1)) (on := 1) (by omega) (.inr rfl) (by omega) (fun _ => z3)
    have rn : ∀ b, b ≠ 56 + 17 * t → b ≠ 60 + 17 * t → b ≠ 62 + 17 * t → zturn Y t (Y (45 + 2 * p) (k * 5 + 1)) 1 b = Y b := fun b h1 h2 h3 => zturn_row h1 h2 h3
    obtain ⟨e1, e2, e3, e4, e5, e6, e7⟩ := zturn_at (A := Y) (t := t) (w := Y (45 + 2 * p) (k * 5 + 1)) (on := 1)
    have f1 : zFr Y (zturn Y t (Y (45 + 2 * p) (k * 5 + 1)) 1) t := zFr_l hI ht (fun b hb => rn b (by omega) (by omega) (by omega)) (e1 9 (by decide) (by decide)) (rn _ (by omega) (by omega) (by omega)) (by rw [e2]; omega) (rn _ (by omega) (by omega) (by omega))
    have o1 : zOw (zturn Y t (Y (45 + 2 * p) (k * 5 + 1)) 1) t := zOw_c ho (rn _ (by omega) (by omega) (by omega)) (rn _ (by omega) (by omega) (by omega))
    by_cases e : p = t
    · rw [if_pos e] at hX
      rw [hX] at hno
      exact absurd o1 hno
    · rw [if_neg e] at hX
      unfold zentF at hX
      by_cases hful : zturn Y t (Y (45 + 2 * p) (k * 5 + 1)) 1 (44 + 2 * t) 1 < 100
      · rw [if_pos hful] at hX
        have hy : (1 : Int) = 0 ∨ (1 : Int) = 1 → Y (45 + 2 * p) (k * 5 + 1) = zturn Y t (Y (45 + 2 * p) (k * 5 + 1)) 1 (56 + 17 * t) 7 ∧ ¬ zturn Y t (Y (45 + 2 * p) (k * 5 + 1)) 1 (56 + 17 * t) 8 = 0 := fun _ => by rw [e2, e3]; exact ⟨rfl, by decide⟩
        obtain ⟨H, i2, i3⟩ := zI_ent i1 ht (kd := 1) (v := Y (45 + 2 * p) (k * 5 + 1)) (a := k) (b := 0) (by decide) m1 (by omega) (by decide) hful (fun q => absurd q (by decide))
        obtain ⟨w1, w2, w3⟩ := zOwn_Y i1 o1 H i2 hy
        have h20 := (zRw_2 i1.2.2.2.1).2
        obtain ⟨C4, q1, q2, q3, q4, q5, q6⟩ := zCert1 (Z := Z) (E := E) (v := Y (45 + 2 * p) (k * 5 + 1)) (a := k) (b := 0) i1 o1 ht (by rw [e1 9 (by decide) (by decide)]; exact hl) (.inr (.inl rfl)) m1 (by omega) (by decide) (fun q => absurd q (by decide)) hful hy d (by rw [hE, hX, w2])
        rw [← hX] at w1 w2
        refine ⟨by rw [w1, w2], ?_, ?_⟩
        · have hfx : zFx X t := by
            have x62 : X (62 + 17 * t) = zturn Y t (Y (45 + 2 * p) (k * 5 + 1)) 1 (62 + 17 * t) := by rw [hX, zent_srv H h20 (by omega)]
            have x60 : X (60 + 17 * t) = zturn Y t (Y (45 + 2 * p) (k * 5 + 1)) 1 (60 + 17 * t) := by rw [hX, zent_srv H h20 (by omega)]
            refine .inr (.inl ⟨by rw [x60]; exact e6, ?_⟩)
            rintro ⟨z1, z2⟩
            apply z2
            rw [x62, e7, if_pos (by omega)]
          rw [zFx_D hfx, hE]
        · have hm := zq_124n (d := d + 14) (A := Z) hA hC ht hk1 m1 (by omega) q1
          have hr := zq_122n (d := d + 3) (A := Z) hA hC hL.1 ht hp hk k3 hf (by omega) q2.1 q2.2.1 hm (zD_all q2 ht).2.1
          have hz := (zD_all q2 ht).2.2.1
          rw [zFx_D q3] at hr hz
          refine ⟨_, hr, hz, q3, q4, zFr_t f1 q5, ?_⟩
          rw [q6, w2]
          exact zup_cr (rn _ (by omega) (by omega) (by omega))
      · rw [if_neg hful] at hX
        rw [hX] at hno
        exact absurd o1 hno
  · rw [if_neg hc] at hX
    rw [hX] at hno
    exact absurd ho hno
end ZCT
