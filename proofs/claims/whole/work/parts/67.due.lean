/-! what is due, done: all that it needs holds, and the invariant is kept -/
theorem zdo_6 {A : ZM} {t r : Int} : zdo A t r (67 + 17 * t) 6 = A (67 + 17 * t) 6 + 1 := by
  unfold zdo
  try dsimp only
  split
  · rw [zup_eq ⟨rfl, rfl⟩]
  · rw [zup_ne (by omega), zup_ne (by omega), zup_ne (by omega), zup_ne (by omega), zup_eq ⟨rfl, rfl⟩]
def zDx (A X : ZM) (t : Int) : Prop := zRg X ∧ (∀ b, (b < 67 + 17 * t ∨ 72 + 17 * t < b) → b ≠ 60 + 17 * t → X b = A b) ∧ (∀ j, j ≠ 3 → j ≠ 4 → X (60 + 17 * t) j = A (60 + 17 * t) j) ∧ (0 ≤ X (60 + 17 * t) 3 ∧ X (60 + 17 * t) 3 ≤ A (60 + 17 * t) 2) ∧ (0 ≤ X (67 + 17 * t) 6 ∧ X (67 + 17 * t) 6 ≤ zNP A (A (56 + 17 * t) 7) + X (60 + 17 * t) 3)
section ZDU
variable {A C X : ZM} {t : Int}
theorem zI_tc (hI : zI A C) (ht : 0 ≤ t ∧ t < 3) : 0 ≤ A (60 + 17 * t) 2 ∧ A (60 + 17 * t) 2 ≤ 100 ∧ zNP A (A (56 + 17 * t) 7) + A (60 + 17 * t) 2 ≤ 300 := by
  obtain ⟨hA, hC, hL, hR, hQ, hN, hS, hX⟩ := hI
  obtain ⟨⟨a1, a2, a3, a4, a5, a6, a7, a8, a9, a10⟩, ⟨b1, b2, b3, b4, b5, b6⟩, c1⟩ := hS t ht
  have hn := a5 (A (56 + 17 * t) 7 % 3) (by omega)
  have hc := hL.1.1 (A (56 + 17 * t) 7 % 3) (by omega)
  have hm : zPC A (A (56 + 17 * t) 7 % 3) (A (56 + 17 * t) 7) (A (59 + 17 * t) (A (56 + 17 * t) 7 % 3) - 1) ≤ zPC A (A (56 + 17 * t) 7 % 3) (A (56 + 17 * t) 7) (A (44 + 2 * (A (56 + 17 * t) 7 % 3)) 1) := zcn_mono _ _ (Int.toNat_le_toNat (by omega))
  have hp : zPC A (A (56 + 17 * t) 7 % 3) (A (56 + 17 * t) 7) (A (44 + 2 * (A (56 + 17 * t) 7 % 3)) 1) ≤ ((A (44 + 2 * (A (56 + 17 * t) 7 % 3)) 1).toNat : Int) := (zcn_rg _).2
  have h1 := zNP_S (A := A) (u := A (56 + 17 * t) 7) a2.1
  have h2 := zNP_300 hL.1.1 (w := A (56 + 17 * t) 7 + 1)
  omega
theorem zDx_0 (hI : zI A C) (ht : 0 ≤ t ∧ t < 3) : zDx A A t := by
  obtain ⟨⟨a1, a2, a3, a4, a5, a6, a7, a8, a9, a10⟩, ⟨b1, b2, b3, b4, b5, b6⟩, c1⟩ := hI.2.2.2.2.2.2.1 t ht
  exact ⟨hI.1, fun _ _ _ => rfl, fun _ _ _ => rfl, by omega, b5⟩
theorem zDx_ok (hI : zI A C) (ht : 0 ≤ t ∧ t < 3) (hX : zDx A X t) {r : Int} (hr : 0 ≤ r ∧ r < A 1 6) (hd : X (67 + 17 * t) 6 < 300) : zOKr X t r := by
  obtain ⟨x1, x2, x3, x4, x5⟩ := hX
  obtain ⟨q1, q2, q3⟩ := hI.2.2.2.2.1
  refine ⟨x1, ?_, ?_, ⟨x5.1, hd⟩, ?_, ?_⟩
  · rw [x2 1 (by omega) (by omega)]; exact hr
  · rw [x2 1 (by omega) (by omega)]; exact q1.2
  · rw [x2 2 (by omega) (by omega)]; exact (q2 r hr).1
  · rw [x2 5 (by omega) (by omega)]; exact (q2 r hr).2
theorem zDx_ST (hI : zI A C) (ht : 0 ≤ t ∧ t < 3) (hX : zDx A X t) : zST X t := by
  have hG := zI_G hI
  have htc := zI_tc hI ht
  obtain ⟨⟨a1, a2, -⟩, -⟩ := hI.2.2.2.2.2.2.1 t ht
  obtain ⟨x1, x2, x3, x4, x5⟩ := hX
  have h56 := x2 (56 + 17 * t) (by omega) (by omega)
  refine ⟨zG_of hG x1 (x2 _ (by omega) (by omega)) (x2 _ (by omega) (by omega)) (x2 _ (by omega) (by omega)) (fun s hs => x2 _ (by omega) (by omega)), ?_, ?_, ?_, x4.1⟩
  · rw [h56]; exact a1
  · rw [h56]; exact a2
  · rw [x3 2 (by decide) (by decide)]; omega
/-- one request done: what stays -/
theorem zDx_do (ht : 0 ≤ t ∧ t < 3) (hX : zDx A X t) {r : Int} (hok : zOKr X t r) : zRg (zdo X t r) ∧ (∀ b, (b < 67 + 17 * t ∨ 72 + 17 * t < b) → zdo X t r b = X b) ∧ zdo X t r (67 + 17 * t) 6 = X (67 + 17 * t) 6 + 1 :=
  ⟨zdo_rg hok ht, fun b hb => zdo_row hb, zdo_6⟩
theorem zDx_NT (hI : zI A C) (ht : 0 ≤ t ∧ t < 3) (hX : zDx A X t) (hn : ¬ zNT X t = -1) : zOKr X t (X (45 + 2 * (X (56 + 17 * t) 7 % 3)) (zNT X t * 5 + 2)) ∧ (1 ≤ zNT X t ∧ zNT X t ≤ X (44 + 2 * (X (56 + 17 * t) 7 % 3)) 1) ∧ X (60 + 17 * t) 3 < A (60 + 17 * t) 2 ∧ zDx A (zDN X t) t ∧ zDN X t (60 + 17 * t) 3 = X (60 + 17 * t) 3 + 1 ∧ zDN X t (60 + 17 * t) 4 = X (60 + 17 * t) 4 := by
  have htc := zI_tc hI ht
  obtain ⟨hA, hC, hL, hR, hQ, hN, hS, hXx⟩ := id hI
  obtain ⟨⟨a1, a2, a3, a4, a5, a6, a7, a8, a9, a10⟩, ⟨b1, b2, b3, b4, b5, b6⟩, c1⟩ := hS t ht
  obtain ⟨x1, x2, x3, x4, x5⟩ := id hX
  have e2 := x3 2 (by decide) (by decide)
  have h56 := x2 (56 + 17 * t) (by omega) (by omega)
  have h61 := x2 (61 + 17 * t) (by omega) (by omega)
  have hc : X (60 + 17 * t) 3 < X (60 + 17 * t) 2 ∧ (0 ≤ X (61 + 17 * t) (X (60 + 17 * t) 3) ∧ X (61 + 17 * t) (X (60 + 17 * t) 3) < 101) ∧ ¬ X (62 + 17 * t) (X (61 + 17 * t) (X (60 + 17 * t) 3)) = 0 := Classical.byContradiction fun q => hn (if_neg q)
  have hk : zNT X t = X (61 + 17 * t) (X (60 + 17 * t) 3) := if_pos hc
  rw [h61] at hk hc
  rw [e2] at hc
  obtain ⟨p1, p2⟩ := b2 (X (60 + 17 * t) 3) ⟨x4.1, hc.1⟩
  rw [← hk] at p1 p2
  have hr4 := x2 (44 + 2 * (A (56 + 17 * t) 7 % 3)) (by omega) (by omega)
  have hr5 := x2 (45 + 2 * (A (56 + 17 * t) 7 % 3)) (by omega) (by omega)
  have hr : 0 ≤ A (45 + 2 * (A (56 + 17 * t) 7 % 3)) (zNT X t * 5 + 2) ∧ A (45 + 2 * (A (56 + 17 * t) 7 % 3)) (zNT X t * 5 + 2) < A 1 6 := ⟨(hL.1.2.1 _ _ (by omega) p1).1.2.2.1.1, hL.2.2.2.2.1 _ _ (by omega) p1 p2⟩
  have hok : zOKr X t (X (45 + 2 * (X (56 + 17 * t) 7 % 3)) (zNT X t * 5 + 2)) := by
    rw [h56, hr5]
    exact zDx_ok hI ht hX hr (by omega)
  obtain ⟨d1, d2, d3⟩ := zDx_do ht hX hok
  have e3 : zDN X t (60 + 17 * t) 3 = X (60 + 17 * t) 3 + 1 := zup_eq ⟨rfl, rfl⟩
  refine ⟨hok, ?_, hc.1, ⟨?_, fun b hb hb2 => ?_, fun j hj hj2 => ?_, ?_, ?_⟩, e3, ?_⟩
  · rw [h56, hr4]; exact p1
  · unfold zDN
    exact zRg_up d1 ⟨by omega, by omega⟩
  · rw [zDN_row hb hb2]; exact x2 b hb hb2
  · unfold zDN
    rw [zup_ne (fun q => hj q.2), d2 _ (by omega)]
    exact x3 j hj hj2
  · rw [e3]; omega
  · have : zDN X t (67 + 17 * t) 6 = X (67 + 17 * t) 6 + 1 := by
      unfold zDN
      rw [zup_row (by omega), d3]
    rw [this, e3]
    omega
  · unfold zDN
    rw [zup_ne (fun q => absurd q.2 (by decide)), d2 _ (by omega)]
theorem zDP_mk (hI : zI A C) (ht : 0 ≤ t ∧ t < 3) : ∀ (n : Nat) (X : ZM), zDx A X t → zDPok t n X ∧ zDx A (zDP t n X) t ∧ zDP t n X (60 + 17 * t) 4 = X (60 + 17 * t) 4 ∧ (A (60 + 17 * t) 2 - X (60 + 17 * t) 3 ≤ n → zNT (zDP t n X) t = -1)
  | 0, X, hX => by
    refine ⟨trivial, hX, rfl, fun h => ?_⟩
    show zNT X t = -1
    unfold zNT
    rw [if_neg]
    rintro ⟨q, -⟩
    rw [hX.2.2.1 2 (by decide) (by decide)] at q
    omega
  | n + 1, X, hX => by
    by_cases hn : zNT X t = -1
    · have e : zDP t (n + 1) X = X := by rw [zDP_s, if_pos hn]
      rw [e]
      exact ⟨⟨zDx_ST hI ht hX, fun q => absurd hn q⟩, hX, rfl, fun _ => hn⟩
    · have e : zDP t (n + 1) X = zDP t n (zDN X t) := by rw [zDP_s, if_neg hn]
      obtain ⟨p1, p2, p3, p4, p5, p6⟩ := zDx_NT hI ht hX hn
      obtain ⟨i1, i2, i3, i4⟩ := zDP_mk hI ht n (zDN X t) p4
      rw [e]
      exact ⟨⟨zDx_ST hI ht hX, fun _ => ⟨p1, p2, i1⟩⟩, i2, i3.trans p6, fun h => i4 (by rw [p5]; omega)⟩
theorem zDR_mk (hI : zI A C) (ht : 0 ≤ t ∧ t < 3) {q l : Int} (hq : q = A 11 (A (56 + 17 * t) 7)) (hl : l = A (-1) q) : ∀ (n : Nat) (k : Int) (X : ZM), (l - k).toNat = n → zDx A X t → X (67 + 17 * t) 6 = k → zfok (fun k M => zOKr M t (M q k)) (zDRf t q) n k X ∧ zDx A (zfi (zDRf t q) k (l - 1) X) t ∧ zfi (zDRf t q) k (l - 1) X (60 + 17 * t) = X (60 + 17 * t)
  | 0, k, X, e, hX, hk => by
    rw [zfi_N (by omega)]
    exact ⟨trivial, hX, rfl⟩
  | n + 1, k, X, e, hX, hk => by
    obtain ⟨x1, x2, x3, x4, x5⟩ := id hX
    obtain ⟨⟨a1, a2, -⟩, -⟩ := hI.2.2.2.2.2.2.1 t ht
    obtain ⟨r1, r2, r3, r4⟩ := hI.2.2.2.1
    obtain ⟨w1, w2, w3, w4⟩ := r3 (A (56 + 17 * t) 7) a2
    rw [← hq] at w1 w2 w4
    rw [← hl] at w2 w4
    have hnp := zNP_300 hI.2.2.1.1.1 (w := A (56 + 17 * t) 7)
    have hXq : X q = A q := x2 q (by omega) (by omega)
    have hok : zOKr X t (X q k) := by
      rw [hXq]
      exact zDx_ok hI ht hX (w4 k (by omega)) (by omega)
    obtain ⟨d1, d2, d3⟩ := zDx_do ht hX hok
    have hX2 : zDx A (zdo X t (X q k)) t := by
      refine ⟨d1, fun b hb hb2 => (d2 b hb).trans (x2 b hb hb2), fun j j1 j2 => ?_, ?_, ?_⟩
      · rw [d2 _ (by omega)]; exact x3 j j1 j2
      · rw [d2 _ (by omega)]; exact x4
      · rw [d2 (60 + 17 * t) (by omega), d3]
        omega
    obtain ⟨i1, i2, i3⟩ := zDR_mk hI ht hq hl n (k + 1) (zdo X t (X q k)) (by omega) hX2 (by rw [d3, hk])
    rw [zfi_S (by omega)]
    exact ⟨⟨hok, i1⟩, i2, i3.trans (d2 _ (by omega))⟩
/-- nothing is due -/
def zFx (A : ZM) (t : Int) : Prop := A (56 + 17 * t) 8 = 0 ∨ (A (60 + 17 * t) 4 = 0 ∧ ¬ zVo A t (A 10 (A (56 + 17 * t) 7))) ∨ (¬ A (60 + 17 * t) 4 = 0 ∧ zNT A t = -1)
theorem zFx_D (h : zFx A t) : zD A t = A := by
  by_cases h8 : A (56 + 17 * t) 8 = 0
  · exact zD_0 h8
  · rcases h with h | h | h
    · exact absurd h h8
    · exact zD_n h8 h.1 h.2
    · rw [zD_p h8 h.1, zDP_s, if_pos h.2]
theorem zDx_sm (hX : zDx A X t) (ht : 0 ≤ t ∧ t < 3) : zSm A X := zSm_of (hX.2.1 _ (by omega) (by omega)) (fun c hc => hX.2.1 c (by omega) (by omega))
/-- the invariant behind it -/
theorem zDx_I (hI : zI A C) (ht : 0 ≤ t ∧ t < 3) (hX : zDx A X t) {C' : ZM} (hC' : zRg C') (h119 : C' 119 = C 119) (h15 : ∀ j, j ≠ 17 → C' 107 j = C 107 j) (h142 : C' 142 = C 142) (h143 : C' 143 = C 143) (h140 : ∀ u, u ≠ t → C' 140 u = C 140 u) (hod : X (60 + 17 * t) 4 = 0 ↔ (1 ≤ A (56 + 17 * t) 7 ∧ C' 140 t = 0)) (hin : ¬ A (56 + 17 * t) 8 = 0) : zI X C' := by
  obtain ⟨hA, hC, hL, hR, hQ, hN, hS, hXx⟩ := id hI
  have hsm := zDx_sm hX ht
  obtain ⟨x1, x2, x3, x4, x5⟩ := id hX
  have r1 := x2 1 (by omega) (by omega)
  refine ⟨x1, hC', zLog_c hsm (by rw [r1]; omega) h119 (h15 15 (by decide)) hL, zRw_c hsm (x2 _ (by omega) (by omega)) (x2 _ (by omega) (by omega)) (x2 _ (by omega) (by omega)) (fun c hc => x2 c (by omega) (by omega)) (by rw [r1]; omega) hR, zRq_c (fun c hc => x2 c (by omega) (by omega)) hQ, zAn_c (fun c hc => x2 c (by omega) (by omega)) hN, fun u hu => ?_, zCx_c (fun u hu => x2 _ (by omega) (by omega)) h142 (h15 40 (by decide)) (h15 0 (by decide)) hXx⟩
  have hG : zGr A X := zGr_sm hsm (fun s hs => (hL.1.1 s hs).2)
  by_cases e : u = t
  · subst e
    obtain ⟨⟨a1, a2, a3, a4, a5, a6, a7, a8, a9, a10⟩, ⟨b1, b2, b3, b4, b5, b6⟩, c1⟩ := hS u hu
    have r56 := x2 (56 + 17 * u) (by omega) (by omega)
    have r58 := x2 (58 + 17 * u) (by omega) (by omega)
    have r59 := x2 (59 + 17 * u) (by omega) (by omega)
    have r61 := x2 (61 + 17 * u) (by omega) (by omega)
    have r62 := x2 (62 + 17 * u) (by omega) (by omega)
    have r64 := x2 (64 + 17 * u) (by omega) (by omega)
    have r65 := x2 (65 + 17 * u) (by omega) (by omega)
    have r66 := x2 (66 + 17 * u) (by omega) (by omega)
    refine ⟨?_, ?_, ?_⟩
    · unfold zV1
      rw [r56, r58, r59, r62, r64, r65, r66]
      refine ⟨a1, a2, a3, a4, fun p hp => ?_, fun p k hp hk hb => ?_, a7, a8, a9, a10⟩
      · rw [zSm_4 hsm hp]; exact a5 p hp
      · rw [zSm_4 hsm hp]; exact a6 p k hp hk hb
    · unfold zV2
      rw [r56, r59, r61, zPC_c hsm, zNP_c hsm, x3 2 (by decide) (by decide), hsm.2.1, hsm.2.2, hsm.1]
      exact ⟨⟨x4.1, x4.2, b1.2.2⟩, b2, hod, b4, x5, fun q => absurd q hin⟩
    · unfold zV3
      rw [r56, r64, r65]
      exact fun w h1 h2 => zCh_c (fun i hi => ⟨by rw [h142], by rw [h143]⟩) (c1 w h1 h2)
  · exact zSv_gr hu hG (fun c hc => x2 c (by omega) (by omega)) (h140 u e) (fun w i _ _ => ⟨by rw [h142], by rw [h143]⟩) (hS u hu)
/-- all of what is due -/
theorem zD_all (hI : zI A C) (ht : 0 ≤ t ∧ t < 3) : zDok A t ∧ zDrf A C t ∧ zI (zD A t) (zDC A t C) ∧ zFx (zD A t) t ∧ zDx A (zD A t) t := by
  obtain ⟨hA, hC, hL, hR, hQ, hN, hS, hXx⟩ := id hI
  obtain ⟨⟨a1, a2, a3, a4, a5, a6, a7, a8, a9, a10⟩, ⟨b1, b2, b3, b4, b5, b6⟩, c1⟩ := hS t ht
  have htc := zI_tc hI ht
  have hx0 := zDx_0 hI ht
  have hc := hL.1.1 (A (56 + 17 * t) 7 % 3) (by omega)
  obtain ⟨p1, p2, p3, p4⟩ := zDP_mk hI ht 100 A hx0
  have hx1 : zDx A (zup A (60 + 17 * t) 4 1) t := ⟨zRg_up hA ⟨by decide, by decide⟩, fun b hb hb2 => zup_row hb2, fun j j1 j2 => zup_ne (fun q => j2 q.2), by rw [zup_ne (by omega)]; omega, by rw [zup_ne (by omega), zup_ne (by omega)]; exact b5⟩
  obtain ⟨r1, r2, r3⟩ := zDR_mk hI ht (q := A 11 (A (56 + 17 * t) 7)) (l := A (-1) (A 11 (A (56 + 17 * t) 7))) rfl rfl _ (A (67 + 17 * t) 6) _ rfl hx1 (by rw [zup_row (by omega)])
  have eR : zDR A t = zfi (zDRf t (A 11 (A (56 + 17 * t) 7))) (A (67 + 17 * t) 6) (A (-1) (A 11 (A (56 + 17 * t) 7)) - 1) (zup A (60 + 17 * t) 4 1) := rfl
  rw [← eR] at r2 r3
  obtain ⟨s1, s2, s3, s4⟩ := zDP_mk hI ht 100 (zDR A t) r2
  have o3 : zDR A t (60 + 17 * t) 3 = A (60 + 17 * t) 3 := by rw [r3, zup_ne (by omega)]
  have o4 : zDR A t (60 + 17 * t) 4 = 1 := by rw [r3, zup_eq ⟨rfl, rfl⟩]
  have hop : ¬ A (56 + 17 * t) 8 = 0 → A (56 + 17 * t) 7 = 0 ∨ 1 ≤ A 10 (A (56 + 17 * t) 7) := fun q => by
    by_cases e : A (56 + 17 * t) 7 = 0
    · exact .inl e
    · exact .inr (b4 q (by omega))
  have hC1 : zRg (zup C 140 t 1) := zRg_up hC ⟨by decide, by decide⟩
  have hL1 : zLog A (zup C 140 t 1) := zLog_c (zSm_of rfl (fun _ _ => rfl)) (Int.le_refl _) (zup_row (by decide)) (congrFun (zup_row (by decide)) _) hL
  have hok : zDok A t := ⟨zDx_ST hI ht hx0, ⟨b5.1, by omega⟩, fun _ => ⟨fun _ _ => ⟨r1, s1⟩, fun _ => p1⟩⟩
  refine ⟨hok, ⟨hL.1, hok, fun i hi => ?_, b3, a10, fun h8 _ _ => (zrw_ok hA hC1 hL1 hR a2 (hop h8)).1⟩, ?_⟩
  · obtain ⟨q1, q2⟩ := b2 i hi
    exact ⟨q1.1, by omega⟩
  · by_cases h8 : A (56 + 17 * t) 8 = 0
    · rw [zD_0 h8, zDC_n (fun q => q.1 h8)]
      exact ⟨hI, .inl h8, hx0⟩
    · by_cases h4 : A (60 + 17 * t) 4 = 0
      · by_cases hv : zVo A t (A 10 (A (56 + 17 * t) 7))
        · rw [zD_r h8 h4 hv]
          have eC : zDC A t C = zrwC A (A (56 + 17 * t) 7) (zup C 140 t 1) := if_pos ⟨h8, h4, hv⟩
          obtain ⟨-, w2, w3, w4⟩ := zrw_ok hA hC1 hL1 hR a2 (hop h8)
          have f4 : zDP t 100 (zDR A t) (60 + 17 * t) 4 = 1 := s3.trans o4
          rw [eC]
          refine ⟨zDx_I hI ht s2 w2 ((w3 _ (by decide) (by decide) (by decide)).trans (zup_row (by decide))) (fun j hj => (w4 j hj).trans (congrFun (zup_row (by decide)) j)) ((w3 _ (by decide) (by decide) (by decide)).trans (zup_row (by decide))) ((w3 _ (by decide) (by decide) (by decide)).trans (zup_row (by decide))) (fun u hu => ?_) ?_ ?_, .inr (.inr ⟨by rw [f4]; decide, s4 (by rw [o3]; omega)⟩), s2⟩
          · rw [w3 140 (by decide) (by decide) (by decide), zup_ne (fun q => hu q.2)]
          · rw [f4, w3 140 (by decide) (by decide) (by decide), zup_eq ⟨rfl, rfl⟩]
            exact ⟨fun q => by omega, fun q => by omega⟩
          · exact h8
        · rw [zD_n h8 h4 hv, zDC_n (fun q => hv q.2.2)]
          exact ⟨hI, .inr (.inl ⟨h4, hv⟩), hx0⟩
      · rw [zD_p h8 h4, zDC_n (fun q => h4 q.2.1)]
        exact ⟨zDx_I hI ht p2 hC rfl (fun _ _ => rfl) rfl rfl (fun _ _ => rfl) (by rw [p3]; exact b3) h8, .inr (.inr ⟨by rw [p3]; exact h4, p4 (by omega)⟩), p2⟩
end ZDU
