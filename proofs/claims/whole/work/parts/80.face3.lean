/-! late and ask -/
section ZFL
variable {A C M : ZM} {t p q : Int}
/-- an asking is heard -/
theorem zQ_as {i x : Int} (hM : M = zup A (66 + 17 * t) i x) (ht : 0 ≤ t ∧ t < 3) (h : zQ A t) (hs : ¬ M (56 + 17 * t) 7 < zSG M t) : zQ M t := by
  subst hM
  obtain ⟨q1, q2, q3, q4⟩ := h
  have rn : ∀ b, b ≠ 66 + 17 * t → zup A (66 + 17 * t) i x b = A b := fun b hb => zup_row hb
  refine ⟨zOw_c q1 (rn _ (by omega)) (rn _ (by omega)), zFx_c (rn _ (by omega)) (rn _ (by omega)) (rn _ (by omega)) (rn _ (by omega)) (rn _ (by omega)) q2, fun p hp hr => ?_, hs⟩
  unfold zRd zWt at hr
  rw [rn (56 + 17 * t) (by omega), rn (58 + 17 * t) (by omega), rn (59 + 17 * t) (by omega), rn (45 + 2 * p) (by omega)] at hr
  exact q3 p hp hr
theorem zQ_ao {i x u : Int} (hI : zI A C) (hM : M = zup A (66 + 17 * t) i x) (ht : 0 ≤ t ∧ t < 3) (hu : 0 ≤ u ∧ u < 3) (hne : u ≠ t) (h : zQ A u) : zQ M u := by
  subst hM
  have rn : ∀ b, b ≠ 66 + 17 * t → zup A (66 + 17 * t) i x b = A b := fun b hb => zup_row hb
  exact zQ_fr hI (zGr_sm (zSm_of (rn _ (by omega)) (fun c hc => rn c (by omega))) (fun s hs => (hI.2.2.1.1.1 s hs).2)) hu (fun c hc => rn c (by omega)) (rn _ (by omega)) h
theorem zSG_rg (h : ∀ c, 0 ≤ c ∧ c < 3 → -1 ≤ M (66 + 17 * t) c ∧ M (66 + 17 * t) c < 31) : zSG M t < 31 := by
  have h0 := h 0 (by decide)
  have h1 := h 1 (by decide)
  have h2 := h 2 (by decide)
  unfold zSG
  omega
theorem zTurn (hI : zI M C) (ht : 0 ≤ t ∧ t < 3) (hl : M (56 + 17 * t) 9 = 0) (ho : zOw M t) (hoth : ∀ u, 0 ≤ u ∧ u < 3 → u ≠ t → M (56 + 17 * u) 9 = 0 → zQ M u) (hsg : M (56 + 17 * t) 7 < zSG M t) : zRok t 300 (zFO M t) ∧ ∃ (B' C' : ZM), (zRA t 300 (zFO M t) 0).2 = B' ∧ XR 59 135 [.ref 107, zci t] (zhp B' (zmg M C)) (some (zci 1), zhp B' (zmg B' C')) ∧ zGd B' C' := by
  obtain ⟨a1, a2, a3, a4, a5, a6, a7, a8, a9, a10⟩ := (hI.2.2.2.2.2.2.1 t ht).1
  have hw : zSG M t < 31 := zSG_rg a7
  have iW := zI_turn hI ht (w := zSG M t) (on := 0) (by omega) (.inl rfl) (.inl hsg) (fun z => absurd z (by decide))
  have rn : ∀ b, b ≠ 56 + 17 * t → b ≠ 60 + 17 * t → b ≠ 62 + 17 * t → zturn M t (zSG M t) 0 b = M b := fun b h1 h2 h3 => zturn_row h1 h2 h3
  obtain ⟨e1, e2, e3, e4, e5, e6, e7⟩ := zturn_at (A := M) (t := t) (w := zSG M t) (on := 0)
  have oW : zOw (zturn M t (zSG M t) 0) t := zOw_c ho (rn _ (by omega) (by omega) (by omega)) (rn _ (by omega) (by omega) (by omega))
  have fW : zFx (zturn M t (zSG M t) 0) t := .inl e3
  have lW : zturn M t (zSG M t) 0 (56 + 17 * t) 9 = 0 := (e1 9 (by decide) (by decide)).trans hl
  have sW : ¬ zturn M t (zSG M t) 0 (56 + 17 * t) 7 < zSG (zturn M t (zSG M t) 0) t := by
    rw [e2]
    have : zSG (zturn M t (zSG M t) 0) t = zSG M t := by
      unfold zSG
      rw [rn (66 + 17 * t) (by omega) (by omega) (by omega)]
    omega
  have othW : ∀ u, 0 ≤ u ∧ u < 3 → u ≠ t → zturn M t (zSG M t) 0 (56 + 17 * u) 9 = 0 → zQ (zturn M t (zSG M t) 0) u := fun u hu hne hlu => by
    rw [rn _ (by omega) (by omega) (by omega)] at hlu
    exact zQ_fr hI (zGr_sm (zSm_of (rn _ (by omega) (by omega) (by omega)) (fun c hc => rn c (by omega) (by omega) (by omega))) (fun s hs => (hI.2.2.1.1.1 s hs).2)) hu (fun c hc => rn c (by omega) (by omega) (by omega)) (rn _ (by omega) (by omega) (by omega)) (hoth u hu hne hlu)
  have hC := hI.2.1
  have h3 := zSt_303 iW ht
  by_cases hf : zturn M t (zSG M t) 0 (44 + 2 * t) 1 < 100
  · have eF : zFO M t = zent (zturn M t (zSG M t) 0) t 2 (zSG M t) 0 0 := if_pos hf
    obtain ⟨⟨C0, i0⟩, v4, lX, E, C1, j, hj, g1, g2, g3, g4, g5, g6, g7⟩ := zM0 (Z := (zRA t 300 (zFO M t) 0).2) iW oW ht lW fW (kd := 2) (v := zSG M t) (a := 0) (b := 0) (.inr rfl) (by omega) (by decide) (by decide) (fun z => absurd z (by decide)) hf (fun z => absurd z (by decide)) 39
    obtain ⟨B', C2, r0, z1, z2, z3, z4, z5, z6, z7⟩ := zRead (Z := (zRA t 300 (zFO M t) 0).2) g3 ht (g6.2.2.1.trans lW) g5 g4 (300 - j) (by omega) 39
    have eZ : zRA t 300 (zFO M t) 0 = (0 + r0, B') := by
      rw [eF, show (300 : Nat) = (300 - j) + j by omega, g1, z1]
    rw [eZ] at g2 z2
    have hF := zFr_t g6 z6
    refine ⟨by rw [eF]; exact zRok_mk ht 300 _ C0 i0 lX v4, B', C2, by rw [eZ], zq_135y (d := 56) hI.1 hC ht a2 a7 hsg g2 z2, zGd_fw iW othW z3 hF (zQ_mk hF sW z4 z5 z7)⟩
  · have eF : zFO M t = zturn M t (zSG M t) 0 := if_neg hf
    obtain ⟨B', C2, r0, z1, z2, z3, z4, z5, z6, z7⟩ := zRead (Z := (zRA t 300 (zFO M t) 0).2) iW ht lW oW fW 300 (by omega) 39
    have eZ : zRA t 300 (zFO M t) 0 = (0 + r0, B') := by rw [eF, z1]
    rw [eZ] at z2
    have hcf := zCf (d := 57) (Z := B') iW ht (kd := 2) (w := zSG M t) (a := 0) (b := 0) (by decide) (by omega) (by decide) (by decide) hf
    exact ⟨by rw [eF]; exact zRok_mk ht 300 _ _ iW lW (zOw_4 oW), B', C2, by rw [eZ], zq_135y (d := 56) hI.1 hC ht a2 a7 hsg hcf z2, zGd_fw iW othW z3 z6 (zQ_mk z6 sW z4 z5 z7)⟩
theorem zf_79 (hC : zRg C) (hg : zGd A (zup C 107 0 0)) (hp : zrg p) : lwI 60 0 107 79 136 [zci p] [(2, 1)] zInv (zhp A (zmg A C)) := by
  have hA := hg.1.1
  have hz := zGd_z hg
  by_cases e1 : 0 ≤ p ∧ p < 3
  · obtain ⟨a1, a2, a3, a4, a5, a6, a7, a8, a9, a10⟩ := (hg.1.2.2.2.2.2.2.1 p e1).1
    by_cases e2 : A (56 + 17 * p) 9 = 0 ∧ A (56 + 17 * p) 7 < 30
    · have hq := hg.2 p e1 e2.1
      have hap := a7 p e1
      obtain ⟨M, hM⟩ : ∃ M, M = zup A (66 + 17 * p) p (max (A (66 + 17 * p) p) (A (56 + 17 * p) 7 + 1)) := ⟨_, rfl⟩
      have iM : zI M (zup C 107 0 0) := by
        rw [hM]
        exact zI_up1 hg.1 e1 (.inr (.inr (.inl ⟨rfl, by omega, by omega⟩))) ⟨by omega, by omega⟩
      have m56 : M (56 + 17 * p) = A (56 + 17 * p) := by rw [hM, zup_row (by omega)]
      have oM : zOw M p := by
        rw [hM]
        exact zOw_c hq.1 (zup_row (by omega)) (zup_row (by omega))
      have othM : ∀ u, 0 ≤ u ∧ u < 3 → u ≠ p → M (56 + 17 * u) 9 = 0 → zQ M u := fun u hu hne hlu => by
        have : M (56 + 17 * u) = A (56 + 17 * u) := by rw [hM, zup_row (by omega)]
        rw [this] at hlu
        exact zQ_ao hg.1 hM e1 hu hne (hg.2 u hu hlu)
      obtain ⟨m1, m2, m3, m4, m5, m6, m7, -⟩ := (iM.2.2.2.2.2.2.1 p e1).1
      by_cases e3 : M (56 + 17 * p) 7 < zSG M p
      · obtain ⟨t1, B', C', t2, t3, t4⟩ := zTurn iM e1 (by rw [m56]; exact e2.1) oM othM e3
        have c1 := zr_79y (d := 51) (B := zmg A C) (zI_G hg.1) hz e1 a2 e2.1 e2.2 hM (zI_G iM) m1 m2 m7 e3 t1
        rw [t2] at c1
        rw [hM] at t3
        exact zlwI c1 (zo_136 (d := 58) hA hC hp e1 e2.1 ⟨a2.1, e2.2⟩ t3) t4
      · have qM := zQ_as hM e1 hq e3
        have c1 := zr_79n (d := 51) (B := zmg A C) (zI_G hg.1) hz e1 a2 e2.1 e2.2 hM (zI_G iM) m1 m2 m7 e3
        have c2 := zq_135n (d := 56) (A := M) iM.1 iM.2.1 e1 m2 m7 e3 (zQ128 iM e1 qM.2.2.1 47)
        have gM : zGd M (zup C 107 0 0) := ⟨iM, fun u hu hlu => by
          by_cases eu : u = p
          · rw [eu]; exact qM
          · exact othM u hu eu hlu⟩
        refine zlwI c1 (zo_136 (d := 58) hA hC hp e1 e2.1 ⟨a2.1, e2.2⟩ (B2 := M) (C2 := zup C 107 0 0) (z := 0) ?_) gM
        rw [← hM]
        exact c2
    · have e4 : ¬ A (56 + 17 * p) 9 = 0 ∨ A (56 + 17 * p) 7 = 30 := by omega
      exact zlwI (zr_79l (d := 51) hA hz e1 a2 (by omega)) (zo_136l (d := 58) hA hC hp e1 e4) hg
  · exact zlwX (tx_79 (d := 51) hp e1) (by decide) (zo_136a (d := 58) hA hC hp e1) rfl zr1 hC hg
theorem zf_80 (hC : zRg C) (hg : zGd A (zup C 107 0 0)) (hp : zrg p) (hq : zrg q) : lwI 60 0 107 80 137 [zci p, zci q] [(2, 1), (0, 2)] zInv (zhp A (zmg A C)) := by
  have hA := hg.1.1
  have hz := zGd_z hg
  by_cases e1 : 0 ≤ p ∧ p < 3
  · by_cases e2 : 0 ≤ q ∧ q < 3
    · by_cases e3 : p = q
      · exact zlwX (tx_80c (d := 51) hA e1 e2 hp hq e3) (by decide) (zo_137b (d := 58) hA hC hp hq e1 e2 e3) rfl zr2 hC hg
      · by_cases e4 : A (56 + 17 * q) 9 = 0
        · obtain ⟨a1, a2, a3, a4, a5, a6, a7, a8, a9, a10⟩ := (hg.1.2.2.2.2.2.2.1 q e2).1
          obtain ⟨p1, p2, p3, p4, p5, p6, p7, -⟩ := (hg.1.2.2.2.2.2.2.1 p e1).1
          have hqq := hg.2 q e2 e4
          have hap := p7 p e1
          have haq := a7 p e1
          obtain ⟨M, hM⟩ : ∃ M, M = zup A (66 + 17 * q) p (max (A (66 + 17 * q) p) (A (66 + 17 * p) p)) := ⟨_, rfl⟩
          have iM : zI M (zup C 107 0 0) := by
            rw [hM]
            exact zI_up1 hg.1 e2 (.inr (.inr (.inl ⟨rfl, by omega, by omega⟩))) ⟨by omega, by omega⟩
          have m56 : M (56 + 17 * q) = A (56 + 17 * q) := by rw [hM, zup_row (by omega)]
          obtain ⟨m1, m2, m3, m4, m5, m6, m7, -⟩ := (iM.2.2.2.2.2.2.1 q e2).1
          by_cases e5 : A (66 + 17 * p) p = -1
          · have eM : M = A := by
              rw [hM]
              exact zup_sf (by omega)
            have c1 := zr_80n (d := 51) (B := zmg A C) (zI_G hg.1) hz e1 e2 e3 e4 p1 hM (zI_G iM) m1 m2 m7 (by rw [eM]; exact hqq.2.2.2)
            rw [eM] at c1
            exact zlwI c1 (zo_137l (d := 58) hA hC hp hq e1 e2 e3 (.inr e5)) hg
          · have oM : zOw M q := by
              rw [hM]
              exact zOw_c hqq.1 (zup_row (by omega)) (zup_row (by omega))
            have othM : ∀ u, 0 ≤ u ∧ u < 3 → u ≠ q → M (56 + 17 * u) 9 = 0 → zQ M u := fun u hu hne hlu => by
              have : M (56 + 17 * u) = A (56 + 17 * u) := by rw [hM, zup_row (by omega)]
              rw [this] at hlu
              exact zQ_ao hg.1 hM e2 hu hne (hg.2 u hu hlu)
            by_cases e6 : M (56 + 17 * q) 7 < zSG M q
            · obtain ⟨t1, B', C', t2, t3, t4⟩ := zTurn iM e2 (by rw [m56]; exact e4) oM othM e6
              have c1 := zr_80y (d := 51) (B := zmg A C) (zI_G hg.1) hz e1 e2 e3 e4 p1 hM (zI_G iM) m1 m2 m7 e6 t1
              rw [t2] at c1
              rw [hM] at t3
              exact zlwI c1 (zo_137 (d := 58) hA hC hp hq e1 e2 e3 e4 e5 (.inr rfl) t3) t4
            · have qM := zQ_as hM e2 hqq e6
              have c1 := zr_80n (d := 51) (B := zmg A C) (zI_G hg.1) hz e1 e2 e3 e4 p1 hM (zI_G iM) m1 m2 m7 e6
              have c2 := zq_135n (d := 56) (A := M) iM.1 iM.2.1 e2 m2 m7 e6 (zQ128 iM e2 qM.2.2.1 47)
              have gM : zGd M (zup C 107 0 0) := ⟨iM, fun u hu hlu => by
                by_cases eu : u = q
                · rw [eu]; exact qM
                · exact othM u hu eu hlu⟩
              refine zlwI c1 (zo_137 (d := 58) hA hC hp hq e1 e2 e3 e4 e5 (B2 := M) (C2 := zup C 107 0 0) (z := 0) (.inl rfl) ?_) gM
              rw [← hM]
              exact c2
        · exact zlwI (zr_80l (d := 51) hA hz e1 e2 e3 e4) (zo_137l (d := 58) hA hC hp hq e1 e2 e3 (.inl e4)) hg
    · exact zlwX (tx_80b (d := 51) hA e1 hq e2) (by decide) (zo_137a (d := 58) hA hC hp hq (fun z => e2 z.2)) rfl zr1 hC hg
  · exact zlwX (tx_80a (d := 51) hp e1) (by decide) (zo_137a (d := 58) hA hC hp hq (fun z => e1 z.1)) rfl zr1 hC hg
end ZFL
