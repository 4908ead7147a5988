/-! the calls that read, and reply -/
section ZFR
variable {A C X Z E : ZM} {t p q k r v w : Int}
theorem zanf_53 {s x : Int} {M : ZM} {k l r' : Int} (h : r' ≠ r) : zfi (zanf r s x) k l M 53 r' = M 53 r' := zfi_kp (P := fun N : ZM => N 53 r' = M 53 r') _ _ _ (fun i N _ hN => by
    unfold zanf
    split
    · rw [zup_ne (by omega), zup_ne (by omega)]; exact hN
    · exact hN) rfl
theorem zanf_51 {s x : Int} {M : ZM} {k l b : Int} (h : b ≠ 53 ∧ b ≠ 54) : zfi (zanf r s x) k l M b = M b := zfi_kp (P := fun N : ZM => N b = M b) _ _ _ (fun i N _ hN => by
    unfold zanf
    split
    · rw [zup_row h.2, zup_row h.1]; exact hN
    · exact hN) rfl
theorem zAn_ans (hN : zAn A) (hp : 0 ≤ p ∧ p < 3) (hr : 0 ≤ r ∧ r < 60) : zAn (zans A r p w) := by
  intro r' hr' h0 i j hi hj hne
  have r51 : zans A r p w 51 = zup A 51 (r * 3 + p) 1 51 := by
    unfold zans
    rw [zanf_51 (by decide), zup_row (by decide)]
  have r52 : zans A r p w 52 = zup A 52 (r * 3 + p) w 52 := by
    unfold zans
    rw [zanf_51 (by decide)]
    exact zup_cr (zup_row (by decide))
  rw [r51, r52]
  by_cases e : r' = r
  · subst e
    have key : A 53 r' = 0 ∧ ∀ i, 0 ≤ i ∧ i < 3 → ¬ (i ≠ p ∧ ¬ zup A 51 (r' * 3 + p) 1 51 (r' * 3 + i) = 0 ∧ zup A 52 (r' * 3 + p) w 52 (r' * 3 + i) = w) := by
      unfold zans at h0
      generalize hM : zup (zup A 51 (r' * 3 + p) 1) 52 (r' * 3 + p) w = M at h0
      have m51 : M 51 = zup A 51 (r' * 3 + p) 1 51 := by rw [← hM, zup_row (by decide)]
      have m52 : M 52 = zup A 52 (r' * 3 + p) w 52 := by rw [← hM]; exact zup_cr (zup_row (by decide))
      have m53 : M 53 = A 53 := by rw [← hM, zup_row (by decide), zup_row (by decide)]
      by_cases h5 : A 53 r' = 0
      · refine ⟨h5, fun i hi hc => ?_⟩
        rw [← m51, ← m52] at hc
        rw [zan_one _ 0 2 i rfl (by omega) ⟨by rw [m53]; exact h5, hc⟩, zup_ne (by omega), zup_eq ⟨rfl, rfl⟩] at h0
        omega
      · rw [zanf_id (by rw [m53]; exact h5) _ _ _ rfl, m53] at h0
        exact absurd h0 h5
    obtain ⟨h5, hno⟩ := key
    rintro ⟨q1, q2, q3⟩
    by_cases ei : i = p
    · refine hno j hj ⟨by omega, q2, ?_⟩
      rw [← q3, ei, zup_eq ⟨rfl, rfl⟩]
    · by_cases ej : j = p
      · refine hno i hi ⟨ei, q1, ?_⟩
        rw [q3, ej, zup_eq ⟨rfl, rfl⟩]
      · rw [zup_ne (by omega)] at q1 q2
        rw [zup_ne (by omega), zup_ne (by omega)] at q3
        exact hN r' hr' h5 i j hi hj hne ⟨q1, q2, q3⟩
  · have h53 : zans A r p w 53 r' = A 53 r' := by
      unfold zans
      rw [zanf_53 e, zup_row (by decide), zup_row (by decide)]
    rw [h53] at h0
    rw [zup_ne (by omega), zup_ne (by omega), zup_ne (by omega), zup_ne (by omega)]
    exact hN r' hr' h0 i j hi hj hne
theorem zGd_ans (h : zGd A C) (hp : 0 ≤ p ∧ p < 3) (hr : 0 ≤ r ∧ r < 60) (hw : zrg w) : zGd (zans A r p w) C := by
  obtain ⟨hA, hC, hL, hR, hQ, hN, hS, hX⟩ := h.1
  have rn : ∀ b, b < 51 ∨ 54 < b → zans A r p w b = A b := fun b hb => zans_row hb
  have hsm : zSm A (zans A r p w) := zSm_of (rn _ (by omega)) (fun b hb => rn b (by omega))
  have r1 := rn 1 (by omega)
  exact zGd_loc h ⟨zans_rg hA hw, hC, zLog_c hsm (by rw [r1]; omega) rfl rfl hL, zRw_c hsm (rn _ (by omega)) (rn _ (by omega)) (rn _ (by omega)) (fun b hb => rn b (by omega)) (by rw [r1]; omega) hR, zRq_c (fun b hb => rn b (by omega)) hQ, zAn_ans hN hp hr, fun u hu => zSv_gr hu (zGr_sm hsm (fun s hs => (hL.1.1 s hs).2)) (fun b hb => rn b (by omega)) rfl (fun _ _ _ _ => ⟨rfl, rfl⟩) (hS u hu), zCx_c (fun u hu => rn _ (by omega)) rfl rfl rfl hX⟩ hsm (fun b hb _ => rn b (by omega))
theorem zf_81 (hC : zRg C) (hg : zGd A (zup C 107 0 0)) (hp : zrg p) (hr : zrg r) : lwI 60 0 107 81 138 [zci p, zci r] [(2, 1)] zInv (zhp A (zmg A C)) := by
  have hA := hg.1.1
  have hq60 := hg.1.2.2.2.2.1.1.2
  have hN := hg.1.2.2.2.2.2.1
  by_cases e1 : 0 ≤ p ∧ p < 3
  · by_cases e2 : 0 ≤ r ∧ r < A 1 6
    · by_cases e3 : A (71 + 17 * p) r = 0
      · exact zlwI (zr_81n (d := 55) hA e1 e2 hq60 e3) (zo_138n (d := 58) hA hC hp hr e1 e2 hq60 e3) hg
      · have hG := zGd_ans hg e1 (r := r) (w := A (72 + 17 * p) r) (by omega) (hA _ _)
        have c1 := zr_81 (d := 55) (B := zmg A C) hA e1 e2 hq60 e3
        have h3 : p = 0 ∨ p = 1 ∨ p = 2 := by omega
        rcases h3 with rfl | rfl | rfl
        · exact zlwI c1 (zo_138_0 (d := 58) hA hC hr e2 hq60 e3 (fun z => hN r (by omega) z 1 2 (by decide) (by decide) (by decide))) hG
        · exact zlwI c1 (zo_138_1 (d := 58) hA hC hr e2 hq60 e3 (fun z => hN r (by omega) z 0 2 (by decide) (by decide) (by decide))) hG
        · exact zlwI c1 (zo_138_2 (d := 58) hA hC hr e2 hq60 e3 (fun z => hN r (by omega) z 0 1 (by decide) (by decide) (by decide))) hG
    · exact zlwX (tx_81b (d := 51) hA e1 hr e2) (by decide) (zo_138a (d := 58) hA hC hp hr (fun z => e2 z.2)) rfl zr1 hC hg
  · exact zlwX (tx_81a (d := 51) hp e1) (by decide) (zo_138a (d := 58) hA hC hp hr (fun z => e1 z.1)) rfl zr1 hC hg
theorem zQ128 (hI : zI A C) (ht : 0 ≤ t ∧ t < 3) (hn : ∀ p, 0 ≤ p ∧ p < 3 → ¬ zRd A t p) (d : Nat) : XR (d + 11) 128 [.ref 107, zci t] (zhp Z (zmg A C)) (some (zci 0), zhp Z (zmg A C)) := by
  obtain ⟨a1, a2, a3, a4, a5, -⟩ := (hI.2.2.2.2.2.2.1 t ht).1
  exact z128 (fun o4 => zq_128n (d := d) hI.1 hI.2.1 hI.2.2.1.1 ht (fun p hp => by have := a5 p hp; have := hI.2.2.1.1.1 p hp; omega) (by omega) (fun p hp => (zNr_i hI ht hp).mpr (hn p hp)))
theorem zRead (hI : zI E C) (ht : 0 ≤ t ∧ t < 3) (hl : E (56 + 17 * t) 9 = 0) (ho : zOw E t) (hFx : zFx E t) (n : Nat) (hn : 303 - zSt E t ≤ n) (d : Nat) : ∃ (B' C' : ZM) (r : Int), (∀ c, zRA t n E c = (c + r, B')) ∧ XR (d + 19) 128 [.ref 107, zci t] (zhp Z (zmg E C)) (some (zci (0 + r)), zhp Z (zmg B' C')) ∧ zI B' C' ∧ zOw B' t ∧ zFx B' t ∧ zFr E B' t ∧ ∀ p, 0 ≤ p ∧ p < 3 → ¬ zRd B' t p := by
  obtain ⟨B', C', r, z1, z2, z3, z4, z5, z6, z7⟩ := zRO (Z := Z) ht d n E C n hI hl ho hFx hn (Nat.le_refl _)
  exact ⟨B', C', r, z1, z128 (fun o4 => z2 0 o4), z3, z4, z5, z6, (zNS_n z4).mp z7⟩
theorem zQ_mk (hF : zFr A X t) (hs : ¬ A (56 + 17 * t) 7 < zSG A t) (ho : zOw X t) (hf : zFx X t) (hr : ∀ p, 0 ≤ p ∧ p < 3 → ¬ zRd X t p) : zQ X t := by
  refine ⟨ho, hf, hr, ?_⟩
  have h1 := hF.2.2.2.2.1
  unfold zSG at hs ⊢
  rw [hF.2.2.2.2.2]
  omega
theorem zf_77 (hC : zRg C) (hg : zGd A (zup C 107 0 0)) (hr : zrg r) (hp : zrg p) : lwI 60 0 107 77 133 [zci r, zci p] [(2, 1)] zInv (zhp A (zmg A C)) := by
  have hA := hg.1.1
  have hq60 := hg.1.2.2.2.2.1.1.2
  by_cases e1 : 0 ≤ r ∧ r < A 1 6
  · by_cases e2 : 0 ≤ p ∧ p < 3
    · obtain ⟨a1, a2, a3, a4, -⟩ := (hg.1.2.2.2.2.2.2.1 p e2).1
      have hG := zI_G hg.1
      have hcn := hg.1.2.2.1.1.1 p e2
      have cno : ¬ zPc A p r → XR 60 77 (.ref 0 :: [zci r, zci p]) (zhp A (zmg A C)) (some (zci 0), zhp A (zmg A C)) := fun hn => by
        by_cases hf : A (44 + 2 * p) 1 < 100
        · exact zr_77n (d := 51) hG e2 a1 a2 e1 hq60 hf hn
        · exact zr_77f (d := 51) hG e2 a1 a2 e1 hq60 hf
      by_cases e3 : A (56 + 17 * p) 9 = 0 ∧ ¬ A (56 + 17 * p) 8 = 0 ∧ A (56 + 17 * p) 7 % 3 = p
      · by_cases e4 : zex (zHP A p (A (56 + 17 * p) 7) r) (A (44 + 2 * p) 1) = true
        · exact zlwI (cno (fun z => z.2.2.2 e4)) (zo_133f (d := 57) hA hC hr hp e1 e2 a2 e3.1 e3.2.1 e3.2.2 hcn e4) hg
        · have e4' : zex (zHP A p (A (56 + 17 * p) 7) r) (A (44 + 2 * p) 1) = false := Bool.eq_false_iff.mpr e4
          obtain ⟨q1, q2, q3, q4⟩ := hg.2 p e2 e3.1
          by_cases hf : A (44 + 2 * p) 1 < 100
          · have hy : (0 : Int) = 0 ∨ (0 : Int) = 1 → A (56 + 17 * p) 7 = A (56 + 17 * p) 7 ∧ ¬ A (56 + 17 * p) 8 = 0 := fun _ => ⟨rfl, e3.2.1⟩
            have eF : zentF A p 0 (A (56 + 17 * p) 7) r 0 = zent A p 0 (A (56 + 17 * p) 7) r 0 := if_pos hf
            obtain ⟨⟨C0, i0⟩, v4, lX, E, C1, j, hj, g1, g2, g3, g4, g5, g6, g7⟩ := zM0 (Z := (zRA p 300 (zentF A p 0 (A (56 + 17 * p) 7) r 0) 0).2) hg.1 q1 e2 e3.1 q2 (kd := 0) (v := A (56 + 17 * p) 7) (a := r) (b := 0) (.inl rfl) a2 (by omega) (by decide) (fun _ => e1.2) hf hy 40
            have h3 := zSt_303 hg.1 e2
            obtain ⟨B', C2, r0, z1, z2, z3, z4, z5, z6, z7⟩ := zRead (Z := (zRA p 300 (zentF A p 0 (A (56 + 17 * p) 7) r 0) 0).2) g3 e2 (g6.2.2.1.trans e3.1) g5 g4 (300 - j) (by omega) 40
            have eZ : zRA p 300 (zentF A p 0 (A (56 + 17 * p) 7) r 0) 0 = (0 + r0, B') := by
              rw [eF, show (300 : Nat) = (300 - j) + j by omega, g1, z1]
            have hok : zRok p 300 (zentF A p 0 (A (56 + 17 * p) 7) r 0) := by
              rw [eF]
              exact zRok_mk e2 300 _ C0 i0 lX v4
            have c1 := zr_77t (d := 51) (B := zmg A C) hG e2 a1 a2 e1 hq60 hf ⟨e3.1, e3.2.1, e3.2.2, e4⟩ hok
            rw [eZ] at c1 g2 z2
            have c2 := zo_133 (d := 57) hA hC hr hp e1 e2 a2 e3.1 e3.2.1 e3.2.2 hcn e4' (by omega) g2 z2
            rw [if_neg (by omega)] at c2
            have hF := zFr_t g6 z6
            exact zlwI c1 c2 (zGd_fw hg.1 (fun u hu _ hl => hg.2 u hu hl) z3 hF (zQ_mk hF q4 z4 z5 z7))
          · have c2 := zo_133 (d := 57) (A := A) hA hC hr hp e1 e2 a2 e3.1 e3.2.1 e3.2.2 hcn e4' (by omega) (zCf (d := 58) (Z := A) hg.1 e2 (by decide) (by omega) (by omega) (by decide) hf) (zQ128 hg.1 e2 q3 48)
            rw [if_pos rfl] at c2
            exact zlwI (zr_77f (d := 51) hG e2 a1 a2 e1 hq60 hf) c2 hg
      · refine zlwI (cno (fun z => e3 ⟨z.1, z.2.1, z.2.2.1⟩)) (zo_133l (d := 58) hA hC hr hp e1 e2 a2 ?_) hg
        by_cases y1 : A (56 + 17 * p) 9 = 0
        · by_cases y2 : A (56 + 17 * p) 8 = 0
          · exact .inr (.inl y2)
          · exact .inr (.inr (fun y3 => e3 ⟨y1, y2, y3⟩))
        · exact .inl y1
    · exact zlwX (tx_77b (d := 51) hA e1 hr hp e2) (by decide) (zo_133a (d := 58) hA hC hr hp (fun z => e2 z.2)) rfl zr1 hC hg
  · exact zlwX (tx_77a (d := 51) hA hr e1) (by decide) (zo_133a (d := 58) hA hC hr hp (fun z => e1 z.1)) rfl zr1 hC hg
/-- a message is brought -/
theorem zI_br (hI : zI A C) (hq : 0 ≤ q ∧ q < 3) (hp : 0 ≤ p ∧ p < 3) (hk : 1 ≤ k ∧ k ≤ A (44 + 2 * p) 1) : zI (zup A (58 + 17 * q) (p * 101 + k) 1) C := by
  obtain ⟨⟨a1, a2, a3, a4, a5, a6, a7, a8, a9, a10⟩, ⟨b1, b2, b3, b4, b5, b6⟩, c1⟩ := hI.2.2.2.2.2.2.1 q hq
  have hcp := hI.2.2.1.1.1 p hp
  have rn : ∀ b, b ≠ 58 + 17 * q → zup A (58 + 17 * q) (p * 101 + k) 1 b = A b := fun b hb => zup_row hb
  have hsm : zSm A (zup A (58 + 17 * q) (p * 101 + k) 1) := zSm_of (rn _ (by omega)) (fun c hc => rn c (by omega))
  refine zI_srvC hI hq (zRg_up hI.1 zr1) (fun b hb => rn b (by omega)) ⟨?_, ?_, ?_⟩ (by rw [zSum_c (fun u hu => rn _ (by omega))]; exact hI.2.2.2.2.2.2.2.2.1)
  · unfold zV1
    rw [rn (56 + 17 * q) (by omega), rn (59 + 17 * q) (by omega), rn (62 + 17 * q) (by omega), rn (64 + 17 * q) (by omega), rn (65 + 17 * q) (by omega), rn (66 + 17 * q) (by omega)]
    refine ⟨a1, a2, a3, a4, fun s hs => by rw [zSm_4 hsm hs]; exact a5 s hs, fun s i hs hi hb => ?_, a7, a8, a9, a10⟩
    rw [zSm_4 hsm hs]
    by_cases e : s = p ∧ i = k
    · rw [e.1, e.2]; exact hk
    · rw [zup_ne (by omega)] at hb
      exact a6 s i hs hi hb
  · unfold zV2
    rw [rn (56 + 17 * q) (by omega), rn (59 + 17 * q) (by omega), rn (60 + 17 * q) (by omega), rn (61 + 17 * q) (by omega), rn (67 + 17 * q) (by omega), zPC_c hsm, zNP_c hsm, hsm.2.1, hsm.2.2, hsm.1]
    exact ⟨b1, b2, b3, b4, b5, b6⟩
  · unfold zV3
    rw [rn (56 + 17 * q) (by omega), rn (64 + 17 * q) (by omega), rn (65 + 17 * q) (by omega)]
    exact c1
theorem zFx_c (h56 : X (56 + 17 * t) = A (56 + 17 * t)) (h60 : X (60 + 17 * t) = A (60 + 17 * t)) (h61 : X (61 + 17 * t) = A (61 + 17 * t)) (h62 : X (62 + 17 * t) = A (62 + 17 * t)) (h10 : X 10 = A 10) (h : zFx A t) : zFx X t := by
  unfold zFx zVo zNT
  rw [h56, h60, h61, h62, h10]
  exact h
theorem zf_78 (hC : zRg C) (hg : zGd A (zup C 107 0 0)) (hp : zrg p) (hk : zrg k) (hq : zrg q) : lwI 60 0 107 78 134 [zci p, zci k, zci q] [(2, 1), (0, 2)] zInv (zhp A (zmg A C)) := by
  have hA := hg.1.1
  have hz := zGd_z hg
  by_cases e1 : (0 ≤ p ∧ p < 3) ∧ (1 ≤ k ∧ k ≤ A (44 + 2 * p) 1)
  · by_cases e2 : 0 ≤ q ∧ q < 3
    · by_cases e3 : p = q
      · exact zlwX (tx_78c (d := 51) hA e1.1 e1.2 hk e2 hp hq e3) (by decide) (zo_134b (d := 58) hA hC hp hk hq e1.1 e2 e1.2 e3) rfl zr2 hC hg
      · by_cases e4 : A (56 + 17 * q) 9 = 0
        · obtain ⟨q1, q2, q3, q4⟩ := hg.2 q e2 e4
          have hcp := hg.1.2.2.1.1.1 p e1.1
          have iX := zI_br hg.1 e2 e1.1 e1.2
          have rn : ∀ b, b ≠ 58 + 17 * q → zup A (58 + 17 * q) (p * 101 + k) 1 b = A b := fun b hb => zup_row hb
          have oX : zOw (zup A (58 + 17 * q) (p * 101 + k) 1) q := zOw_c q1 (rn _ (by omega)) (rn _ (by omega))
          have fX : zFx (zup A (58 + 17 * q) (p * 101 + k) 1) q := zFx_c (rn _ (by omega)) (rn _ (by omega)) (rn _ (by omega)) (rn _ (by omega)) (rn _ (by omega)) q2
          have lX : zup A (58 + 17 * q) (p * 101 + k) 1 (56 + 17 * q) 9 = 0 := by rw [rn _ (by omega)]; exact e4
          have sX : ¬ zup A (58 + 17 * q) (p * 101 + k) 1 (56 + 17 * q) 7 < zSG (zup A (58 + 17 * q) (p * 101 + k) 1) q := by
            unfold zSG
            rw [rn (56 + 17 * q) (by omega), rn (66 + 17 * q) (by omega)]
            exact q4
          have h3 := zSt_303 iX e2
          have hsm : zSm A (zup A (58 + 17 * q) (p * 101 + k) 1) := zSm_of (rn _ (by omega)) (fun c hc => rn c (by omega))
          have hGr : zGr A (zup A (58 + 17 * q) (p * 101 + k) 1) := zGr_sm hsm (fun s hs => (hg.1.2.2.1.1.1 s hs).2)
          have hoth : ∀ u, 0 ≤ u ∧ u < 3 → u ≠ q → zup A (58 + 17 * q) (p * 101 + k) 1 (56 + 17 * u) 9 = 0 → zQ (zup A (58 + 17 * q) (p * 101 + k) 1) u := fun u hu hne hl => by
            rw [rn _ (by omega)] at hl
            exact zQ_fr hg.1 hGr hu (fun c hc => rn c (by omega)) (rn _ (by omega)) (hg.2 u hu hl)
          obtain ⟨B', C2, r0, z1, z2, z3, z4, z5, z6, z7⟩ := zRead (Z := (zRA q 300 (zup A (58 + 17 * q) (p * 101 + k) 1) 0).2) iX e2 lX oX fX 300 (by omega) 40
          have eZ := z1 0
          have c1 := zr_78 (d := 51) (B := zmg A C) hA hz e1.1 e2 e1.2 hcp.2 e3 e4 (zRok_mk e2 300 _ _ iX lX (zOw_4 oX))
          rw [eZ] at c1 z2
          exact zlwI c1 (zo_134 (d := 58) hA hC hp hk hq e1.1 e2 e1.2 e3 e4 hcp.2 z2) (zGd_fw iX hoth z3 z6 (zQ_mk z6 sX z4 z5 z7))
        · exact zlwI (zr_78l (d := 51) hA hz e1.1 e2 e1.2 hk e3 e4) (zo_134l (d := 58) hA hC hp hk hq e1.1 e2 e1.2 e3 e4) hg
    · exact zlwX (tx_78b (d := 51) hA e1.1 e1.2 hk hq e2) (by decide) (zo_134a (d := 58) hA hC hp hk hq (fun z => e2 z.2.1)) rfl zr1 hC hg
  · exact zlwX (tx_78a (d := 51) hA hp hk e1) (by decide) (zo_134a (d := 58) hA hC hp hk hq (fun z => e1 ⟨z.1, z.2.2⟩)) rfl zr1 hC hg
end ZFR
