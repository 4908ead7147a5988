/-! the steps of a server's reading, each keeps the invariant -/
def zSum (A : ZM) : Int := A 59 0 + A 59 1 + A 59 2 + A 76 0 + A 76 1 + A 76 2 + A 93 0 + A 93 1 + A 93 2
theorem zSum_nx {A : ZM} {t p x : Int} (ht : 0 ≤ t ∧ t < 3) (hp : 0 ≤ p ∧ p < 3) : zSum (zup A (59 + 17 * t) p x) = zSum A - A (59 + 17 * t) p + x := by
  have h1 : t = 0 ∨ t = 1 ∨ t = 2 := by omega
  have h2 : p = 0 ∨ p = 1 ∨ p = 2 := by omega
  unfold zSum
  rcases h1 with rfl | rfl | rfl <;> rcases h2 with rfl | rfl | rfl <;> simp [zup] <;> omega
theorem zSum_c {A X : ZM} (h : ∀ t, 0 ≤ t ∧ t < 3 → X (59 + 17 * t) = A (59 + 17 * t)) : zSum X = zSum A := by
  have e0 := h 0 (by decide)
  have e1 := h 1 (by decide)
  have e2 := h 2 (by decide)
  simp only [Int.reduceMul, Int.reduceAdd] at e0 e1 e2
  unfold zSum
  rw [e0, e1, e2]
section ZSTP
variable {A C X C' : ZM} {t p k w : Int}
/-- one server's rows have changed, what holds of it again holds: all holds -/
theorem zI_srv (hI : zI A C) (ht : 0 ≤ t ∧ t < 3) (hX : zRg X) (hr : ∀ b, (b < 56 + 17 * t ∨ 72 + 17 * t < b) → X b = A b) (hC' : zRg C') (h119 : C' 119 = C 119) (h15 : C' 107 15 = C 107 15) (h140 : ∀ u, u ≠ t → C' 140 u = C 140 u) (h142 : ∀ u w i, u ≠ t → 0 ≤ u ∧ u < 3 → 0 ≤ w ∧ w < 31 → 0 ≤ i ∧ i < 3 → C' 142 ((u * 31 + w) * 3 + i) = C 142 ((u * 31 + w) * 3 + i) ∧ C' 143 ((u * 31 + w) * 3 + i) = C 143 ((u * 31 + w) * 3 + i)) (hS : zSv X C' t) (hx : (∀ i, 0 ≤ C' 142 i ∧ C' 142 i ≤ C' 107 40) ∧ C' 107 40 ≤ zSum X ∧ C' 107 0 = 0) : zI X C' := by
  obtain ⟨hA, hC, hL, hR, hQ, hN, hSS, hXx⟩ := id hI
  have hsm : zSm A X := zSm_of (hr _ (by omega)) (fun c hc => hr c (by omega))
  have r1 := hr 1 (by omega)
  have hG : zGr A X := zGr_sm hsm (fun s hs => (hL.1.1 s hs).2)
  refine ⟨hX, hC', zLog_c hsm (by rw [r1]; omega) h119 h15 hL, zRw_c hsm (hr _ (by omega)) (hr _ (by omega)) (hr _ (by omega)) (fun c hc => hr c (by omega)) (by rw [r1]; omega) hR, zRq_c (fun c hc => hr c (by omega)) hQ, zAn_c (fun c hc => hr c (by omega)) hN, fun u hu => ?_, hx⟩
  by_cases e : u = t
  · subst e; exact hS
  · exact zSv_gr hu hG (fun c hc => hr c (by omega)) (h140 u e) (fun w i hw hi => h142 u w i e hu hw hi) (hSS u hu)
theorem zI_srvC (hI : zI A C) (ht : 0 ≤ t ∧ t < 3) (hX : zRg X) (hr : ∀ b, (b < 56 + 17 * t ∨ 72 + 17 * t < b) → X b = A b) (hS : zSv X C t) (hx : C 107 40 ≤ zSum X) : zI X C :=
  zI_srv hI ht hX hr hI.2.1 rfl rfl (fun _ _ => rfl) (fun _ _ _ _ _ _ _ => ⟨rfl, rfl⟩) hS ⟨hI.2.2.2.2.2.2.2.1, hx, hI.2.2.2.2.2.2.2.2.2⟩
/-- the next one -/
theorem zI_nx (hI : zI A C) (ht : 0 ≤ t ∧ t < 3) (hp : 0 ≤ p ∧ p < 3) (hn : A (59 + 17 * t) p = k) (hk : 1 ≤ k ∧ k ≤ A (44 + 2 * p) 1) : zI (zup A (59 + 17 * t) p (k + 1)) C ∧ C 107 40 + 1 ≤ zSum (zup A (59 + 17 * t) p (k + 1)) ∧ (p = A (56 + 17 * t) 7 % 3 → A (45 + 2 * p) (k * 5 + 0) = 0 → A (45 + 2 * p) (k * 5 + 1) = A (56 + 17 * t) 7 → A (60 + 17 * t) 2 + 1 ≤ zPC A (A (56 + 17 * t) 7 % 3) (A (56 + 17 * t) 7) k) := by
  obtain ⟨hA, hC, hL, hR, hQ, hN, hSS, hXx⟩ := id hI
  obtain ⟨⟨a1, a2, a3, a4, a5, a6, a7, a8, a9, a10⟩, ⟨b1, b2, b3, b4, b5, b6⟩, c1⟩ := hSS t ht
  have hcp := hL.1.1 p hp
  have hsum := zSum_nx (A := A) (x := k + 1) ht hp
  have hx2 : C 107 40 ≤ zSum A := hXx.2.1
  have rn : ∀ b, b ≠ 59 + 17 * t → zup A (59 + 17 * t) p (k + 1) b = A b := fun b hb => zup_row hb
  have hsm : zSm A (zup A (59 + 17 * t) p (k + 1)) := zSm_of (rn _ (by omega)) (fun c hc => rn c (by omega))
  have kS : ∀ m : Nat, ((m : Int) + 1) = k → zPC A p (A (56 + 17 * t) 7) k = zPC A p (A (56 + 17 * t) 7) (k - 1) + (if A (45 + 2 * p) (k * 5 + 0) = 0 ∧ A (45 + 2 * p) (k * 5 + 1) = A (56 + 17 * t) 7 then 1 else 0) := fun m hm => by
    subst hm
    rw [zPC_S, show (m : Int) + 1 - 1 = m by omega]
  have kS := kS (k - 1).toNat (by omega)
  refine ⟨zI_srvC hI ht (zRg_up hA ⟨by omega, by omega⟩) (fun b hb => rn b (by omega)) ⟨?_, ?_, ?_⟩ (by omega), by omega, fun e h0 h1 => ?_⟩
  · unfold zV1
    rw [rn (56 + 17 * t) (by omega), rn (58 + 17 * t) (by omega), rn (62 + 17 * t) (by omega), rn (64 + 17 * t) (by omega), rn (65 + 17 * t) (by omega), rn (66 + 17 * t) (by omega)]
    refine ⟨a1, a2, a3, a4, fun q hq => ?_, fun q i hq hi hb => ?_, a7, a8, a9, a10⟩
    · rw [zSm_4 hsm hq]
      by_cases e : q = p
      · rw [zup_eq ⟨rfl, e⟩, e]; omega
      · rw [zup_ne (fun z => e z.2)]; exact a5 q hq
    · rw [zSm_4 hsm hq]; exact a6 q i hq hi hb
  · unfold zV2
    rw [rn (56 + 17 * t) (by omega), rn (60 + 17 * t) (by omega), rn (61 + 17 * t) (by omega), rn (67 + 17 * t) (by omega), zPC_c hsm, zNP_c hsm, hsm.2.1, hsm.2.2, hsm.1]
    refine ⟨⟨b1.1, b1.2.1, ?_⟩, b2, b3, b4, b5, b6⟩
    by_cases e : A (56 + 17 * t) 7 % 3 = p
    · rw [zup_eq ⟨rfl, e⟩]
      have : zPC A (A (56 + 17 * t) 7 % 3) (A (56 + 17 * t) 7) (A (59 + 17 * t) (A (56 + 17 * t) 7 % 3) - 1) ≤ zPC A (A (56 + 17 * t) 7 % 3) (A (56 + 17 * t) 7) (k + 1 - 1) := zcn_mono _ _ (Int.toNat_le_toNat (by rw [e]; omega))
      omega
    · rw [zup_ne (fun z => e z.2)]; exact b1.2.2
  · unfold zV3
    rw [rn (56 + 17 * t) (by omega), rn (64 + 17 * t) (by omega), rn (65 + 17 * t) (by omega)]
    exact c1
  · rw [if_pos ⟨h0, h1⟩] at kS
    rw [← e]
    have := b1.2.2
    rw [← e, hn] at this
    omega
/-- a PREPARE is put behind the others -/
theorem zI_put (hI : zI A C) (ht : 0 ≤ t ∧ t < 3) (hk : 1 ≤ k ∧ k ≤ A (44 + 2 * (A (56 + 17 * t) 7 % 3)) 1) (h0 : A (45 + 2 * (A (56 + 17 * t) 7 % 3)) (k * 5 + 0) = 0) (hc : A (60 + 17 * t) 2 + 1 ≤ zPC A (A (56 + 17 * t) 7 % 3) (A (56 + 17 * t) 7) (A (59 + 17 * t) (A (56 + 17 * t) 7 % 3) - 1)) : zI (zput A t k) C ∧ A (60 + 17 * t) 2 < 100 := by
  obtain ⟨hA, hC, hL, hR, hQ, hN, hSS, hXx⟩ := id hI
  obtain ⟨⟨a1, a2, a3, a4, a5, a6, a7, a8, a9, a10⟩, ⟨b1, b2, b3, b4, b5, b6⟩, c1⟩ := hSS t ht
  have hcp := hL.1.1 (A (56 + 17 * t) 7 % 3) (by omega)
  have hnp := a5 (A (56 + 17 * t) 7 % 3) (by omega)
  have hle : zPC A (A (56 + 17 * t) 7 % 3) (A (56 + 17 * t) 7) (A (59 + 17 * t) (A (56 + 17 * t) 7 % 3) - 1) ≤ ((A (59 + 17 * t) (A (56 + 17 * t) 7 % 3) - 1).toNat : Int) := (zcn_rg _).2
  have h100 : A (60 + 17 * t) 2 < 100 := by omega
  have e : zput A t k = zup (zup A (61 + 17 * t) (A (60 + 17 * t) 2) k) (60 + 17 * t) 2 (A (60 + 17 * t) 2 + 1) := if_pos h100
  have rn : ∀ b, b ≠ 60 + 17 * t → b ≠ 61 + 17 * t → zput A t k b = A b := fun b h1 h2 => zput_row h1 h2
  have hsm : zSm A (zput A t k) := zSm_of (rn _ (by omega) (by omega)) (fun c hc => rn c (by omega) (by omega))
  have e2 : zput A t k (60 + 17 * t) 2 = A (60 + 17 * t) 2 + 1 := by rw [e, zup_eq ⟨rfl, rfl⟩]
  have eo : ∀ j, j ≠ 2 → zput A t k (60 + 17 * t) j = A (60 + 17 * t) j := fun j hj => by rw [e, zup_ne (fun z => hj z.2), zup_row (by omega)]
  have e61 : ∀ i, zput A t k (61 + 17 * t) i = if i = A (60 + 17 * t) 2 then k else A (61 + 17 * t) i := fun i => by
    rw [e, zup_row (by omega)]
    by_cases q : i = A (60 + 17 * t) 2
    · rw [if_pos q, zup_eq ⟨rfl, q⟩]
    · rw [if_neg q, zup_ne (fun z => q z.2)]
  refine ⟨zI_srvC hI ht (zput_rg hA ⟨by omega, by omega⟩) (fun b hb => rn b (by omega) (by omega)) ⟨?_, ?_, ?_⟩ (by rw [zSum_c (fun u hu => rn _ (by omega) (by omega))]; exact hXx.2.1), h100⟩
  · unfold zV1
    rw [rn (56 + 17 * t) (by omega) (by omega), rn (58 + 17 * t) (by omega) (by omega), rn (59 + 17 * t) (by omega) (by omega), rn (62 + 17 * t) (by omega) (by omega), rn (64 + 17 * t) (by omega) (by omega), rn (65 + 17 * t) (by omega) (by omega), rn (66 + 17 * t) (by omega) (by omega)]
    exact ⟨a1, a2, a3, a4, fun q hq => by rw [zSm_4 hsm hq]; exact a5 q hq, fun q i hq hi hb => by rw [zSm_4 hsm hq]; exact a6 q i hq hi hb, a7, a8, a9, a10⟩
  · unfold zV2
    rw [rn (56 + 17 * t) (by omega) (by omega), rn (59 + 17 * t) (by omega) (by omega), rn (67 + 17 * t) (by omega) (by omega), zPC_c hsm, zNP_c hsm, hsm.2.1, hsm.2.2, hsm.1, e2, eo 3 (by decide), eo 4 (by decide)]
    refine ⟨⟨b1.1, by omega, hc⟩, fun i hi => ?_, b3, b4, b5, b6⟩
    rw [e61]
    split
    · exact ⟨hk, h0⟩
    · exact b2 i (by omega)
  · unfold zV3
    rw [rn (56 + 17 * t) (by omega) (by omega), rn (64 + 17 * t) (by omega) (by omega), rn (65 + 17 * t) (by omega) (by omega)]
    exact c1
/-- a vote -/
theorem zI_vote (hI : zI A C) (ht : 0 ≤ t ∧ t < 3) (hk : 1 ≤ k) : zI (zup A (62 + 17 * t) k 1) C := by
  obtain ⟨hA, hC, hL, hR, hQ, hN, hSS, hXx⟩ := id hI
  obtain ⟨⟨a1, a2, a3, a4, a5, a6, a7, a8, a9, a10⟩, ⟨b1, b2, b3, b4, b5, b6⟩, c1⟩ := hSS t ht
  have rn : ∀ b, b ≠ 62 + 17 * t → zup A (62 + 17 * t) k 1 b = A b := fun b h1 => zup_row h1
  have hsm : zSm A (zup A (62 + 17 * t) k 1) := zSm_of (rn _ (by omega)) (fun c hc => rn c (by omega))
  refine zI_srvC hI ht (zRg_up hA ⟨by decide, by decide⟩) (fun b hb => rn b (by omega)) ⟨?_, ?_, ?_⟩ (by rw [zSum_c (fun u hu => rn _ (by omega))]; exact hXx.2.1)
  · unfold zV1
    rw [rn (56 + 17 * t) (by omega), rn (58 + 17 * t) (by omega), rn (59 + 17 * t) (by omega), rn (64 + 17 * t) (by omega), rn (65 + 17 * t) (by omega), rn (66 + 17 * t) (by omega)]
    refine ⟨a1, a2, a3, a4, fun q hq => by rw [zSm_4 hsm hq]; exact a5 q hq, fun q i hq hi hb => by rw [zSm_4 hsm hq]; exact a6 q i hq hi hb, a7, a8, fun i => ?_, ?_⟩
    · by_cases q : i = k
      · rw [zup_eq ⟨rfl, q⟩]; exact .inr rfl
      · rw [zup_ne (fun z => q z.2)]; exact a9 i
    · rw [zup_ne (by omega)]; exact a10
  · unfold zV2
    rw [rn (56 + 17 * t) (by omega), rn (59 + 17 * t) (by omega), rn (60 + 17 * t) (by omega), rn (61 + 17 * t) (by omega), rn (67 + 17 * t) (by omega), zPC_c hsm, zNP_c hsm, hsm.2.1, hsm.2.2, hsm.1]
    exact ⟨b1, b2, b3, b4, b5, b6⟩
  · unfold zV3
    rw [rn (56 + 17 * t) (by omega), rn (64 + 17 * t) (by omega), rn (65 + 17 * t) (by omega)]
    exact c1
/-- the votes are taken back -/
theorem zclr_at {i : Int} : ∀ (n : Nat) (k l : Int) (M : ZM), (l + 1 - k).toNat = n → zfi (zclr t) k l M (62 + 17 * t) i = if k ≤ i ∧ i ≤ l then 0 else M (62 + 17 * t) i
  | 0, k, l, M, e => by rw [zfi_N (by omega), if_neg (by omega)]
  | n + 1, k, l, M, e => by
    rw [zfi_S (by omega), zclr_at n (k + 1) l _ (by omega)]
    unfold zclr
    by_cases q : i = k
    · rw [if_neg (by omega), if_pos (by omega), zup_eq ⟨rfl, q⟩]
    · rw [zup_ne (fun z => q z.2)]
      by_cases q2 : k + 1 ≤ i ∧ i ≤ l
      · rw [if_pos q2, if_pos (by omega)]
      · rw [if_neg q2, if_neg (by omega)]
theorem zturn_at {on : Int} : (∀ j, j ≠ 7 → j ≠ 8 → zturn A t w on (56 + 17 * t) j = A (56 + 17 * t) j) ∧ zturn A t w on (56 + 17 * t) 7 = w ∧ zturn A t w on (56 + 17 * t) 8 = on ∧ zturn A t w on (60 + 17 * t) 2 = 0 ∧ zturn A t w on (60 + 17 * t) 3 = 0 ∧ zturn A t w on (60 + 17 * t) 4 = 0 ∧ (∀ i, zturn A t w on (62 + 17 * t) i = if 0 ≤ i ∧ i ≤ 100 then 0 else A (62 + 17 * t) i) := by
  refine ⟨fun j h7 h8 => ?_, ?_, ?_, ?_, ?_, ?_, fun i => ?_⟩
  · unfold zturn zbeg
    rw [zclr_row (by omega), zup_row (by omega), zup_row (by omega), zup_row (by omega), zup_ne (fun z => h8 z.2), zup_ne (fun z => h7 z.2)]
  · exact zturn_7
  · unfold zturn zbeg
    rw [zclr_row (by omega), zup_row (by omega), zup_row (by omega), zup_row (by omega), zup_eq ⟨rfl, rfl⟩]
  · unfold zturn zbeg
    rw [zclr_row (by omega), zup_ne (by omega), zup_ne (by omega), zup_eq ⟨rfl, rfl⟩]
  · unfold zturn zbeg
    rw [zclr_row (by omega), zup_ne (by omega), zup_eq ⟨rfl, rfl⟩]
  · unfold zturn zbeg
    rw [zclr_row (by omega), zup_eq ⟨rfl, rfl⟩]
  · unfold zturn zbeg
    rw [zclr_at _ 0 100 _ rfl, zup_row (by omega), zup_row (by omega), zup_row (by omega), zup_row (by omega), zup_row (by omega)]
/-- a server turns to another view -/
theorem zI_turn (hI : zI A C) (ht : 0 ≤ t ∧ t < 3) {on : Int} (hw : 1 ≤ w ∧ w < 31) (hon : on = 0 ∨ on = 1) (hv : A (56 + 17 * t) 7 < w ∨ (A (56 + 17 * t) 7 = w ∧ A (56 + 17 * t) 8 = 0)) (ho : on = 1 → 1 ≤ A 10 w) : zI (zturn A t w on) (zup C 140 t 0) := by
  obtain ⟨hA, hC, hL, hR, hQ, hN, hSS, hXx⟩ := id hI
  obtain ⟨⟨a1, a2, a3, a4, a5, a6, a7, a8, a9, a10⟩, ⟨b1, b2, b3, b4, b5, b6⟩, c1⟩ := hSS t ht
  have htc := zI_tc hI ht
  have rn : ∀ b, b ≠ 56 + 17 * t → b ≠ 60 + 17 * t → b ≠ 62 + 17 * t → zturn A t w on b = A b := fun b h1 h2 h3 => zturn_row h1 h2 h3
  obtain ⟨e1, e2, e3, e4, e5, e6, e7⟩ := zturn_at (A := A) (t := t) (w := w) (on := on)
  have hsm : zSm A (zturn A t w on) := zSm_of (rn _ (by omega) (by omega) (by omega)) (fun c hc => rn c (by omega) (by omega) (by omega))
  refine zI_srv hI ht (zturn_rg hA ⟨by omega, by omega⟩ ⟨by omega, by omega⟩) (fun b hb => rn b (by omega) (by omega) (by omega)) (zRg_up hC ⟨by decide, by decide⟩) (zup_row (by decide)) (congrFun (zup_row (by decide)) _) (fun u hu => zup_ne (fun z => hu z.2)) (fun _ _ _ _ _ _ _ => ⟨congrFun (zup_row (by decide)) _, congrFun (zup_row (by decide)) _⟩) ⟨?_, ?_, ?_⟩ ⟨fun i => by rw [zup_row (by decide), zup_row (by decide)]; exact hXx.1 i, by rw [zup_row (by decide), zSum_c (fun u hu => rn _ (by omega) (by omega) (by omega))]; exact hXx.2.1, by rw [zup_row (by decide)]; exact hXx.2.2⟩
  · unfold zV1
    rw [e1 0 (by decide) (by decide), e1 9 (by decide) (by decide), e2, e3, rn (58 + 17 * t) (by omega) (by omega) (by omega), rn (59 + 17 * t) (by omega) (by omega) (by omega), rn (64 + 17 * t) (by omega) (by omega) (by omega), rn (65 + 17 * t) (by omega) (by omega) (by omega), rn (66 + 17 * t) (by omega) (by omega) (by omega)]
    refine ⟨a1, by omega, hon, a4, fun q hq => by rw [zSm_4 hsm hq]; exact a5 q hq, fun q i hq hi hb => by rw [zSm_4 hsm hq]; exact a6 q i hq hi hb, a7, a8, fun i => ?_, ?_⟩
    · rw [e7]
      split
      · exact .inl rfl
      · exact a9 i
    · rw [e7, if_pos (by decide)]
  · unfold zV2
    rw [e2, e3, e4, e5, e6, rn (59 + 17 * t) (by omega) (by omega) (by omega), rn (67 + 17 * t) (by omega) (by omega) (by omega), zPC_c hsm, zNP_c hsm, hsm.2.1, hsm.2.2, hsm.1, zup_eq ⟨rfl, rfl⟩]
    refine ⟨⟨by omega, by omega, (zcn_rg _).1⟩, fun i hi => by omega, ⟨fun _ => ⟨hw.1, rfl⟩, fun _ => rfl⟩, fun q _ => ho (by omega), ⟨b5.1, ?_⟩, fun _ => rfl⟩
    rcases hv with q | q
    · have h1 := zNP_S (A := A) (u := A (56 + 17 * t) 7) a2.1
      have h2 := zNP_mono (A := A) (w := A (56 + 17 * t) 7 + 1) (w' := w) (by omega)
      have hn := a5 (A (56 + 17 * t) 7 % 3) (by omega)
      have hm : zPC A (A (56 + 17 * t) 7 % 3) (A (56 + 17 * t) 7) (A (59 + 17 * t) (A (56 + 17 * t) 7 % 3) - 1) ≤ zPC A (A (56 + 17 * t) 7 % 3) (A (56 + 17 * t) 7) (A (44 + 2 * (A (56 + 17 * t) 7 % 3)) 1) := zcn_mono _ _ (Int.toNat_le_toNat (by omega))
      omega
    · have := b6 q.2
      rw [← q.1]
      omega
  · unfold zV3
    rw [e2, rn (64 + 17 * t) (by omega) (by omega) (by omega), rn (65 + 17 * t) (by omega) (by omega) (by omega)]
    exact fun w' h1 h2 => zCh_c (fun i hi => ⟨congrFun (zup_row (by decide)) _, congrFun (zup_row (by decide)) _⟩) (c1 w' (by omega) h2)
end ZSTP
