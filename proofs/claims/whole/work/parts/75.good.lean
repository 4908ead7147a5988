/-! what holds between calls -/
/-- a true server between calls: nothing of its own unread, nothing due, nobody next, no view to follow -/
def zQ (A : ZM) (t : Int) : Prop := zOw A t ∧ zFx A t ∧ (∀ p, 0 ≤ p ∧ p < 3 → ¬ zRd A t p) ∧ ¬ A (56 + 17 * t) 7 < zSG A t
def zGd (A C : ZM) : Prop := zI A C ∧ ∀ t, 0 ≤ t ∧ t < 3 → A (56 + 17 * t) 9 = 0 → zQ A t
section ZGD
variable {A C X C' : ZM} {t u p : Int}
theorem zI_C (hI : zI A C) (hC : zRg C') (h119 : C' 119 = C 119) (h140 : C' 140 = C 140) (h142 : C' 142 = C 142) (h143 : C' 143 = C 143) (h15 : C' 107 15 = C 107 15) (h40 : C' 107 40 = C 107 40) (h0 : C' 107 0 = C 107 0) : zI A C' := by
  obtain ⟨hA, hC0, hL, hR, hQ, hN, hS, hX⟩ := hI
  have hsm : zSm A A := zSm_of rfl (fun _ _ => rfl)
  exact ⟨hA, hC, zLog_c hsm (Int.le_refl _) h119 h15 hL, hR, hQ, hN, fun u hu => zSv_gr hu (zGr_sm hsm (fun s hs => (hL.1.1 s hs).2)) (fun _ _ => rfl) (by rw [h140]) (fun _ _ _ _ => ⟨by rw [h142], by rw [h143]⟩) (hS u hu), zCx_c (fun _ _ => rfl) h142 h40 h0 hX⟩
/-- a server that nobody touched, the log may have grown -/
theorem zQ_fr (hI : zI A C) (hG : zGr A X) (hu : 0 ≤ u ∧ u < 3) (hr : ∀ c, 56 + 17 * u ≤ c ∧ c ≤ 72 + 17 * u → X c = A c) (h44 : X (44 + 2 * u) = A (44 + 2 * u)) (h : zQ A u) : zQ X u := by
  obtain ⟨⟨a1, a2, a3, a4, a5, a6, a7, a8, a9, a10⟩, ⟨b1, b2, b3, b4, b5, b6⟩, -⟩ := hI.2.2.2.2.2.2.1 u hu
  obtain ⟨q1, q2, q3, q4⟩ := h
  have r56 := hr (56 + 17 * u) (by omega)
  have r58 := hr (58 + 17 * u) (by omega)
  have r59 := hr (59 + 17 * u) (by omega)
  have r60 := hr (60 + 17 * u) (by omega)
  have r61 := hr (61 + 17 * u) (by omega)
  have r62 := hr (62 + 17 * u) (by omega)
  have r66 := hr (66 + 17 * u) (by omega)
  refine ⟨zOw_c q1 r59 h44, ?_, fun p hp hrd => ?_, ?_⟩
  · unfold zFx zVo zNT at q2 ⊢
    rw [r56, r60, r61, r62]
    by_cases h8 : A (56 + 17 * u) 8 = 0
    · exact .inl h8
    · rcases q2 with z | z | z
      · exact absurd z h8
      · have h1 := b4 h8 (b3.mp z.1).1
        rw [hG.2.1 _ h1]
        exact .inr (.inl z)
      · exact .inr (.inr z)
  · unfold zRd zWt at hrd
    rw [r58, r59, r56] at hrd
    have hb := a6 p _ hp (by have := hrd.2.1.1; have := a5 p hp; omega) hrd.2.1.2
    have g := (hG.1 p hp).2 (A (59 + 17 * u) p)
    rw [g 0 hb (by omega), g 1 hb (by omega), g 4 hb (by omega)] at hrd
    exact q3 p hp hrd
  · unfold zSG
    rw [r56, r66]
    exact q4
/-- a call that was one server's own -/
theorem zGd_fr (h : zGd A C) (hI : zI X C') (hF : zFr A X t) (ht : A (56 + 17 * t) 9 = 0 → zQ X t) : zGd X C' := by
  refine ⟨hI, fun u hu hl => ?_⟩
  by_cases e : u = t
  · subst e
    exact ht (hF.2.2.1.symm.trans hl)
  · obtain ⟨q1, q2, q3⟩ := hF.2.1 u hu e
    rw [q1 _ (by omega)] at hl
    exact zQ_fr h.1 hF.1 hu q1 q2 (h.2 u hu hl)
/-- the same, where the others were quiet -/
theorem zGd_fw (h0 : zI A C) (h : ∀ u, 0 ≤ u ∧ u < 3 → u ≠ t → A (56 + 17 * u) 9 = 0 → zQ A u) (hI : zI X C') (hF : zFr A X t) (ht : zQ X t) : zGd X C' := by
  refine ⟨hI, fun u hu hl => ?_⟩
  by_cases e : u = t
  · subst e; exact ht
  · obtain ⟨q1, q2, q3⟩ := hF.2.1 u hu e
    rw [q1 _ (by omega)] at hl
    exact zQ_fr h0 hF.1 hu q1 q2 (h u hu e hl)
/-- nothing but what no server looks at -/
theorem zGd_loc (h : zGd A C) (hI : zI X C') (hsm : zSm A X) (hr : ∀ c, 56 ≤ c ∧ c ≤ 106 → (∀ u, 0 ≤ u ∧ u < 3 → c ≠ 71 + 17 * u ∧ c ≠ 72 + 17 * u) → X c = A c) : zGd X C' := by
  have hG : zGr A X := zGr_sm hsm (fun s hs => (h.1.2.2.1.1.1 s hs).2)
  refine ⟨hI, fun u hu hl => ?_⟩
  have hru : ∀ c, 56 + 17 * u ≤ c ∧ c ≤ 70 + 17 * u → X c = A c := fun c hc => hr c (by omega) (fun v hv => by omega)
  rw [hru _ (by omega)] at hl
  obtain ⟨q1, q2, q3, q4⟩ := h.2 u hu hl
  obtain ⟨⟨a1, a2, a3, a4, a5, a6, a7, a8, a9, a10⟩, -⟩ := h.1.2.2.2.2.2.2.1 u hu
  refine ⟨zOw_c q1 (hru _ (by omega)) (zSm_4 hsm hu), ?_, fun p hp hrd => ?_, ?_⟩
  · unfold zFx zVo zNT at q2 ⊢
    rw [hru (56 + 17 * u) (by omega), hru (60 + 17 * u) (by omega), hru (61 + 17 * u) (by omega), hru (62 + 17 * u) (by omega), hsm.1]
    exact q2
  · unfold zRd zWt at hrd
    rw [hru (56 + 17 * u) (by omega), hru (58 + 17 * u) (by omega), hru (59 + 17 * u) (by omega), zSm_5 hsm hp] at hrd
    exact q3 p hp hrd
  · unfold zSG
    rw [hru (56 + 17 * u) (by omega), hru (66 + 17 * u) (by omega)]
    exact q4
/-- a request -/
theorem zon_bd {c : Int} : ∀ n : Nat, 1 ≤ zfi (zonf A c) 0 ((n : Int) - 1) 1 ∧ zfi (zonf A c) 0 ((n : Int) - 1) 1 ≤ 1 + n
  | 0 => by rw [zfi_N (by omega)]; omega
  | n + 1 => by
    have ih := zon_bd (c := c) n
    have e : zfi (zonf A c) 0 (((n + 1 : Nat) : Int) - 1) 1 = zonf A c n (zfi (zonf A c) 0 ((n : Int) - 1) 1) := by
      have := zfi_L (f := zonf A c) _ 0 ((n : Int) - 1) 1 rfl (by omega)
      rw [show (n : Int) - 1 + 1 = n by omega] at this
      rw [show ((n + 1 : Nat) : Int) - 1 = n by omega]
      exact this
    rw [e]
    generalize zfi (zonf A c) 0 ((n : Int) - 1) 1 = y at *
    unfold zonf
    split <;> omega
theorem zrqA_row {c k q n b : Int} (h : ¬ (1 ≤ b ∧ b ≤ 7)) : zrqA A c k q n b = A b := by
  unfold zrqA
  rw [zup_row (by omega), zup_row (by omega), zup_row (by omega), zup_row (by omega), zup_row (by omega), zup_row (by omega), zup_row (by omega)]
theorem zrqA_at {c k q n : Int} : zrqA A c k q n 1 6 = A 1 6 + 1 ∧ (∀ r, zrqA A c k q n 2 r = if r = A 1 6 then c else A 2 r) ∧ (∀ r, zrqA A c k q n 5 r = if r = A 1 6 then q else A 5 r) ∧ (∀ r, zrqA A c k q n 7 r = if r = c then A 7 c + 1 else A 7 r) := by
  unfold zrqA
  refine ⟨zup_eq ⟨rfl, rfl⟩, fun r => ?_, fun r => ?_, fun r => ?_⟩
  · rw [zup_row (by decide), zup_row (by decide), zup_row (by decide), zup_row (by decide), zup_row (by decide)]
    by_cases e : r = A 1 6
    · rw [if_pos e, zup_eq ⟨rfl, e⟩]
    · rw [if_neg e, zup_ne (fun z => e z.2), zup_row (by decide)]
  · rw [zup_row (by decide), zup_row (by decide)]
    by_cases e : r = A 1 6
    · rw [if_pos e, zup_eq ⟨rfl, e⟩]
    · rw [if_neg e, zup_ne (fun z => e z.2), zup_row (by decide), zup_row (by decide), zup_row (by decide), zup_row (by decide)]
  · rw [zup_row (by decide), zup_row (by decide), zup_row (by decide), zup_row (by decide), zup_row (by decide), zup_row (by decide)]
    by_cases e : r = c
    · rw [if_pos e, zup_eq ⟨rfl, e⟩]
    · rw [if_neg e, zup_ne (fun z => e z.2)]
theorem zGd_rq (h : zGd A C) {c k q n : Int} (hc : 0 ≤ c ∧ c < 4) (hk : zrg k) (hq : 0 ≤ q ∧ q < 4) (hn : zrg n) (hm : A 1 6 < 60) : zGd (zrqA A c k q n) C := by
  obtain ⟨hA, hC, hL, hR, hQ, hN, hS, hX⟩ := h.1
  obtain ⟨q1, q2, q3⟩ := id hQ
  obtain ⟨e1, e2, e5, e7⟩ := zrqA_at (A := A) (c := c) (k := k) (q := q) (n := n)
  have rn : ∀ b, ¬ (1 ≤ b ∧ b ≤ 7) → zrqA A c k q n b = A b := fun b hb => zrqA_row hb
  have hsm : zSm A (zrqA A c k q n) := zSm_of (rn _ (by omega)) (fun b hb => rn b (by omega))
  have hbd : ∀ c', 0 ≤ c' ∧ c' < 4 → 0 ≤ A 7 c' ∧ A 7 c' ≤ 60 := fun c' hc' => by
    have z := q3 c' hc'
    have z2 := zon_bd (A := A) (c := c') (A 1 6).toNat
    rw [show (((A 1 6).toNat : Nat) : Int) = A 1 6 by omega, z] at z2
    omega
  have hrg : zRg (zrqA A c k q n) := by
    have := hbd c hc
    unfold zrqA
    exact zRg_up (zRg_up (zRg_up (zRg_up (zRg_up (zRg_up (zRg_up hA ⟨by omega, by omega⟩) ⟨by omega, by omega⟩) ⟨by omega, by omega⟩) hk) ⟨by omega, by omega⟩) hn) ⟨by omega, by omega⟩
  refine zGd_loc h ⟨hrg, hC, zLog_c hsm (by rw [e1]; omega) rfl rfl hL, zRw_c hsm (rn _ (by omega)) (rn _ (by omega)) (rn _ (by omega)) (fun b hb => rn b (by omega)) (by rw [e1]; omega) hR, ⟨by rw [e1]; omega, fun r hr => ?_, fun c' hc' => ?_⟩, zAn_c (fun b hb => rn b (by omega)) hN, fun u hu => zSv_gr hu (zGr_sm hsm (fun s hs => (hL.1.1 s hs).2)) (fun b hb => rn b (by omega)) rfl (fun _ _ _ _ => ⟨rfl, rfl⟩) (hS u hu), zCx_c (fun u hu => rn _ (by omega)) rfl rfl rfl hX⟩ hsm (fun b hb _ => rn b (by omega))
  · rw [e1] at hr
    rw [e2, e5]
    by_cases e : r = A 1 6
    · rw [if_pos e, if_pos e]; exact ⟨hc, hq⟩
    · rw [if_neg e, if_neg e]; exact q2 r (by omega)
  · rw [e1, e7, show A 1 6 + 1 - 1 = A 1 6 - 1 + 1 by omega, zfi_L _ 0 (A 1 6 - 1) 1 rfl (by omega)]
    have e3 : zfi (zonf (zrqA A c k q n) c') 0 (A 1 6 - 1) 1 = A 7 c' + 1 := by
      rw [← q3 c' hc']
      refine zfi_ext (fun r x hr => ?_)
      unfold zonf
      rw [e2, if_neg (show ¬ r = A 1 6 by omega)]
    rw [e3, show A 1 6 - 1 + 1 = A 1 6 by omega]
    unfold zonf
    rw [e2, if_pos rfl]
    by_cases e : c' = c
    · rw [if_pos e, if_pos e.symm, e]
    · rw [if_neg e, if_neg (fun z => e z.symm)]; omega
/-- a server's own rows, what stays stays -/
theorem zSv_loc (h : zSv A C p) (hsm : zSm A X) (hp : 0 ≤ p ∧ p < 3) (hr : ∀ c, 57 + 17 * p ≤ c ∧ c ≤ 70 + 17 * p → c ≠ 66 + 17 * p → X c = A c) (h56 : ∀ j, j ≠ 9 → X (56 + 17 * p) j = A (56 + 17 * p) j) (h9 : X (56 + 17 * p) 9 = 0 ∨ X (56 + 17 * p) 9 = 1) (h66 : ∀ q, 0 ≤ q ∧ q < 3 → -1 ≤ X (66 + 17 * p) q ∧ X (66 + 17 * p) q < 31) : zSv X C p := by
  obtain ⟨⟨a1, a2, a3, a4, a5, a6, a7, a8, a9, a10⟩, ⟨b1, b2, b3, b4, b5, b6⟩, c1⟩ := h
  refine ⟨?_, ?_, ?_⟩
  · unfold zV1
    rw [h56 0 (by decide), h56 7 (by decide), h56 8 (by decide), hr (58 + 17 * p) (by omega) (by omega), hr (59 + 17 * p) (by omega) (by omega), hr (62 + 17 * p) (by omega) (by omega), hr (64 + 17 * p) (by omega) (by omega), hr (65 + 17 * p) (by omega) (by omega)]
    exact ⟨a1, a2, a3, h9, fun q hq => by rw [zSm_4 hsm hq]; exact a5 q hq, fun q i hq hi hb => by rw [zSm_4 hsm hq]; exact a6 q i hq hi hb, h66, a8, a9, a10⟩
  · unfold zV2
    rw [h56 7 (by decide), h56 8 (by decide), hr (59 + 17 * p) (by omega) (by omega), hr (60 + 17 * p) (by omega) (by omega), hr (61 + 17 * p) (by omega) (by omega), hr (67 + 17 * p) (by omega) (by omega), zPC_c hsm, zNP_c hsm, hsm.2.1, hsm.2.2, hsm.1]
    exact ⟨b1, b2, b3, b4, b5, b6⟩
  · unfold zV3
    rw [h56 7 (by decide), hr (64 + 17 * p) (by omega) (by omega), hr (65 + 17 * p) (by omega) (by omega)]
    exact c1
/-- one row of a server's -/
theorem zI_up1 (hI : zI A C) (hp : 0 ≤ p ∧ p < 3) {b i x : Int} (hb : b = 71 + 17 * p ∨ b = 72 + 17 * p ∨ (b = 66 + 17 * p ∧ -1 ≤ x ∧ x < 31) ∨ (b = 56 + 17 * p ∧ i = 9 ∧ x = 1)) (hx : zrg x) : zI (zup A b i x) C := by
  obtain ⟨a1, a2, a3, a4, a5, a6, a7, a8, a9, a10⟩ := (hI.2.2.2.2.2.2.1 p hp).1
  have rn : ∀ c, c ≠ b → zup A b i x c = A c := fun c hc => zup_row hc
  have hsm : zSm A (zup A b i x) := zSm_of (rn _ (by omega)) (fun c hc => rn c (by omega))
  refine zI_srvC hI hp (zRg_up hI.1 hx) (fun c hc => rn c (by omega)) (zSv_loc (hI.2.2.2.2.2.2.1 p hp) hsm hp (fun c hc hc2 => rn c (by omega)) (fun j hj => ?_) ?_ (fun q hq => ?_)) (by rw [zSum_c (fun u hu => rn _ (by omega))]; exact hI.2.2.2.2.2.2.2.2.1)
  · by_cases e : 56 + 17 * p = b
    · rw [zup_ne (by omega)]
    · rw [rn _ e]
  · by_cases e : 56 + 17 * p = b
    · rw [zup_eq (by omega)]; right; omega
    · rw [rn _ e]; exact a4
  · by_cases e : 66 + 17 * p = b
    · by_cases e2 : q = i
      · rw [zup_eq ⟨e, e2⟩]; omega
      · rw [zup_ne (fun z => e2 z.2)]; exact a7 q hq
    · rw [rn _ e]; exact a7 q hq
/-- a server that has LIED, or lies from now on: its rows may change -/
theorem zGd_lie (h : zGd A C) (hI : zI X C') (hp : 0 ≤ p ∧ p < 3) (hr : ∀ b, (b < 56 + 17 * p ∨ 72 + 17 * p < b) → X b = A b) (hl : ¬ X (56 + 17 * p) 9 = 0) : zGd X C' := by
  have hsm : zSm A X := zSm_of (hr _ (by omega)) (fun c hc => hr c (by omega))
  have hG : zGr A X := zGr_sm hsm (fun s hs => (h.1.2.2.1.1.1 s hs).2)
  refine ⟨hI, fun u hu hlu => ?_⟩
  by_cases e : u = p
  · subst e; exact absurd hlu hl
  · rw [hr _ (by omega)] at hlu
    exact zQ_fr h.1 hG hu (fun c hc => hr c (by omega)) (hr _ (by omega)) (h.2 u hu hlu)
/-- what a client is brought -/
theorem zans_row {r s w b : Int} (h : b < 51 ∨ 54 < b) : zans A r s w b = A b := by
  unfold zans
  refine Eq.trans (zfi_kp (P := fun M : ZM => M b = A b) _ _ _ (fun i M _ hM => ?_) ?_) rfl
  · unfold zanf
    split
    · rw [zup_row (by omega), zup_row (by omega)]; exact hM
    · exact hM
  · rw [zup_row (by omega), zup_row (by omega)]
end ZGD
