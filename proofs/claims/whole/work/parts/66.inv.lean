/-! what holds of the servers, and of all -/
def zV1 (A : ZM) (t : Int) : Prop := A (56 + 17 * t) 0 = t ∧ (0 ≤ A (56 + 17 * t) 7 ∧ A (56 + 17 * t) 7 < 31) ∧ (A (56 + 17 * t) 8 = 0 ∨ A (56 + 17 * t) 8 = 1) ∧ (A (56 + 17 * t) 9 = 0 ∨ A (56 + 17 * t) 9 = 1) ∧ (∀ p, 0 ≤ p ∧ p < 3 → 1 ≤ A (59 + 17 * t) p ∧ A (59 + 17 * t) p ≤ A (44 + 2 * p) 1 + 1) ∧ (∀ p k, 0 ≤ p ∧ p < 3 → 0 ≤ k ∧ k < 101 → ¬ A (58 + 17 * t) (p * 101 + k) = 0 → 1 ≤ k ∧ k ≤ A (44 + 2 * p) 1) ∧ (∀ p, 0 ≤ p ∧ p < 3 → -1 ≤ A (66 + 17 * t) p ∧ A (66 + 17 * t) p < 31) ∧ (∀ w, 0 ≤ w ∧ w < 31 → (0 ≤ A (64 + 17 * t) w ∧ A (64 + 17 * t) w < 1000) ∧ (0 ≤ A (65 + 17 * t) w ∧ A (65 + 17 * t) w < 1000)) ∧ (∀ k, A (62 + 17 * t) k = 0 ∨ A (62 + 17 * t) k = 1) ∧ A (62 + 17 * t) 0 = 0
def zV2 (A C : ZM) (t : Int) : Prop := (0 ≤ A (60 + 17 * t) 3 ∧ A (60 + 17 * t) 3 ≤ A (60 + 17 * t) 2 ∧ A (60 + 17 * t) 2 ≤ zPC A (A (56 + 17 * t) 7 % 3) (A (56 + 17 * t) 7) (A (59 + 17 * t) (A (56 + 17 * t) 7 % 3) - 1)) ∧ (∀ i, 0 ≤ i ∧ i < A (60 + 17 * t) 2 → (1 ≤ A (61 + 17 * t) i ∧ A (61 + 17 * t) i ≤ A (44 + 2 * (A (56 + 17 * t) 7 % 3)) 1) ∧ A (45 + 2 * (A (56 + 17 * t) 7 % 3)) (A (61 + 17 * t) i * 5 + 0) = 0) ∧ (A (60 + 17 * t) 4 = 0 ↔ (1 ≤ A (56 + 17 * t) 7 ∧ C 140 t = 0)) ∧ (¬ A (56 + 17 * t) 8 = 0 → 1 ≤ A (56 + 17 * t) 7 → 1 ≤ A 10 (A (56 + 17 * t) 7)) ∧ (0 ≤ A (67 + 17 * t) 6 ∧ A (67 + 17 * t) 6 ≤ zNP A (A (56 + 17 * t) 7) + A (60 + 17 * t) 3) ∧ (A (56 + 17 * t) 8 = 0 → A (60 + 17 * t) 3 = 0)
/-- the CHANGES read of a view, in class and reference -/
def zCq (C : ZM) (t w f g : Int) : Prop := zCh C t w f g ∧ (f ≠ 0 → C 143 ((t * 31 + w) * 3 + f % 3) = f / 3)
def zV3 (A C : ZM) (t : Int) : Prop := ∀ w, A (56 + 17 * t) 7 ≤ w → w < 31 → zCq C t w (A (64 + 17 * t) w) (A (65 + 17 * t) w)
/-- its own last message may still be unread by a true server, not another -/
def zV4 (A : ZM) (t : Int) : Prop := A (56 + 17 * t) 9 = 0 → A (44 + 2 * t) 1 ≤ A (59 + 17 * t) t ∧ (A (59 + 17 * t) t = A (44 + 2 * t) 1 → A (45 + 2 * t) (A (44 + 2 * t) 1 * 5 + 0) = 0 ∨ A (45 + 2 * t) (A (44 + 2 * t) 1 * 5 + 0) = 1 → A (45 + 2 * t) (A (44 + 2 * t) 1 * 5 + 4) = 0 → A (45 + 2 * t) (A (44 + 2 * t) 1 * 5 + 1) = A (56 + 17 * t) 7 ∧ ¬ A (56 + 17 * t) 8 = 0)
def zSv (A C : ZM) (t : Int) : Prop := zV1 A t ∧ zV2 A C t ∧ zV3 A C t
def zRq (A : ZM) : Prop := (0 ≤ A 1 6 ∧ A 1 6 ≤ 60) ∧ (∀ r, 0 ≤ r ∧ r < A 1 6 → (0 ≤ A 2 r ∧ A 2 r < 4) ∧ (0 ≤ A 5 r ∧ A 5 r < 4)) ∧ (∀ c, 0 ≤ c ∧ c < 4 → zfi (zonf A c) 0 (A 1 6 - 1) 1 = A 7 c + 1)
def zAn (A : ZM) : Prop := ∀ r, 0 ≤ r ∧ r < 60 → A 53 r = 0 → ∀ i j, 0 ≤ i ∧ i < 3 → 0 ≤ j ∧ j < 3 → i ≠ j → ¬ (¬ A 51 (r * 3 + i) = 0 ∧ ¬ A 51 (r * 3 + j) = 0 ∧ A 52 (r * 3 + i) = A 52 (r * 3 + j))
def zCx (A C : ZM) : Prop := (∀ i, 0 ≤ C 142 i ∧ C 142 i ≤ C 107 40) ∧ C 107 40 ≤ A 59 0 + A 59 1 + A 59 2 + A 76 0 + A 76 1 + A 76 2 + A 93 0 + A 93 1 + A 93 2 ∧ C 107 0 = 0
def zI (A C : ZM) : Prop := zRg A ∧ zRg C ∧ zLog A C ∧ zRw A ∧ zRq A ∧ zAn A ∧ (∀ t, 0 ≤ t ∧ t < 3 → zSv A C t) ∧ zCx A C
theorem zI_G {A C : ZM} (h : zI A C) : zG A := zG_mk h.1 h.2.2.1 h.2.2.2.1
/-- the log has grown -/
def zGr (A X : ZM) : Prop := (∀ s, 0 ≤ s ∧ s < 3 → (A (44 + 2 * s) 1 ≤ X (44 + 2 * s) 1 ∧ X (44 + 2 * s) 1 ≤ 100) ∧ ∀ k j, 1 ≤ k ∧ k ≤ A (44 + 2 * s) 1 → 0 ≤ j ∧ j < 5 → X (45 + 2 * s) (k * 5 + j) = A (45 + 2 * s) (k * 5 + j)) ∧ (∀ w, 1 ≤ A 10 w → X 10 w = A 10 w) ∧ (∀ w, zNP A w ≤ zNP X w)
theorem zGr_sm {A X : ZM} (h : zSm A X) (hc : ∀ s, 0 ≤ s ∧ s < 3 → A (44 + 2 * s) 1 ≤ 100) : zGr A X := ⟨fun s hs => ⟨by rw [zSm_4 h hs]; exact ⟨Int.le_refl _, hc s hs⟩, fun k j _ _ => by rw [zSm_5 h hs]⟩, fun w _ => by rw [h.1], fun w => by rw [zNP_c h]; exact Int.le_refl _⟩
theorem zGr_ent {A C : ZM} {s kd v a b : Int} (H : zAr A s kd v a b) (hL : zLog A C) (hL' : zLog (zent A s kd v a b) (zmom C s (A (44 + 2 * s) 1 + 1))) : zGr A (zent A s kd v a b) := by
  refine ⟨fun c hc => ⟨⟨zent_le H hc, (hL'.1.1 c hc).2⟩, fun k j hk hj => zent_old H hc (by rintro ⟨rfl, q⟩; omega) hj⟩, fun w ho => ?_, fun w => zNP_old H hL⟩
  rw [zent_op H, if_neg]
  rintro ⟨q1, q2⟩
  have := q2.2.2
  rw [q1] at ho
  omega
theorem zPC_gr {A X : ZM} (h : zGr A X) {s v n : Int} (hs : 0 ≤ s ∧ s < 3) (hn : n ≤ A (44 + 2 * s) 1) : zPC X s v n = zPC A s v n := by
  unfold zPC
  refine zcn_eq _ (fun k k1 k2 => ?_)
  rw [(h.1 s hs).2 k 0 (by omega) (by omega), (h.1 s hs).2 k 1 (by omega) (by omega)]
theorem zCh_c {C C' : ZM} {t w f g : Int} (h : ∀ i, 0 ≤ i ∧ i < 3 → C' 142 ((t * 31 + w) * 3 + i) = C 142 ((t * 31 + w) * 3 + i) ∧ C' 143 ((t * 31 + w) * 3 + i) = C 143 ((t * 31 + w) * 3 + i)) (hc : zCq C t w f g) : zCq C' t w f g := by
  refine ⟨?_, fun q => by rw [(h (f % 3) (by omega)).2]; exact hc.2 q⟩
  replace hc := hc.1
  obtain ⟨a0, b0⟩ := h 0 (by decide)
  obtain ⟨a1, b1⟩ := h 1 (by decide)
  obtain ⟨a2, b2⟩ := h 2 (by decide)
  unfold zCh zc1 zc2 at hc ⊢
  rw [a0, a1, a2, b0, b1, b2]
  exact hc
/-- a server's own rows stay, the log may grow -/
theorem zSv_gr {A X C C' : ZM} {u : Int} (hu : 0 ≤ u ∧ u < 3) (h : zGr A X) (hr : ∀ c, 56 + 17 * u ≤ c ∧ c ≤ 72 + 17 * u → X c = A c) (h140 : C' 140 u = C 140 u) (h142 : ∀ w i, 0 ≤ w ∧ w < 31 → 0 ≤ i ∧ i < 3 → C' 142 ((u * 31 + w) * 3 + i) = C 142 ((u * 31 + w) * 3 + i) ∧ C' 143 ((u * 31 + w) * 3 + i) = C 143 ((u * 31 + w) * 3 + i)) (hS : zSv A C u) : zSv X C' u := by
  obtain ⟨⟨a1, a2, a3, a4, a5, a6, a7, a8, a9, a10⟩, ⟨b1, b2, b3, b4, b5, b6⟩, c1⟩ := hS
  have r56 := hr (56 + 17 * u) (by omega)
  have r58 := hr (58 + 17 * u) (by omega)
  have r59 := hr (59 + 17 * u) (by omega)
  have r60 := hr (60 + 17 * u) (by omega)
  have r61 := hr (61 + 17 * u) (by omega)
  have r62 := hr (62 + 17 * u) (by omega)
  have r64 := hr (64 + 17 * u) (by omega)
  have r65 := hr (65 + 17 * u) (by omega)
  have r66 := hr (66 + 17 * u) (by omega)
  have r67 := hr (67 + 17 * u) (by omega)
  refine ⟨?_, ?_, ?_⟩
  · unfold zV1
    rw [r56, r58, r59, r62, r64, r65, r66]
    refine ⟨a1, a2, a3, a4, fun p hp => ?_, fun p k hp hk hb => ?_, a7, a8, a9, a10⟩
    · have := a5 p hp
      have := (h.1 p hp).1
      omega
    · have := a6 p k hp hk hb
      have := (h.1 p hp).1
      omega
  · unfold zV2
    rw [r56, r59, r60, r61, r67, h140]
    have hp := a5 (A (56 + 17 * u) 7 % 3) (by omega)
    refine ⟨?_, fun i hi => ?_, b3, fun q1 q2 => ?_, ?_, b6⟩
    · rw [zPC_gr h (by omega) (by omega)]; exact b1
    · obtain ⟨q1, q2⟩ := b2 i hi
      have g := h.1 (A (56 + 17 * u) 7 % 3) (by omega)
      rw [g.2 _ 0 q1 (by omega)]
      exact ⟨by omega, q2⟩
    · have := b4 q1 q2
      rw [h.2.1 _ this]; exact this
    · have := h.2.2 (A (56 + 17 * u) 7)
      omega
  · unfold zV3
    rw [r56, r64, r65]
    exact fun w h1 h2 => zCh_c (fun i hi => h142 w i (by omega) hi) (c1 w h1 h2)
theorem zV4_gr {A X : ZM} {u : Int} (hu : 0 ≤ u ∧ u < 3) (h56 : X (56 + 17 * u) = A (56 + 17 * u)) (h59 : X (59 + 17 * u) = A (59 + 17 * u)) (h44 : X (44 + 2 * u) = A (44 + 2 * u)) (h45 : X (45 + 2 * u) = A (45 + 2 * u)) (hS : zV4 A u) : zV4 X u := by
  unfold zV4 at hS ⊢
  rw [h56, h59, h44, h45]
  exact hS
theorem zonf_c {A X : ZM} (h : X 2 = A 2) {c : Int} : zonf X c = zonf A c := by
  funext r x
  unfold zonf
  rw [h]
theorem zRq_c {A X : ZM} (h : ∀ c, 1 ≤ c ∧ c ≤ 7 → X c = A c) (hq : zRq A) : zRq X := by
  unfold zRq at hq ⊢
  rw [h 1 (by decide), h 2 (by decide), h 5 (by decide), h 7 (by decide)]
  simp only [zonf_c (h 2 (by decide))]
  exact hq
theorem zAn_c {A X : ZM} (h : ∀ c, 51 ≤ c ∧ c ≤ 54 → X c = A c) (hq : zAn A) : zAn X := by
  unfold zAn at hq ⊢
  rw [h 51 (by decide), h 52 (by decide), h 53 (by decide)]
  exact hq
theorem zCx_c {A X C C' : ZM} (h : ∀ t, 0 ≤ t ∧ t < 3 → X (59 + 17 * t) = A (59 + 17 * t)) (h1 : C' 142 = C 142) (h2 : C' 107 40 = C 107 40) (h3 : C' 107 0 = C 107 0) (hq : zCx A C) : zCx X C' := by
  have e0 := h 0 (by decide)
  have e1 := h 1 (by decide)
  have e2 := h 2 (by decide)
  simp only [Int.reduceMul, Int.reduceAdd] at e0 e1 e2
  unfold zCx at hq ⊢
  rw [e0, e1, e2, h1, h2, h3]
  exact hq
theorem zCx_909 {A C : ZM} (hI : zI A C) : 0 ≤ C 107 40 ∧ C 107 40 ≤ 909 := by
  obtain ⟨-, -, hL, -, -, -, hS, h1, h2, -⟩ := hI
  have q : ∀ t p, 0 ≤ t ∧ t < 3 → 0 ≤ p ∧ p < 3 → A (59 + 17 * t) p ≤ 101 := fun t p ht hp => by
    have := (hS t ht).1.2.2.2.2.1 p hp
    have := hL.1.1 p hp
    omega
  have q00 := q 0 0 (by decide) (by decide)
  have q01 := q 0 1 (by decide) (by decide)
  have q02 := q 0 2 (by decide) (by decide)
  have q10 := q 1 0 (by decide) (by decide)
  have q11 := q 1 1 (by decide) (by decide)
  have q12 := q 1 2 (by decide) (by decide)
  have q20 := q 2 0 (by decide) (by decide)
  have q21 := q 2 1 (by decide) (by decide)
  have q22 := q 2 2 (by decide) (by decide)
  simp only [Int.reduceMul, Int.reduceAdd] at q00 q01 q02 q10 q11 q12 q20 q21 q22
  have := h1 0
  omega
/-- a message is entered -/
theorem zI_ent {A C : ZM} {s kd v a b : Int} (hI : zI A C) (hs : 0 ≤ s ∧ s < 3) (hkd : 0 ≤ kd ∧ kd < 4) (hv : 0 ≤ v ∧ v < 31) (ha : 0 ≤ a ∧ a < 1000) (hb : 0 ≤ b ∧ b < 1000) (hf : A (44 + 2 * s) 1 < 100) (hr : kd = 0 → a < A 1 6) : zAr A s kd v a b ∧ zI (zent A s kd v a b) (zmom C s (A (44 + 2 * s) 1 + 1)) ∧ zGr A (zent A s kd v a b) := by
  obtain ⟨hA, hC, hL, hR, hQ, hN, hS, hX⟩ := id hI
  have H : zAr A s kd v a b := ⟨hA, hs, hkd, hv, ha, hb, ⟨(hL.1.1 s hs).1, hf⟩, (zRw_2 hR).1⟩
  have hL' := zent_log H hL hr
  obtain ⟨hR', hA'⟩ := zent_rw H hL hL' hR
  have hG := zGr_ent H hL hL'
  have h20 := zRw_2 hR
  have h15 : 0 ≤ C 107 15 ∧ C 107 15 ≤ 300 := by
    have h0 := hL.1.1 0 (by decide)
    have h1 := hL.1.1 1 (by decide)
    have h2 := hL.1.1 2 (by decide)
    have := hL.2.2.1
    simp only [Int.reduceMul, Int.reduceAdd] at h0 h1 h2
    omega
  refine ⟨H, ⟨hA', ?_, hL', hR', zRq_c (fun c hc => ?_) hQ, zAn_c (fun c hc => ?_) hN, fun t ht => zSv_gr ht hG (fun c hc => ?_) ?_ (fun w i _ _ => ?_) (hS t ht), zCx_c (fun t ht => ?_) ?_ ?_ ?_ hX⟩, hG⟩
  · unfold zmom
    exact zRg_up (zRg_up hC (hC _ _)) ⟨by omega, by omega⟩
  · exact zent_row H (by omega) (by omega) (by omega) (by omega) (by omega) (by omega) (by omega) (by omega)
  · exact zent_row H (by omega) (by omega) (by omega) (by omega) (by omega) (by omega) (by omega) (by omega)
  · exact zent_row H (by omega) (by omega) (by omega) (by omega) (by omega) (by omega) (by omega) (by omega)
  · rw [zmom_row (by decide) (by decide)]
  · rw [zmom_row (by decide) (by decide), zmom_row (by decide) (by decide)]; exact ⟨rfl, rfl⟩
  · exact zent_row H (by omega) (by omega) (by omega) (by omega) (by omega) (by omega) (by omega) (by omega)
  · exact zmom_row (by decide) (by decide)
  · exact zmom_107 (by decide)
  · exact zmom_107 (by decide)
theorem zent_srv {A : ZM} {s kd v a b c : Int} (H : zAr A s kd v a b) (h2 : A (-2) 0 ≤ 30) (hc : 51 ≤ c ∧ c ≤ 106) : zent A s kd v a b c = A c := by
  have hs := H.2.1
  have h0 := H.2.2.2.2.2.2.2
  exact zent_row H (by omega) (by omega) (by omega) (by omega) (by omega) (by omega) (by omega) (by omega)
/-- other servers' own messages -/
theorem zV4_ent {A : ZM} {s kd v a b u : Int} (H : zAr A s kd v a b) (h2 : A (-2) 0 ≤ 30) (hu : 0 ≤ u ∧ u < 3) (hne : u ≠ s) (hS : zV4 A u) : zV4 (zent A s kd v a b) u :=
  zV4_gr hu (zent_srv H h2 (by omega)) (zent_srv H h2 (by omega)) (zent_oth H hu hne).1 (zent_oth H hu hne).2 hS
