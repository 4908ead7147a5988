/-! reading one message keeps the invariant; reading on is allowed -/
section ZTK
variable {A C X : ZM} {t p k w : Int}
theorem zch_x {u v i : Int} (hp : 0 ≤ p ∧ p < 3) (hw : 0 ≤ w ∧ w < 31) (hv : 0 ≤ v ∧ v < 31) (hi : 0 ≤ i ∧ i < 3) (hne : ¬ (u = t ∧ v = w ∧ i = p)) : zch C t p k w 142 ((u * 31 + v) * 3 + i) = C 142 ((u * 31 + v) * 3 + i) ∧ zch C t p k w 143 ((u * 31 + v) * 3 + i) = C 143 ((u * 31 + v) * 3 + i) := by
  by_cases h : C 142 ((t * 31 + w) * 3 + p) = 0
  · obtain ⟨q1, q2, -⟩ := zch_o (k := k) h
    rw [q1, q2, if_neg (by omega), if_neg (by omega)]
    exact ⟨rfl, rfl⟩
  · rw [zch_n h]; exact ⟨rfl, rfl⟩
theorem zch_cx (hx : ∀ i, 0 ≤ C 142 i ∧ C 142 i ≤ C 107 40) (hs : C 107 40 + 1 ≤ zSum A) : (∀ i, 0 ≤ zch C t p k w 142 i ∧ zch C t p k w 142 i ≤ zch C t p k w 107 40) ∧ zch C t p k w 107 40 ≤ zSum A := by
  by_cases h : C 142 ((t * 31 + w) * 3 + p) = 0
  · obtain ⟨q1, -, q3⟩ := zch_o (k := k) h
    rw [q3]
    refine ⟨fun i => ?_, hs⟩
    rw [q1]
    have := hx i
    split <;> omega
  · rw [zch_n h]; exact ⟨hx, by omega⟩
theorem zch_rg (hC : zRg C) (h : 0 ≤ C 107 40 ∧ C 107 40 ≤ 909) (hk : 1 ≤ k ∧ k ≤ 100) : zRg (zch C t p k w) := by
  unfold zch
  split
  · exact zRg_up (zRg_up (zRg_up hC ⟨by omega, by omega⟩) ⟨by omega, by omega⟩) ⟨by omega, by omega⟩
  · exact hC
theorem zch_q {f g : Int} (hp : 0 ≤ p ∧ p < 3) (hx : ∀ i, 0 ≤ C 142 i ∧ C 142 i ≤ C 107 40) (hk : 1 ≤ k) (h : zCq C t w f g) : zCq (zch C t p k w) t w (zno f g (k * 3 + p)).1 (zno f g (k * 3 + p)).2 := by
  have hv : ∀ i, 0 ≤ i ∧ i < 3 → zch C t p k w 142 ((t * 31 + w) * 3 + i) = (if i = p then (if C 142 ((t * 31 + w) * 3 + i) = 0 then C 107 40 + 1 else C 142 ((t * 31 + w) * 3 + i)) else C 142 ((t * 31 + w) * 3 + i)) ∧ zch C t p k w 143 ((t * 31 + w) * 3 + i) = (if i = p then (if C 142 ((t * 31 + w) * 3 + i) = 0 then k else C 143 ((t * 31 + w) * 3 + i)) else C 143 ((t * 31 + w) * 3 + i)) := fun i hi => by
    by_cases h0 : C 142 ((t * 31 + w) * 3 + p) = 0
    · obtain ⟨q1, q2, -⟩ := zch_o (k := k) h0
      rw [q1, q2]
      by_cases e : i = p
      · subst e; rw [if_pos rfl, if_pos rfl, if_pos rfl, if_pos rfl, if_pos h0, if_pos h0]; exact ⟨rfl, rfl⟩
      · have e2 : ¬ (t * 31 + w) * 3 + i = (t * 31 + w) * 3 + p := by omega
        rw [if_neg e2, if_neg e2, if_neg e, if_neg e]; exact ⟨rfl, rfl⟩
    · rw [zch_n h0]
      by_cases e : i = p
      · subst e; rw [if_pos rfl, if_pos rfl, if_neg h0, if_neg h0]; exact ⟨rfl, rfl⟩
      · rw [if_neg e, if_neg e]; exact ⟨rfl, rfl⟩
  obtain ⟨u0, v0⟩ := hv 0 (by decide)
  obtain ⟨u1, v1⟩ := hv 1 (by decide)
  obtain ⟨u2, v2⟩ := hv 2 (by decide)
  rw [zCq_nm] at h ⊢
  rw [u0, u1, u2, v0, v1, v2]
  have hc : p = 0 ∨ p = 1 ∨ p = 2 := by omega
  rcases hc with rfl | rfl | rfl
  · have := znm_0 (k := k) h (hx _) (hx _) (hx _) hk
    rw [if_pos (rfl : (0 : Int) = 0), if_pos (rfl : (0 : Int) = 0), if_neg (show ¬ (1 : Int) = 0 by decide), if_neg (show ¬ (1 : Int) = 0 by decide), if_neg (show ¬ (2 : Int) = 0 by decide), if_neg (show ¬ (2 : Int) = 0 by decide)]
    exact this
  · have := znm_1 (k := k) h (hx _) (hx _) (hx _) hk
    rw [if_pos (rfl : (1 : Int) = 1), if_pos (rfl : (1 : Int) = 1), if_neg (show ¬ (0 : Int) = 1 by decide), if_neg (show ¬ (0 : Int) = 1 by decide), if_neg (show ¬ (2 : Int) = 1 by decide), if_neg (show ¬ (2 : Int) = 1 by decide)]
    exact this
  · have := znm_2 (k := k) h (hx _) (hx _) (hx _) hk
    rw [if_pos (rfl : (2 : Int) = 2), if_pos (rfl : (2 : Int) = 2), if_neg (show ¬ (0 : Int) = 2 by decide), if_neg (show ¬ (0 : Int) = 2 by decide), if_neg (show ¬ (1 : Int) = 2 by decide), if_neg (show ¬ (1 : Int) = 2 by decide)]
    exact this
theorem znote_at {q i : Int} : znote A t w q (64 + 17 * t) i = (if i = w then (zno (A (64 + 17 * t) w) (A (65 + 17 * t) w) q).1 else A (64 + 17 * t) i) ∧ znote A t w q (65 + 17 * t) i = (if i = w then (zno (A (64 + 17 * t) w) (A (65 + 17 * t) w) q).2 else A (65 + 17 * t) i) := by
  unfold znote zno
  by_cases h1 : A (64 + 17 * t) w = 0
  · rw [if_pos h1, if_pos h1]
    by_cases e : i = w
    · rw [if_pos e, if_pos e, zup_eq ⟨rfl, e⟩, zup_row (by omega), e]; exact ⟨rfl, rfl⟩
    · rw [if_neg e, if_neg e, zup_ne (fun z => e z.2), zup_row (by omega)]; exact ⟨rfl, rfl⟩
  · rw [if_neg h1, if_neg h1]
    by_cases h2 : A (65 + 17 * t) w = 0 ∧ A (64 + 17 * t) w % 3 ≠ q % 3
    · rw [if_pos h2, if_pos h2]
      have r64 : zup A (65 + 17 * t) w q (64 + 17 * t) = A (64 + 17 * t) := zup_row (by omega)
      rw [r64]
      by_cases e : i = w
      · rw [if_pos e, if_pos e, zup_eq ⟨rfl, e⟩, e]; exact ⟨rfl, rfl⟩
      · rw [if_neg e, if_neg e, zup_ne (fun z => e z.2)]; exact ⟨rfl, rfl⟩
    · rw [if_neg h2, if_neg h2]
      by_cases e : i = w
      · rw [if_pos e, if_pos e, e]; exact ⟨rfl, rfl⟩
      · rw [if_neg e, if_neg e]; exact ⟨rfl, rfl⟩
theorem zno_rg {f g q : Int} (hf : 0 ≤ f ∧ f < 1000) (hg : 0 ≤ g ∧ g < 1000) (hq : 0 ≤ q ∧ q < 1000) : (0 ≤ (zno f g q).1 ∧ (zno f g q).1 < 1000) ∧ (0 ≤ (zno f g q).2 ∧ (zno f g q).2 < 1000) := by
  unfold zno
  (repeat' split) <;> exact ⟨by assumption, by assumption⟩
/-- a CHANGE is noted -/
theorem zI_note (hI : zI A C) (ht : 0 ≤ t ∧ t < 3) (hp : 0 ≤ p ∧ p < 3) (hk : 1 ≤ k ∧ k ≤ 100) (hw : 0 ≤ w ∧ w < 31) (hv : A (56 + 17 * t) 7 ≤ w) (hs : C 107 40 + 1 ≤ zSum A) : zI (znote A t w (k * 3 + p)) (zch C t p k w) := by
  have h9 := zCx_909 hI
  obtain ⟨hA, hC, hL, hR, hQ, hN, hSS, hXx⟩ := id hI
  obtain ⟨⟨a1, a2, a3, a4, a5, a6, a7, a8, a9, a10⟩, ⟨b1, b2, b3, b4, b5, b6⟩, c1⟩ := hSS t ht
  have rn : ∀ b, b ≠ 64 + 17 * t → b ≠ 65 + 17 * t → znote A t w (k * 3 + p) b = A b := fun b h1 h2 => znote_row h1 h2
  have hsm : zSm A (znote A t w (k * 3 + p)) := zSm_of (rn _ (by omega) (by omega)) (fun c hc => rn c (by omega) (by omega))
  obtain ⟨x1, x2⟩ := zch_cx (A := A) (t := t) (p := p) (k := k) (w := w) hXx.1 hs
  refine zI_srv hI ht (znote_rg hA ⟨by omega, by omega⟩) (fun b hb => rn b (by omega) (by omega)) (zch_rg hC h9 hk) (zch_row (by decide) (by decide) (by decide)) (zch_107 (by decide)) (fun u _ => by rw [zch_row (by decide) (by decide) (by decide)]) (fun u v i hu _ hv2 hi => zch_x hp hw hv2 hi (fun z => hu z.1)) ⟨?_, ?_, ?_⟩ ⟨x1, by rw [zSum_c (fun u hu => rn _ (by omega) (by omega))]; exact x2, (zch_107 (by decide)).trans hXx.2.2⟩
  · unfold zV1
    rw [rn (56 + 17 * t) (by omega) (by omega), rn (58 + 17 * t) (by omega) (by omega), rn (59 + 17 * t) (by omega) (by omega), rn (62 + 17 * t) (by omega) (by omega), rn (66 + 17 * t) (by omega) (by omega)]
    refine ⟨a1, a2, a3, a4, fun q hq => by rw [zSm_4 hsm hq]; exact a5 q hq, fun q i hq hi hb => by rw [zSm_4 hsm hq]; exact a6 q i hq hi hb, a7, fun v hv2 => ?_, a9, a10⟩
    have h1 := a8 v hv2
    have h2 := zno_rg (a8 w hw).1 (a8 w hw).2 (q := k * 3 + p) (by omega)
    obtain ⟨z1, z2⟩ := znote_at (A := A) (t := t) (w := w) (q := k * 3 + p) (i := v)
    rw [z1, z2]
    by_cases e : v = w
    · rw [if_pos e, if_pos e]; exact h2
    · rw [if_neg e, if_neg e]; exact h1
  · unfold zV2
    rw [rn (56 + 17 * t) (by omega) (by omega), rn (59 + 17 * t) (by omega) (by omega), rn (60 + 17 * t) (by omega) (by omega), rn (61 + 17 * t) (by omega) (by omega), rn (67 + 17 * t) (by omega) (by omega), zPC_c hsm, zNP_c hsm, hsm.2.1, hsm.2.2, hsm.1, zch_row (by decide) (by decide) (by decide)]
    exact ⟨b1, b2, b3, b4, b5, b6⟩
  · unfold zV3
    rw [rn (56 + 17 * t) (by omega) (by omega)]
    intro v h1 h2
    obtain ⟨z1, z2⟩ := znote_at (A := A) (t := t) (w := w) (q := k * 3 + p) (i := v)
    rw [z1, z2]
    by_cases e : v = w
    · rw [if_pos e, if_pos e, e]
      exact zch_q hp hXx.1 hk.1 (c1 w hv hw.2)
    · rw [if_neg e, if_neg e]
      exact zCh_c (fun i hi => zch_x hp hw (by omega) hi (fun z => e z.2.1)) (c1 v h1 h2)
/-- a CHANGE to a lower view: the reference alone notes it -/
theorem zI_ch (hI : zI A C) (ht : 0 ≤ t ∧ t < 3) (hp : 0 ≤ p ∧ p < 3) (hk : 1 ≤ k ∧ k ≤ 100) (hw : 0 ≤ w ∧ w < 31) (hv : w < A (56 + 17 * t) 7) (hs : C 107 40 + 1 ≤ zSum A) : zI A (zch C t p k w) := by
  have h9 := zCx_909 hI
  obtain ⟨hA, hC, hL, hR, hQ, hN, hSS, hXx⟩ := id hI
  obtain ⟨⟨a1, a2, a3, a4, a5, a6, a7, a8, a9, a10⟩, ⟨b1, b2, b3, b4, b5, b6⟩, c1⟩ := hSS t ht
  obtain ⟨x1, x2⟩ := zch_cx (A := A) (t := t) (p := p) (k := k) (w := w) hXx.1 hs
  refine zI_srv hI ht hA (fun b hb => rfl) (zch_rg hC h9 hk) (zch_row (by decide) (by decide) (by decide)) (zch_107 (by decide)) (fun u _ => by rw [zch_row (by decide) (by decide) (by decide)]) (fun u v i hu _ hv2 hi => zch_x hp hw hv2 hi (fun z => hu z.1)) ⟨⟨a1, a2, a3, a4, a5, a6, a7, a8, a9, a10⟩, ?_, fun v h1 h2 => ?_⟩ ⟨x1, x2, (zch_107 (by decide)).trans hXx.2.2⟩
  · unfold zV2
    rw [zch_row (by decide) (by decide) (by decide)]
    exact ⟨b1, b2, b3, b4, b5, b6⟩
  · exact zCh_c (fun i hi => zch_x hp hw (by omega) hi (fun z => by omega)) (c1 v h1 h2)
/-- server t alone has done something -/
def zFr (A X : ZM) (t : Int) : Prop := zGr A X ∧ (∀ u, 0 ≤ u ∧ u < 3 → u ≠ t → (∀ c, 56 + 17 * u ≤ c ∧ c ≤ 72 + 17 * u → X c = A c) ∧ X (44 + 2 * u) = A (44 + 2 * u) ∧ X (45 + 2 * u) = A (45 + 2 * u)) ∧ X (56 + 17 * t) 9 = A (56 + 17 * t) 9 ∧ X (58 + 17 * t) = A (58 + 17 * t) ∧ A (56 + 17 * t) 7 ≤ X (56 + 17 * t) 7 ∧ X (66 + 17 * t) = A (66 + 17 * t)
theorem zGr_t {A X Y : ZM} (h1 : zGr A X) (h2 : zGr X Y) : zGr A Y := by
  refine ⟨fun s hs => ?_, fun w hw => ?_, fun w => ?_⟩
  · obtain ⟨p1, p2⟩ := h1.1 s hs
    obtain ⟨q1, q2⟩ := h2.1 s hs
    exact ⟨by omega, fun k j hk hj => (q2 k j (by omega) hj).trans (p2 k j hk hj)⟩
  · have e := h1.2.1 w hw
    rw [h2.2.1 w (by omega), e]
  · have := h1.2.2 w
    have := h2.2.2 w
    omega
theorem zFr_t {A X Y : ZM} (h1 : zFr A X t) (h2 : zFr X Y t) : zFr A Y t := ⟨zGr_t h1.1 h2.1, fun u hu hne => ⟨fun c hc => ((h2.2.1 u hu hne).1 c hc).trans ((h1.2.1 u hu hne).1 c hc), (h2.2.1 u hu hne).2.1.trans (h1.2.1 u hu hne).2.1, (h2.2.1 u hu hne).2.2.trans (h1.2.1 u hu hne).2.2⟩, h2.2.2.1.trans h1.2.2.1, h2.2.2.2.1.trans h1.2.2.2.1, Int.le_trans h1.2.2.2.2.1 h2.2.2.2.2.1, h2.2.2.2.2.2.trans h1.2.2.2.2.2⟩
theorem zFr_l (hI : zI A C) (ht : 0 ≤ t ∧ t < 3) (hr : ∀ b, (b < 56 + 17 * t ∨ 72 + 17 * t < b) → X b = A b) (h9 : X (56 + 17 * t) 9 = A (56 + 17 * t) 9) (h58 : X (58 + 17 * t) = A (58 + 17 * t)) (h7 : A (56 + 17 * t) 7 ≤ X (56 + 17 * t) 7) (h66 : X (66 + 17 * t) = A (66 + 17 * t)) : zFr A X t := ⟨zGr_sm (zSm_of (hr _ (by omega)) (fun c hc => hr c (by omega))) (fun s hs => (hI.2.2.1.1.1 s hs).2), fun u hu hne => ⟨fun c hc => hr c (by omega), hr _ (by omega), hr _ (by omega)⟩, h9, h58, h7, h66⟩
theorem zFr_e (hI : zI A C) {kd v a b : Int} (H : zAr A t kd v a b) (hG : zGr A (zent A t kd v a b)) : zFr A (zent A t kd v a b) t := by
  have h2 := (zRw_2 hI.2.2.2.1).2
  have ht := H.2.1
  exact ⟨hG, fun u hu hne => ⟨fun c hc => zent_srv H h2 (by omega), (zent_oth H hu hne).1, (zent_oth H hu hne).2⟩, by rw [zent_srv H h2 (by omega)], zent_srv H h2 (by omega), by rw [zent_srv H h2 (by omega)]; exact Int.le_refl _, zent_srv H h2 (by omega)⟩
theorem zFr_4 (h : zFr A X t) (h4 : ∀ u, 0 ≤ u ∧ u < 3 → zV4 A u) (hx : zV4 X t) : ∀ u, 0 ≤ u ∧ u < 3 → zV4 X u := fun u hu => by
  by_cases e : u = t
  · subst e; exact hx
  · obtain ⟨q1, q2, q3⟩ := h.2.1 u hu e
    exact zV4_gr hu (q1 _ (by omega)) (q1 _ (by omega)) q2 q3 (h4 u hu)
/-- no message of its own is unread -/
abbrev zOw (A : ZM) (t : Int) : Prop := A (59 + 17 * t) t = A (44 + 2 * t) 1 + 1
theorem zOw_4 (h : zOw A t) : zV4 A t := fun _ => ⟨by have : A (59 + 17 * t) t = A (44 + 2 * t) 1 + 1 := h; omega, fun q => by have : A (59 + 17 * t) t = A (44 + 2 * t) 1 + 1 := h; omega⟩
/-- a message of its own, or none since it has 100 -/
theorem zI_entF (hI : zI A C) (ht : 0 ≤ t ∧ t < 3) {kd v a b : Int} (hkd : 0 ≤ kd ∧ kd < 4) (hv : 0 ≤ v ∧ v < 31) (ha : 0 ≤ a ∧ a < 1000) (hb : 0 ≤ b ∧ b < 1000) (hr : kd = 0 → a < A 1 6) (ho : zOw A t) (hy : kd = 0 ∨ kd = 1 → v = A (56 + 17 * t) 7 ∧ ¬ A (56 + 17 * t) 8 = 0) : (∃ C', zI (zentF A t kd v a b) C') ∧ zFr A (zentF A t kd v a b) t ∧ zV4 (zentF A t kd v a b) t ∧ zentF A t kd v a b (59 + 17 * t) = A (59 + 17 * t) := by
  have h2 := (zRw_2 hI.2.2.2.1).2
  unfold zentF
  split
  · rename_i hf
    obtain ⟨H, i1, i2⟩ := zI_ent hI ht hkd hv ha hb hf hr
    obtain ⟨n0, n1, n2, n3, n4⟩ := zent_new H rfl
    refine ⟨⟨_, i1⟩, zFr_e hI H i2, fun _ => ?_, zent_srv H h2 (by omega)⟩
    have ho' : A (59 + 17 * t) t = A (44 + 2 * t) 1 + 1 := ho
    rw [zent_cnt H ht, if_pos rfl, zent_srv H h2 (c := 59 + 17 * t) (by omega), zent_srv H h2 (c := 56 + 17 * t) (by omega), n0, n1]
    exact ⟨by omega, fun _ q _ => hy q⟩
  · exact ⟨⟨C, hI⟩, zFr_l hI ht (fun _ _ => rfl) rfl rfl (Int.le_refl _) rfl, zOw_4 ho, rfl⟩
end ZTK
