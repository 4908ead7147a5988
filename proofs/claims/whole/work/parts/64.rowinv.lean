/-! the rows' invariant, kept by a new message -/
theorem zNs_mono {A : ZM} {s w w' : Int} (h : w ≤ w') : zNs A s w ≤ zNs A s w' := zcn_le _ (fun k _ _ hk => by
  rw [decide_eq_true_iff] at hk ⊢
  exact ⟨hk.1, by omega⟩)
theorem zNP_mono {A : ZM} {w w' : Int} (h : w ≤ w') : zNP A w ≤ zNP A w' := by
  have h0 := zNs_mono (A := A) (s := 0) h
  have h1 := zNs_mono (A := A) (s := 1) h
  have h2 := zNs_mono (A := A) (s := 2) h
  unfold zNP
  omega
theorem zNs_PC {A : ZM} {s u : Int} : zNs A s u + zPC A s u (A (44 + 2 * s) 1) ≤ zNs A s (u + 1) := zcn_or _ (fun k _ _ => by
  simp only [decide_eq_true_eq]
  exact ⟨fun h => ⟨⟨h.1, by omega⟩, fun q => by omega⟩, fun h => ⟨h.1, by omega⟩⟩)
theorem zNP_S {A : ZM} {u : Int} (hu : 0 ≤ u) : zNP A u + zPC A (u % 3) u (A (44 + 2 * (u % 3)) 1) ≤ zNP A (u + 1) := by
  have h0 := zNs_mono (A := A) (s := 0) (w := u) (w' := u + 1) (by omega)
  have h1 := zNs_mono (A := A) (s := 1) (w := u) (w' := u + 1) (by omega)
  have h2 := zNs_mono (A := A) (s := 2) (w := u) (w' := u + 1) (by omega)
  unfold zNP
  have hc : u % 3 = 0 ∨ u % 3 = 1 ∨ u % 3 = 2 := by omega
  rcases hc with h | h | h
  · rw [h]; have := zNs_PC (A := A) (s := 0) (u := u); omega
  · rw [h]; have := zNs_PC (A := A) (s := 1) (u := u); omega
  · rw [h]; have := zNs_PC (A := A) (s := 2) (u := u); omega
theorem zNP_300 {A : ZM} (h : ∀ s, 0 ≤ s ∧ s < 3 → 0 ≤ A (44 + 2 * s) 1 ∧ A (44 + 2 * s) 1 ≤ 100) {w : Int} : 0 ≤ zNP A w ∧ zNP A w ≤ 300 := by
  have h0 := h 0 (by decide)
  have h1 := h 1 (by decide)
  have h2 := h 2 (by decide)
  have q0 : 0 ≤ zNs A 0 w ∧ zNs A 0 w ≤ ((A (44 + 2 * 0) 1).toNat : Int) := zcn_rg _
  have q1 : 0 ≤ zNs A 1 w ∧ zNs A 1 w ≤ ((A (44 + 2 * 1) 1).toNat : Int) := zcn_rg _
  have q2 : 0 ≤ zNs A 2 w ∧ zNs A 2 w ≤ ((A (44 + 2 * 2) 1).toNat : Int) := zcn_rg _
  unfold zNP
  omega
theorem zcn_one {p q : Int → Bool} {i : Int} : ∀ n : Nat, 1 ≤ i → i ≤ n → ¬ p i = true → q i = true → (∀ k, k ≠ i → q k = p k) → zcn q n = zcn p n + 1
  | 0, h1, h2, _, _, _ => by omega
  | n + 1, h1, h2, hp, hq, h => by
    unfold zcn
    by_cases e : i = (n : Int) + 1
    · rw [← e, if_pos hq, if_neg hp, zcn_eq (p := q) (q := p) n (fun k k1 k2 => h k (by omega))]; omega
    · rw [h _ (fun q => e q.symm), zcn_one n h1 (by omega) hp hq h]; omega
def zRw (A : ZM) : Prop := A (-2) 0 = zcn (fun w => decide (1 ≤ A 10 w)) 30 ∧ (0 ≤ A (-2) 1 ∧ A (-2) 1 ≤ 12037 + 300 * A (-2) 0) ∧ (∀ w, 0 ≤ w ∧ w < 31 → (12 ≤ A 11 w ∧ A 11 w ≤ 42 ∨ 144 ≤ A 11 w ∧ A 11 w < 144 + A (-2) 0) ∧ (0 ≤ A (-1) (A 11 w) ∧ A (-1) (A 11 w) ≤ zNP A w) ∧ (A 10 w = 0 → A (-1) (A 11 w) = 0) ∧ (∀ j, 0 ≤ j ∧ j < A (-1) (A 11 w) → 0 ≤ A (A 11 w) j ∧ A (A 11 w) j < A 1 6)) ∧ (∀ w, 1 ≤ w ∧ w < 31 → 1 ≤ A 10 w → (zBF A w = 0 ∨ 1 ≤ A 10 (zBF A w)) ∧ zpe (A (A 11 w), A (-1) (A 11 w)) (zTw A w (zBF A w) (A (A 11 (zBF A w)), A (-1) (A 11 (zBF A w)))))
theorem zRw_2 {A : ZM} (h : zRw A) : 0 ≤ A (-2) 0 ∧ A (-2) 0 ≤ 30 := by
  rw [h.1]
  exact zcn_rg (p := fun w => decide (1 ≤ A 10 w)) 30
theorem zG_mk {A C : ZM} (hA : zRg A) (hL : zLog A C) (hR : zRw A) : zG A := by
  have h2 := zRw_2 hR
  refine ⟨hA, hL.1.1, by omega, by have := hR.2.1; omega, fun w hw => ?_⟩
  obtain ⟨q1, q2, -⟩ := hR.2.2.1 w hw
  have := zNP_300 hL.1.1 (w := w)
  exact ⟨q1, by omega, by omega⟩
/-- rows' invariant over another memory that has them all alike -/
theorem zRw_c {A M : ZM} (h : zSm A M) (h1 : M (-1) = A (-1)) (h2 : M (-2) = A (-2)) (h11 : M 11 = A 11) (hr : ∀ c, 12 ≤ c ∧ c ≤ 42 ∨ 144 ≤ c → M c = A c) (hq : A 1 6 ≤ M 1 6) (hR : zRw A) : zRw M := by
  have hr' := hr
  obtain ⟨r1, r2, r3, r4⟩ := hR
  refine ⟨?_, ?_, fun w hw => ?_, fun w hw ho => ?_⟩
  · rw [h2, h.1]; exact r1
  · rw [h2]; exact r2
  · obtain ⟨q1, q2, q3, q4⟩ := r3 w hw
    rw [h11, h1, h2, h.1, zNP_c h]
    refine ⟨q1, q2, q3, fun j hj => ?_⟩
    rw [hr _ (by omega)]
    have := q4 j hj
    omega
  · rw [h.1] at ho
    obtain ⟨q1, q2⟩ := r4 w hw ho
    have hB := zBF_rg (B := A) (w := w) hw.1
    rw [zBF_c h, zTw_c h, h11, h1, h.1, hr (A 11 w) (by have := (r3 w (by omega)).1; omega), hr (A 11 (zBF A w)) (by have := (r3 (zBF A w) (by omega)).1; omega)]
    exact ⟨q1, q2⟩
section ZRE
variable {A C : ZM} {s kd v a b : Int}
theorem zHO_old (H : zAr A s kd v a b) {c u k : Int} (hc : 0 ≤ c ∧ c < 3) (hk : 1 ≤ k ∧ k ≤ A (44 + 2 * c) 1) : zHO (zent A s kd v a b) c u k = zHO A c u k := by
  have hne : ¬ (c = s ∧ k = A (44 + 2 * s) 1 + 1) := by rintro ⟨rfl, q⟩; omega
  unfold zHO
  rw [zent_old H hc hne (j := 0) (by omega), zent_old H hc hne (j := 1) (by omega), zent_old H hc hne (j := 4) (by omega), zent_op H]
  by_cases e : u = v ∧ zOp A s kd v a b
  · rw [if_pos e]
    obtain ⟨p1, -⟩ := zOp_l e.2
    have p2 := e.2.2.2
    rw [← e.1] at p1 p2
    have n1 : ¬ (A (44 + 2 * s) 1 + 1 = k ∧ u % 3 = c) := fun q => hne ⟨by omega, q.1.symm⟩
    have n2 : ¬ (A 10 u = k ∧ u % 3 = c) := fun q => by omega
    simp only [n1, n2]
  · rw [if_neg e]
/-- what an OPENING ahead tells -/
theorem zoa_old (H : zAr A s kd v a b) (hL : zLog A C) {w : Int} (hw : 1 ≤ w ∧ w < 31) (ho : 1 ≤ A 10 w) : zent A s kd v a b 10 w = A 10 w ∧ zoa (zent A s kd v a b) w = zoa A w ∧ zob (zent A s kd v a b) w = zob A w := by
  have e1 : zent A s kd v a b 10 w = A 10 w := by
    rw [zent_op H, if_neg]
    rintro ⟨q1, q2⟩
    have := q2.2.2
    rw [q1] at ho
    omega
  have ho2 := zop_le hL (w := w) (by omega)
  have hne : ¬ (w % 3 = s ∧ A 10 w = A (44 + 2 * s) 1 + 1) := by
    rintro ⟨q1, q2⟩
    rw [q1] at ho2
    omega
  refine ⟨e1, ?_, ?_⟩
  · unfold zoa
    rw [e1, zent_old H (by omega) hne (by omega)]
  · unfold zob
    rw [e1, zent_old H (by omega) hne (by omega)]
theorem zBF_old (H : zAr A s kd v a b) (hL : zLog A C) {w : Int} (hw : 1 ≤ w ∧ w < 31) (ho : 1 ≤ A 10 w) : zBF (zent A s kd v a b) w = zBF A w := by
  obtain ⟨e1, e2, e3⟩ := zoa_old H hL hw ho
  obtain ⟨-, -, -, -, ⟨⟨⟨a1, a2⟩, -⟩, -⟩, ⟨⟨⟨b1, b2⟩, -⟩, -⟩⟩ := zop_ok hL.1 hw ho
  have ga := zent_le H (c := zoa A w % 3) (by omega)
  have gb := zent_le H (c := zob A w % 3) (by omega)
  unfold zBF
  congr 1
  funext u
  unfold zHb
  rw [e2, e3]
  congr 1
  · rw [show min (zoa A w / 3 - 1) (zent A s kd v a b (44 + 2 * (zoa A w % 3)) 1) = zoa A w / 3 - 1 by omega, show min (zoa A w / 3 - 1) (A (44 + 2 * (zoa A w % 3)) 1) = zoa A w / 3 - 1 by omega]
    exact zex_ext (fun k k1 k2 => zHO_old H (by omega) (by omega))
  · rw [show min (zob A w / 3 - 1) (zent A s kd v a b (44 + 2 * (zob A w % 3)) 1) = zob A w / 3 - 1 by omega, show min (zob A w / 3 - 1) (A (44 + 2 * (zob A w % 3)) 1) = zob A w / 3 - 1 by omega]
    exact zex_ext (fun k k1 k2 => zHO_old H (by omega) (by omega))
theorem zTel_old (H : zAr A s kd v a b) {c u n k : Int} (hc : 0 ≤ c ∧ c < 3) (hk : 1 ≤ k ∧ k ≤ A (44 + 2 * c) 1) : zTel (zent A s kd v a b) c u n k = zTel A c u n k := by
  have hne : ¬ (c = s ∧ k = A (44 + 2 * s) 1 + 1) := by rintro ⟨rfl, q⟩; omega
  unfold zTel
  rw [zent_old H hc hne (j := 0) (by omega), zent_old H hc hne (j := 1) (by omega), zent_old H hc hne (j := 2) (by omega), zent_old H hc hne (j := 4) (by omega)]
theorem zTex_old (H : zAr A s kd v a b) {c u n e : Int} (hc : 0 ≤ c ∧ c < 3) (he : e ≤ A (44 + 2 * c) 1) : zex (zTel (zent A s kd v a b) c u n) (min (e - 1) (zent A s kd v a b (44 + 2 * c) 1)) = zex (zTel A c u n) (min (e - 1) (A (44 + 2 * c) 1)) := by
  have := zent_le H hc
  rw [show min (e - 1) (zent A s kd v a b (44 + 2 * c) 1) = e - 1 by omega, show min (e - 1) (A (44 + 2 * c) 1) = e - 1 by omega]
  exact zex_ext (fun k k1 k2 => zTel_old H hc (by omega))
theorem zTex_no (hL : zLog A C) {c u e : Int} (hc : 0 ≤ c ∧ c < 3) : ¬ zex (zTel A c u (A (44 + 2 * (u % 3)) 1 + 1)) (min (e - 1) (A (44 + 2 * c) 1)) = true := by
  intro h
  obtain ⟨k, k1, k2, k3⟩ := zex_iff.mp h
  unfold zTel at k3
  rw [decide_eq_true_iff] at k3
  obtain ⟨-, q, -⟩ := zF1 hL hc (k := k) (by omega) k3.1 k3.2.1 k3.2.2.1 k3.2.2.2
  omega
theorem zTw_old (H : zAr A s kd v a b) (hL : zLog A C) {w u : Int} (hw : 1 ≤ w ∧ w < 31) (ho : 1 ≤ A 10 w) {x : (Int → Int) × Int} : zTw (zent A s kd v a b) w u x = zTw A w u x := by
  obtain ⟨e1, e2, e3⟩ := zoa_old H hL hw ho
  obtain ⟨-, -, -, -, ⟨⟨⟨a1, a2⟩, -⟩, -⟩, ⟨⟨⟨b1, b2⟩, -⟩, -⟩⟩ := zop_ok hL.1 hw ho
  have hcu := hL.1.1 (u % 3) (by omega)
  unfold zTw
  rw [e2, e3]
  generalize zoa A w = f at *
  generalize zob A w = g at *
  have step : ∀ k, 1 ≤ k ∧ k ≤ A (44 + 2 * (u % 3)) 1 → ∀ y, zTf (zent A s kd v a b) (f % 3) (f / 3) (g % 3) (g / 3) u k y = zTf A (f % 3) (f / 3) (g % 3) (g / 3) u k y := fun k hk y => by
    have hne : ¬ (u % 3 = s ∧ k = A (44 + 2 * s) 1 + 1) := by
      rintro ⟨q1, q2⟩
      rw [q1] at hk
      omega
    unfold zTf zAc
    rw [zent_old H (by omega) hne (j := 0) (by omega), zent_old H (by omega) hne (j := 1) (by omega), zent_old H (by omega) hne (j := 2) (by omega), zent_old H (by omega) hne (j := 4) (by omega), zTex_old H (by omega) a2, zTex_old H (by omega) b2]
  rw [zent_cnt H (by omega)]
  split
  · rename_i q
    rw [show A (44 + 2 * s) 1 = A (44 + 2 * (u % 3)) 1 by rw [q], zfi_L _ 1 _ x rfl (by omega)]
    have hno : ∀ y, zTf (zent A s kd v a b) (f % 3) (f / 3) (g % 3) (g / 3) u (A (44 + 2 * (u % 3)) 1 + 1) y = y := fun y => by
      unfold zTf
      rw [if_neg]
      rintro ⟨-, -, -, h | h | h | h⟩
      · rw [h.1] at a2; omega
      · rw [h.1] at b2; omega
      · rw [zTex_old H (by omega) a2] at h; exact zTex_no hL (by omega) h
      · rw [zTex_old H (by omega) b2] at h; exact zTex_no hL (by omega) h
    rw [hno]
    exact zfi_ext (fun k y hk => step k hk y)
  · exact zfi_ext (fun k y hk => step k hk y)
theorem zNP_old (H : zAr A s kd v a b) (hL : zLog A C) {w : Int} : zNP A w ≤ zNP (zent A s kd v a b) w := by
  have h : ∀ c, 0 ≤ c ∧ c < 3 → zNs A c w ≤ zNs (zent A s kd v a b) c w := fun c hc => by
    have hcc := hL.1.1 c hc
    have hg := zent_le H hc
    unfold zNs
    refine Int.le_trans ?_ (zcn_mono _ _ (Int.toNat_le_toNat hg))
    refine zcn_le _ (fun k k1 k2 hk => ?_)
    have hne : ¬ (c = s ∧ k = A (44 + 2 * s) 1 + 1) := by
      rintro ⟨rfl, q⟩
      omega
    rw [zent_old H hc hne (j := 0) (by omega), zent_old H hc hne (j := 1) (by omega)]
    exact hk
  have h0 := h 0 (by decide)
  have h1 := h 1 (by decide)
  have h2 := h 2 (by decide)
  unfold zNP
  omega
theorem zadd_up (H : zAr A s kd v a b) {c : Int} (h1 : c ≠ 10) (h2 : c < 44 ∨ 50 ≤ c) : zup (zadd A s kd v a b 0) 10 v (A (44 + 2 * s) 1 + 1) c = A c := by
  have hs := H.2.1
  rw [zup_row h1, zadd_row (by omega) (by omega)]
set_option maxHeartbeats 1000000 in
theorem zent_rw (H : zAr A s kd v a b) (hL : zLog A C) (hL' : zLog (zent A s kd v a b) (zmom C s (A (44 + 2 * s) 1 + 1))) (hR : zRw A) : zRw (zent A s kd v a b) ∧ zRg (zent A s kd v a b) := by
  obtain ⟨hA, hs, hkd, hv, ha, hb, hcn, h0⟩ := id H
  obtain ⟨r1, r2, r3, r4⟩ := id hR
  have h2 := zRw_2 hR
  have r16 : zent A s kd v a b 1 = A 1 := zent_row H (by decide) (by decide) (by decide) (by decide) (by omega) (by decide) (by omega) (by omega)
  have old : ∀ w, 1 ≤ w ∧ w < 31 → 1 ≤ A 10 w → zBF (zent A s kd v a b) w = zBF A w ∧ zent A s kd v a b 10 w = A 10 w ∧ (zBF A w = 0 ∨ zent A s kd v a b 10 (zBF A w) = A 10 (zBF A w)) := fun w hw ho => by
    have hB := zBF_rg (B := A) (w := w) hw.1
    refine ⟨zBF_old H hL hw ho, (zoa_old H hL hw ho).1, ?_⟩
    rcases (r4 w hw ho).1 with q | q
    · exact .inl q
    · by_cases e : zBF A w = 0
      · exact .inl e
      · exact .inr (zoa_old H hL (by omega) q).1
  by_cases hO : zOp A s kd v a b
  · -- a new row
    obtain ⟨p1, p2, p3, p4, p5, -⟩ := zOp_l hO
    have hv1 : 1 ≤ v ∧ v < 31 := by omega
    have hM := zent_om H
    generalize hMe : zup (zadd A s kd v a b 0) 10 v (A (44 + 2 * s) 1 + 1) = M at hM
    have eE : zent A s kd v a b = zmr M v a b := by rw [zent_o hO, hMe]
    have mr : ∀ c, c ≠ 10 → c < 44 ∨ 50 ≤ c → M c = A c := fun c h1 h2 => by rw [← hMe]; exact zadd_up H h1 h2
    have hM2 : M (-2) = A (-2) := mr _ (by decide) (by decide)
    have hM1 : M (-1) = A (-1) := mr _ (by decide) (by decide)
    have hM11 : M 11 = A 11 := mr _ (by decide) (by decide)
    have er : ∀ c, c ≠ 43 → c ≠ -1 → c ≠ -2 → c ≠ 11 → c ≠ 144 + A (-2) 0 → zent A s kd v a b c = M c := fun c q1 q2 q3 q4 q5 => by rw [eE]; exact zmr_row hM q1 q2 q3 q4 (by rw [hM2]; exact q5)
    have hS : zSm (zent A s kd v a b) M := ⟨(er 10 (by omega) (by omega) (by omega) (by omega) (by omega)).symm, fun x => (er _ (by omega) (by omega) (by omega) (by omega) (by omega)).symm, fun x => (er _ (by omega) (by omega) (by omega) (by omega) (by omega)).symm⟩
    have hLM : zLog M (zmom C s (A (44 + 2 * s) 1 + 1)) := zLog_c hS (by rw [r16, mr 1 (by decide) (by decide)]; omega) rfl rfl hL'
    have eop : zent A s kd v a b 10 v = A (44 + 2 * s) 1 + 1 := by rw [zent_op H, if_pos ⟨rfl, hO⟩]
    obtain ⟨n0, n1, n2, n3, n4⟩ := zent_new H rfl
    have ea : a = zoa M v := by rw [zoa_c hS]; unfold zoa; rw [eop, p1, n2]
    have eb : b = zob M v := by rw [zob_c hS]; unfold zob; rw [eop, p1, n3]
    have hB := zBF_rg (B := M) (w := v) hv1.1
    have eBF : zBF M v = zBF (zent A s kd v a b) v := zBF_c hS
    obtain ⟨t1, t2, t3, t4, t5, t6⟩ := zmr_ok hM hLM hv1 ea eb rfl (by rw [hM2]; omega) (by rw [hM11, hM2]; exact (r3 _ (by omega)).1) (by rw [hM11, hM1]; exact (r3 _ (by omega)).2.1.1)
    simp only [← eE, hM2, hM1, hM11] at t1 t2 t3 t4 t5 t6
    obtain ⟨g1, g2, g3, g4⟩ := r3 (zBF M v) (by omega)
    rw [mr (A 11 (zBF M v)) (by omega) (by omega)] at t1 t2 t4
    rw [zTw_c hS] at t1 t2 t4
    have hbd := zTw_bd (A := zent A s kd v a b) (w := v) (u := zBF M v) (x := (A (A 11 (zBF M v)), A (-1) (A 11 (zBF M v)))) (hL'.1.1 _ (by omega)).1
    have hen := zTw_en (A := zent A s kd v a b) (w := v) (u := zBF M v) (r := A 1 6) (x := (A (A 11 (zBF M v)), A (-1) (A 11 (zBF M v)))) (fun k hk hk0 => ⟨(hL'.1.2.1 _ k (by omega) hk).1.2.2.1.1, by have := hL'.2.2.2.2.1 _ k (by omega) hk hk0; rw [r16] at this; exact this⟩) g4
    have hs1 := zNP_S (A := zent A s kd v a b) (u := zBF M v) (by omega)
    have hs2 := zNP_mono (A := zent A s kd v a b) (w := zBF M v + 1) (w' := v) (by omega)
    have hs3 := zNP_old H hL (w := zBF M v)
    have hs4 := zNP_300 hL'.1.1 (w := v)
    generalize hT : zTw (zent A s kd v a b) v (zBF M v) (A (A 11 (zBF M v)), A (-1) (A 11 (zBF M v))) = T at *
    have hT2 : 0 ≤ T.2 ∧ T.2 ≤ zNP (zent A s kd v a b) v := by
      have q1 := hbd.1
      have q2 := hbd.2
      dsimp only at q1 q2
      omega
    have hold : ∀ w, 0 ≤ w ∧ w < 31 → zent A s kd v a b (A 11 w) = A (A 11 w) ∧ zent A s kd v a b (-1) (A 11 w) = A (-1) (A 11 w) := fun w hw => by
      have := (r3 w hw).1
      exact ⟨by rw [er _ (by omega) (by omega) (by omega) (by omega) (by omega), mr _ (by omega) (by omega)], t5 _ (by omega)⟩
    refine ⟨⟨?_, ?_, fun w hw => ?_, fun w hw ho => ?_⟩, ?_⟩
    · rw [t3, r1]
      refine (zcn_one (i := v) 30 hv1.1 (by omega) ?_ ?_ (fun k hk => ?_)).symm
      · rw [decide_eq_true_iff]; have := hO.2.2; omega
      · rw [decide_eq_true_iff, eop]; omega
      · rw [zent_op H, if_neg (fun q => hk q.1)]
    · rw [t4, t3]; omega
    · rw [t6]
      by_cases ew : w = v
      · rw [if_pos ew, t1, t3, ew]
        refine ⟨by omega, hT2, fun q => by omega, fun j hj => ?_⟩
        rw [t2 j hj, r16]
        exact hen j hj
      · rw [if_neg ew, (hold w hw).1, (hold w hw).2, t3, r16]
        obtain ⟨q1, q2, q3, q4⟩ := r3 w hw
        have := zNP_old H hL (w := w)
        refine ⟨by omega, by omega, fun q => q3 ?_, q4⟩
        rw [zent_op H, if_neg (fun q => ew q.1)] at q
        exact q
    · rw [t6, t6]
      by_cases ew : w = v
      · rw [if_pos ew]
        subst ew
        rw [← eBF, if_neg (by omega), (hold _ (by omega)).1, (hold _ (by omega)).2, hT, t1]
        refine ⟨?_, rfl, hT2.1, fun j hj => t2 j hj⟩
        rw [eBF]
        exact zBF_op hL' hv1
      · rw [if_neg ew]
        have ho' : 1 ≤ A 10 w := by rw [zent_op H, if_neg (fun q => ew q.1)] at ho; exact ho
        obtain ⟨o1, o2, o3⟩ := old w hw ho'
        obtain ⟨q1, q2⟩ := r4 w hw ho'
        have hB2 := zBF_rg (B := A) (w := w) hw.1
        rw [o1, (hold w (by omega)).1, (hold w (by omega)).2, zTw_old H hL hw ho']
        have en : zBF A w ≠ v := fun q => by
          rcases q1 with q1 | q1
          · omega
          · rw [q] at q1; have := hO.2.2; omega
        rw [if_neg en, (hold _ (by omega)).1, (hold _ (by omega)).2]
        refine ⟨?_, q2⟩
        rcases o3 with q | q
        · exact .inl q
        · rw [q]; exact q1
    · rw [eE]
      intro c j
      unfold zmr
      have b0 := zbase hLM hv1
      rw [← ea, ← eb] at b0
      try dsimp only
      rw [b0]
      have k3 : zmko M (zmrM M (zBF M v) a b) := zmko_mkf (zmko_mkf (zmko_clm ⟨hM, fun _ _ => rfl⟩))
      have l1 : zmrM M (zBF M v) a b (-2) = A (-2) := (k3.2 _ (by decide)).trans hM2
      refine zRg_up ?_ ⟨by rw [hM2]; omega, by rw [hM2]; omega⟩ c j
      have hcnt : zfi (zcnf (zmrM M (zBF M v) a b) (zBF M v % 3) (zBF M v)) 1 (zmrM M (zBF M v) a b (44 + 2 * (zBF M v % 3)) 1) (zmrM M (zBF M v) a b (-1) (M 11 (zBF M v))) = T.2 := by
        have q := t1
        rw [eE] at q
        unfold zmr at q
        try dsimp only at q
        rw [b0, zup_row (by omega), zrb_row (by rw [l1]; omega)] at q
        have q2 := (znew_2 (A := zmrM M (zBF M v) a b) (n := zfi (zcnf (zmrM M (zBF M v) a b) (zBF M v % 3) (zBF M v)) 1 (zmrM M (zBF M v) a b (44 + 2 * (zBF M v % 3)) 1) (zmrM M (zBF M v) a b (-1) (M 11 (zBF M v)))) (by rw [l1]; omega)).1
        rw [l1] at q2
        rw [q2] at q
        exact q
      unfold zrb
      refine zfi_keep (f := zrwf (zBF M v % 3) (zBF M v) (144 + zmrM M (zBF M v) a b (-2) 0)) (P := fun x : ZM × Int => zRg x.1) (fun k x hx => ?_) _ _ _ _ rfl ?_
      · unfold zrwf
        split
        · exact zRg_up hx (hx _ _)
        · exact hx
      · refine zcpy_rg (znew_rg k3.1 (by rw [l1]; omega) (by rw [l1]; omega) ?_)
        rw [hcnt]
        omega
  · have eE : ∃ o, zent A s kd v a b = zadd A s kd v a b o := by
      by_cases hV : zVD A s kd v a b
      · exact ⟨1, zent_v hV⟩
      · exact ⟨0, zent_n hV hO⟩
    obtain ⟨o, eE⟩ := eE
    have er : ∀ c, c < 44 ∨ 50 ≤ c → zent A s kd v a b c = A c := fun c hc => by rw [eE, zadd_row (by omega) (by omega)]
    refine ⟨⟨?_, ?_, fun w hw => ?_, fun w hw ho => ?_⟩, ?_⟩
    · rw [er _ (by omega), er 10 (by omega)]; exact r1
    · rw [er _ (by omega)]; exact r2
    · obtain ⟨q1, q2, q3, q4⟩ := r3 w hw
      have := zNP_old H hL (w := w)
      rw [er 11 (by omega), er (-1) (by omega), er (-2) (by omega), er 10 (by omega), er (A 11 w) (by omega), er 1 (by omega)]
      exact ⟨q1, by omega, q3, q4⟩
    · rw [er 10 (by omega)] at ho
      obtain ⟨o1, o2, o3⟩ := old w hw ho
      obtain ⟨q1, q2⟩ := r4 w hw ho
      have hB2 := zBF_rg (B := A) (w := w) hw.1
      have g1 := (r3 w (by omega)).1
      have g2 := (r3 (zBF A w) (by omega)).1
      rw [o1, er 11 (by omega), er (-1) (by omega), er 10 (by omega), er (A 11 w) (by omega), er (A 11 (zBF A w)) (by omega), zTw_old H hL hw ho]
      exact ⟨q1, q2⟩
    · rw [eE]
      exact zadd_rg hA ⟨by omega, by omega⟩ ⟨by omega, by omega⟩ ⟨by omega, by omega⟩ ⟨by omega, by omega⟩ (by omega)
end ZRE
