/-! the row that an OPENING makes is the reference's -/
theorem zex_ext {p q : Int → Bool} {n : Int} (h : ∀ k, 1 ≤ k → k ≤ n → p k = q k) : zex p n = zex q n := by
  rw [Bool.eq_iff_iff, zex_iff, zex_iff]
  exact ⟨fun ⟨k, h1, h2, h3⟩ => ⟨k, h1, h2, by rw [← h k h1 h2]; exact h3⟩, fun ⟨k, h1, h2, h3⟩ => ⟨k, h1, h2, by rw [h k h1 h2]; exact h3⟩⟩
theorem zfi_ext {α : Type} {f g : Int → α → α} {k l : Int} {a : α} (h : ∀ i a, k ≤ i ∧ i ≤ l → f i a = g i a) : zfi f k l a = zfi g k l a :=
  zfi_rel (R := fun x y => x = y) _ k l a a rfl (fun i x y hi e => by rw [e]; exact h i y hi) rfl
section ZRWN
variable {M C : ZM} (hL : zLog M C)
/-- of a NEW that is not VOID -/
theorem zF3 (hL : zLog M C) {s k u : Int} (hs : 0 ≤ s ∧ s < 3) (hk : 1 ≤ k ∧ k ≤ M (44 + 2 * s) 1) (h3 : M (45 + 2 * s) (k * 5 + 0) = 3) (hu : M (45 + 2 * s) (k * 5 + 1) = u) (hf : M (45 + 2 * s) (k * 5 + 4) = 0) : u % 3 = s ∧ u ≠ 0 ∧ 1 ≤ M 10 u ∧ M 10 u ≤ k := by
  obtain ⟨⟨-, r1, r2, r3⟩, q3, -⟩ := hL.1.2.1 s k hs hk
  have hn : ¬ zVN M C s k := fun q => (q3 h3).mpr q hf
  rw [zVN, hu] at hn
  have h1 : u % 3 = s := Classical.byContradiction fun q => hn (.inl q)
  have h2 : u ≠ 0 := fun q => hn (.inr (.inl q))
  rw [hu] at r1
  obtain ⟨o1, o2, -⟩ := hL.1.2.2.2 u (by omega)
  rw [h1] at o1 o2
  have h4 : ¬ (M 10 u = 0 ∨ k < M 10 u) := fun q => o2 k hk q ⟨h3, hu, hf⟩
  omega
/-- of a PREPARE that is not VOID -/
theorem zF0 (hL : zLog M C) {s k u : Int} (hs : 0 ≤ s ∧ s < 3) (hk : 1 ≤ k ∧ k ≤ M (44 + 2 * s) 1) (h0 : M (45 + 2 * s) (k * 5 + 0) = 0) (hu : M (45 + 2 * s) (k * 5 + 1) = u) (hf : M (45 + 2 * s) (k * 5 + 4) = 0) : u % 3 = s ∧ (1 ≤ u → 1 ≤ M 10 u ∧ M 10 u ≤ k) := by
  obtain ⟨⟨-, r1, r2, r3⟩, -, q0, -⟩ := hL.1.2.1 s k hs hk
  have hn : ¬ zVP M s k := fun q => (q0 h0).mpr q hf
  rw [zVP, hu] at hn
  rw [hu] at r1
  have ho := zop_le hL (w := u) (by omega)
  refine ⟨Classical.byContradiction fun q => hn (.inl q), fun h1 => ?_⟩
  have h4 : ¬ (M 10 u = 0 ∨ k < M 10 u) := fun q => hn (.inr (.inl ⟨by omega, q⟩))
  omega
/-- of a COMMIT that is not VOID -/
theorem zF1 (hL : zLog M C) {s k u x : Int} (hs : 0 ≤ s ∧ s < 3) (hk : 1 ≤ k ∧ k ≤ M (44 + 2 * s) 1) (h1 : M (45 + 2 * s) (k * 5 + 0) = 1) (hu : M (45 + 2 * s) (k * 5 + 1) = u) (hx : M (45 + 2 * s) (k * 5 + 2) = x) (hf : M (45 + 2 * s) (k * 5 + 4) = 0) : s ≠ u % 3 ∧ (1 ≤ x ∧ x ≤ M (44 + 2 * (u % 3)) 1) ∧ ((M (45 + 2 * (u % 3)) (x * 5 + 0) = 0 ∧ M (45 + 2 * (u % 3)) (x * 5 + 1) = u ∧ M (45 + 2 * (u % 3)) (x * 5 + 4) = 0) ∨ (u ≠ 0 ∧ M 10 u = x)) := by
  obtain ⟨⟨-, r1, r2, r3⟩, -, -, q1, -⟩ := hL.1.2.1 s k hs hk
  have hn : ¬ zVC M C s k := fun q => (q1 h1).mpr q hf
  rw [zVC, hu, hx] at hn
  refine ⟨fun q => hn (.inl (.inl q)), Classical.byContradiction fun q => hn (.inl (.inr (.inr (.inl q)))), ?_⟩
  by_cases e : M (45 + 2 * (u % 3)) (x * 5 + 0) = 0 ∧ M (45 + 2 * (u % 3)) (x * 5 + 1) = u ∧ M (45 + 2 * (u % 3)) (x * 5 + 4) = 0
  · exact .inl e
  · refine .inr ⟨fun q => hn (.inr ⟨e, .inl q⟩), Classical.byContradiction fun q => hn (.inr ⟨e, .inr q⟩)⟩
/-- what is bound to a view above 0 has its OPENING -/
theorem zFo (hL : zLog M C) {s k u : Int} (hs : 0 ≤ s ∧ s < 3) (hk : 1 ≤ k ∧ k ≤ M (44 + 2 * s) 1) (h2 : M (45 + 2 * s) (k * 5 + 0) ≠ 2) (hu : M (45 + 2 * s) (k * 5 + 1) = u) (hf : M (45 + 2 * s) (k * 5 + 4) = 0) (h1 : 1 ≤ u) : 1 ≤ M 10 u := by
  obtain ⟨⟨r0, r1, r2, r3⟩, -⟩ := hL.1.2.1 s k hs hk
  have hc : M (45 + 2 * s) (k * 5 + 0) = 0 ∨ M (45 + 2 * s) (k * 5 + 0) = 1 ∨ M (45 + 2 * s) (k * 5 + 0) = 3 := by omega
  rcases hc with h | h | h
  · exact ((zF0 hL hs hk h hu hf).2 h1).1
  · obtain ⟨q1, q2, q3⟩ := zF1 hL hs hk h hu rfl hf
    rcases q3 with q3 | q3
    · exact ((zF0 hL (by omega) q2 q3.1 q3.2.1 q3.2.2).2 h1).1
    · omega
  · exact (zF3 hL hs hk h hu hf).2.2.1
theorem zHb_iff {w u : Int} : zHb M w u = true ↔ (∃ k, 1 ≤ k ∧ k ≤ min (zoa M w / 3 - 1) (M (44 + 2 * (zoa M w % 3)) 1) ∧ zHO M (zoa M w % 3) u k = true) ∨ (∃ k, 1 ≤ k ∧ k ≤ min (zob M w / 3 - 1) (M (44 + 2 * (zob M w % 3)) 1) ∧ zHO M (zob M w % 3) u k = true) := by
  unfold zHb
  rw [Bool.or_eq_true, zex_iff, zex_iff]
/-- bound, of the reference, is bound, of the class -/
theorem zHO_b (hL : zLog M C) {s u k : Int} (hu : 1 ≤ u ∧ u < 31) (hk : 1 ≤ k) (h : zHO M s u k = true) : M (45 + 2 * s) (k * 5 + 1) = u ∧ M (45 + 2 * s) (k * 5 + 0) ≠ 2 ∧ M (45 + 2 * s) (k * 5 + 4) = 0 := by
  unfold zHO at h
  rw [decide_eq_true_iff] at h
  obtain ⟨h1, h | h⟩ := h
  · obtain ⟨o1, o2, o3⟩ := hL.1.2.2.2 u hu
    have := (o3 (by omega)).2.2
    rw [h.2.1, h.2.2] at this
    exact ⟨h1, by omega, this⟩
  · exact ⟨h1, h.2.1, h.2.2⟩
theorem zHO_m (hL : zLog M C) {s u k : Int} (hs : 0 ≤ s ∧ s < 3) (hk : 1 ≤ k ∧ k ≤ M (44 + 2 * s) 1) (h2 : M (45 + 2 * s) (k * 5 + 0) ≠ 2) (hu : M (45 + 2 * s) (k * 5 + 1) = u) (hf : M (45 + 2 * s) (k * 5 + 4) = 0) : ∃ k', 1 ≤ k' ∧ k' ≤ k ∧ zHO M s u k' = true := by
  by_cases h3 : M (45 + 2 * s) (k * 5 + 0) = 3
  · obtain ⟨q1, q2, q3, q4⟩ := zF3 hL hs hk h3 hu hf
    obtain ⟨⟨-, r1, -⟩, -⟩ := hL.1.2.1 s k hs hk
    obtain ⟨o1, o2, o3⟩ := hL.1.2.2.2 u (by omega)
    have o4 := o3 q3
    rw [q1] at o4
    refine ⟨M 10 u, q3, q4, ?_⟩
    unfold zHO
    rw [decide_eq_true_iff]
    exact ⟨o4.2.1, .inl ⟨o4.1, rfl, q1⟩⟩
  · refine ⟨k, hk.1, Int.le_refl k, ?_⟩
    unfold zHO
    rw [decide_eq_true_iff]
    exact ⟨hu, .inr ⟨h3, h2, hf⟩⟩
theorem zbase1 (hL : zLog M C) {v c e g : Int} (hv : 1 ≤ v ∧ v < 31) (hc : 0 ≤ c ∧ c < 3) (hg : g = zLV M c v e) : (g = 0 ∨ ∃ k, 1 ≤ k ∧ k ≤ min (e - 1) (M (44 + 2 * c) 1) ∧ zHO M c g k = true) ∧ (∀ u k, 1 ≤ u ∧ u < v → 1 ≤ k → k ≤ min (e - 1) (M (44 + 2 * c) 1) → zHO M c u k = true → u ≤ g) := by
  obtain ⟨z1, z2⟩ := zLV_ok (A := M) (s := c) (v := v) (by omega) _ (min (M (44 + 2 * c) 1) (e - 1)) rfl
  have hg' : zfi (zlvf M c v) 1 (min (M (44 + 2 * c) 1) (e - 1)) 0 = g := hg.symm
  rw [hg'] at z1 z2
  refine ⟨?_, fun u k hu hk1 hk2 h => ?_⟩
  · rcases z1 with z1 | ⟨k, hk, q1, q2, q3, q4⟩
    · exact .inl z1
    · obtain ⟨k', p1, p2, p3⟩ := zHO_m hL hc (k := k) (by omega) q3 q1 q4
      exact .inr ⟨k', p1, by omega, p3⟩
  · obtain ⟨q1, q2, q3⟩ := zHO_b hL (by omega) hk1 h
    have := z2 k (by omega) (by omega) q2 q3
    omega
theorem zbase (hL : zLog M C) {v : Int} (hv : 1 ≤ v ∧ v < 31) : max (zLV M (zoa M v % 3) v (zoa M v / 3)) (zLV M (zob M v % 3) v (zob M v / 3)) = zBF M v := by
  obtain ⟨b1, b2⟩ := zbfi_ok (P := zHb M v) _ (v - 1) rfl (by omega)
  have hB := zBF_rg (B := M) (w := v) hv.1
  have e : zbfi (zHb M v) (v - 1) = zBF M v := rfl
  rw [e] at b1 b2
  obtain ⟨x1, x2⟩ := zbase1 hL hv (c := zoa M v % 3) (e := zoa M v / 3) (by omega) rfl
  obtain ⟨y1, y2⟩ := zbase1 hL hv (c := zob M v % 3) (e := zob M v / 3) (by omega) rfl
  have rx : 0 ≤ zLV M (zoa M v % 3) v (zoa M v / 3) ∧ zLV M (zoa M v % 3) v (zoa M v / 3) < v := zlv_rg (A := M) _ 1 (min (M (44 + 2 * (zoa M v % 3)) 1) (zoa M v / 3 - 1)) 0 rfl (by omega) (by omega)
  have ry : 0 ≤ zLV M (zob M v % 3) v (zob M v / 3) ∧ zLV M (zob M v % 3) v (zob M v / 3) < v := zlv_rg (A := M) _ 1 (min (M (44 + 2 * (zob M v % 3)) 1) (zob M v / 3 - 1)) 0 rfl (by omega) (by omega)
  generalize zLV M (zoa M v % 3) v (zoa M v / 3) = x at *
  generalize zLV M (zob M v % 3) v (zob M v / 3) = y at *
  generalize zBF M v = u at *
  have h1 : u ≤ max x y := by
    rcases b1 with b1 | b1
    · omega
    · by_cases hu0 : u = 0
      · omega
      · rcases zHb_iff.mp b1 with ⟨k, k1, k2, k3⟩ | ⟨k, k1, k2, k3⟩
        · have := x2 u k (by omega) k1 k2 k3; omega
        · have := y2 u k (by omega) k1 k2 k3; omega
  have h2 : ¬ u < x := fun q => by
    rcases x1 with x1 | ⟨k, k1, k2, k3⟩
    · omega
    · exact b2 x q (by omega) (zHb_iff.mpr (.inl ⟨k, k1, k2, k3⟩))
  have h3 : ¬ u < y := fun q => by
    rcases y1 with y1 | ⟨k, k1, k2, k3⟩
    · omega
    · exact b2 y q (by omega) (zHb_iff.mpr (.inr ⟨k, k1, k2, k3⟩))
  omega
theorem zBF_op (hL : zLog M C) {v : Int} (hv : 1 ≤ v ∧ v < 31) : zBF M v = 0 ∨ 1 ≤ M 10 (zBF M v) := by
  obtain ⟨b1, b2⟩ := zbfi_ok (P := zHb M v) _ (v - 1) rfl (by omega)
  have hB := zBF_rg (B := M) (w := v) hv.1
  have e : zbfi (zHb M v) (v - 1) = zBF M v := rfl
  rw [e] at b1
  generalize zBF M v = u at *
  by_cases hu : u = 0
  · exact .inl hu
  · refine .inr ?_
    rcases b1 with b1 | b1
    · exact absurd b1 hu
    · rcases zHb_iff.mp b1 with ⟨k, k1, k2, k3⟩ | ⟨k, k1, k2, k3⟩
      · obtain ⟨q1, q2, q3⟩ := zHO_b hL (by omega) k1 k3
        exact zFo hL (by omega) (k := k) (by omega) q2 q1 q3 (by omega)
      · obtain ⟨q1, q2, q3⟩ := zHO_b hL (by omega) k1 k3
        exact zFo hL (by omega) (k := k) (by omega) q2 q1 q3 (by omega)
theorem zMk_i (hL : zLog M C) {c e u k : Int} (hc : 0 ≤ c ∧ c < 3) (hu : 0 ≤ u ∧ u < 31) (hk : 1 ≤ k ∧ k ≤ M (44 + 2 * (u % 3)) 1) (h0 : M (45 + 2 * (u % 3)) (k * 5 + 0) = 0) (h1 : M (45 + 2 * (u % 3)) (k * 5 + 1) = u) : (∃ k', (1 ≤ k' ∧ k' ≤ min (M (44 + 2 * c) 1) (e - 1)) ∧ zMk M c u k' k) ↔ M (45 + 2 * (u % 3)) (k * 5 + 4) = 0 ∧ ((c = u % 3 ∧ k < e) ∨ zex (zTel M c u k) (min (e - 1) (M (44 + 2 * c) 1)) = true) := by
  constructor
  · rintro ⟨k', hk', q1, q2, q3, q4⟩
    by_cases e1 : M (45 + 2 * c) (k' * 5 + 0) = 1
    · rw [if_pos e1] at q4
      obtain ⟨p1, p2, p3⟩ := zF1 hL hc (k := k') (by omega) e1 q1 q4 q3
      refine ⟨?_, .inr (zex_t k' hk'.1 (by omega) ?_)⟩
      · rcases p3 with p3 | p3
        · exact p3.2.2
        · obtain ⟨o1, o2, o3⟩ := hL.1.2.2.2 u (by omega)
          have := (o3 (by omega)).1
          rw [p3.2] at this
          omega
      · unfold zTel
        rw [decide_eq_true_iff]
        exact ⟨e1, q1, q4, q3⟩
    · rw [if_neg e1] at q4
      subst q4
      obtain ⟨⟨r0, -⟩, -⟩ := hL.1.2.1 c k' hc (by omega)
      have e2 : c = u % 3 := by
        by_cases e3 : M (45 + 2 * c) (k' * 5 + 0) = 3
        · exact (zF3 hL hc (by omega) e3 q1 q3).1.symm
        · exact (zF0 hL hc (by omega) (by omega) q1 q3).1.symm
      exact ⟨by rw [← e2]; exact q3, .inl ⟨e2, by omega⟩⟩
  · rintro ⟨h4, ⟨e2, h5⟩ | h5⟩
    · refine ⟨k, ⟨hk.1, by rw [e2]; omega⟩, ?_⟩
      unfold zMk
      rw [e2, if_neg (by omega)]
      exact ⟨h1, by omega, h4, rfl⟩
    · obtain ⟨k', p1, p2, p3⟩ := zex_iff.mp h5
      unfold zTel at p3
      rw [decide_eq_true_iff] at p3
      refine ⟨k', ⟨p1, by omega⟩, ?_⟩
      unfold zMk
      rw [if_pos p3.1]
      exact ⟨p3.2.1, by omega, p3.2.2.2, p3.2.2.1⟩
theorem zcondM (hL : zLog M C) {u k a b : Int} (hu : 0 ≤ u ∧ u < 31) (hk : 1 ≤ k ∧ k ≤ M (44 + 2 * (u % 3)) 1) : (¬ zmrM M u a b 43 k = 0 ∧ M (45 + 2 * (u % 3)) (k * 5 + 0) = 0 ∧ M (45 + 2 * (u % 3)) (k * 5 + 1) = u) ↔ zAc M (a % 3) (a / 3) (b % 3) (b / 3) u k := by
  have hcc := hL.1.1 (u % 3) (by omega)
  rw [zmrM_43 (by omega)]
  constructor
  · rintro ⟨h, h0, h1⟩
    rw [zMk_i hL (by omega) hu hk h0 h1, zMk_i hL (by omega) hu hk h0 h1] at h
    rcases h with ⟨h4, h5 | h5⟩ | ⟨h4, h5 | h5⟩
    · exact ⟨h0, h1, h4, .inl h5⟩
    · exact ⟨h0, h1, h4, .inr (.inr (.inl h5))⟩
    · exact ⟨h0, h1, h4, .inr (.inl h5)⟩
    · exact ⟨h0, h1, h4, .inr (.inr (.inr h5))⟩
  · rintro ⟨h0, h1, h4, h⟩
    refine ⟨?_, h0, h1⟩
    rw [zMk_i hL (by omega) hu hk h0 h1, zMk_i hL (by omega) hu hk h0 h1]
    rcases h with h | h | h | h
    · exact .inl ⟨h4, .inl h⟩
    · exact .inr ⟨h4, .inl h⟩
    · exact .inl ⟨h4, .inr h⟩
    · exact .inr ⟨h4, .inr h⟩
theorem znew_q {A : ZM} {n j : Int} (h : 0 ≤ A (-2) 0) : znew A n (144 + A (-2) 0) j = 0 := by
  unfold znew
  rw [if_pos rfl]
/-- all of a new row -/
theorem zmr_ok (hM : zRg M) (hL : zLog M C) {v a b u : Int} (hv : 1 ≤ v ∧ v < 31) (ha : a = zoa M v) (hb : b = zob M v) (hu : u = zBF M v) (h2 : 0 ≤ M (-2) 0 ∧ M (-2) 0 ≤ 900) (hp : 12 ≤ M 11 u ∧ M 11 u ≤ 42 ∨ 144 ≤ M 11 u ∧ M 11 u < 144 + M (-2) 0) (hl : 0 ≤ M (-1) (M 11 u)) :
    zmr M v a b (-1) (144 + M (-2) 0) = (zTw M v u (M (M 11 u), M (-1) (M 11 u))).2 ∧ (∀ j, 0 ≤ j ∧ j < (zTw M v u (M (M 11 u), M (-1) (M 11 u))).2 → zmr M v a b (144 + M (-2) 0) j = (zTw M v u (M (M 11 u), M (-1) (M 11 u))).1 j) ∧ zmr M v a b (-2) 0 = M (-2) 0 + 1 ∧ zmr M v a b (-2) 1 = M (-2) 1 + (zTw M v u (M (M 11 u), M (-1) (M 11 u))).2 ∧ (∀ j, j ≠ 144 + M (-2) 0 → zmr M v a b (-1) j = M (-1) j) ∧ (∀ w, zmr M v a b 11 w = if w = v then 144 + M (-2) 0 else M 11 w) := by
  have hB := zBF_rg (B := M) (w := v) hv.1
  have hu' : 0 ≤ u ∧ u < 31 := by omega
  have hbs : max (zLV M (a % 3) v (a / 3)) (zLV M (b % 3) v (b / 3)) = u := by rw [ha, hb, hu]; exact zbase hL hv
  have hr : ∀ c, c ≠ 43 → zmrM M u a b c = M c := fun c hc => zmrM_row hM hc
  have e : zmr M v a b = zup (zrb (zmrM M u a b) (u % 3) u (M 11 u)) 11 v (144 + M (-2) 0) := by
    unfold zmr
    rw [hbs]
  have hcc := hL.1.1 (u % 3) (by omega)
  have hcnt : zfi (zcnf (zmrM M u a b) (u % 3) u) 1 (zmrM M u a b (44 + 2 * (u % 3)) 1) (zmrM M u a b (-1) (M 11 u)) = (zTw M v u (M (M 11 u), M (-1) (M 11 u))).2 := by
    rw [hr _ (by omega), hr _ (by omega)]
    unfold zTw
    rw [← ha, ← hb]
    refine zfi_rel (R := fun (c : Int) (x : (Int → Int) × Int) => c = x.2) _ _ _ _ _ rfl (fun k c x hk hcx => ?_) rfl
    unfold zcnf zTf
    rw [hr (45 + 2 * (u % 3)) (by omega)]
    have hcd := zcondM hL (a := a) (b := b) hu' hk
    by_cases hc : zAc M (a % 3) (a / 3) (b % 3) (b / 3) u k
    · rw [if_pos hc, if_pos (hcd.mpr hc)]
      show c + 1 = x.2 + 1
      omega
    · rw [if_neg hc, if_neg (fun q => hc (hcd.mp q))]
      exact hcx
  have h20 : zmrM M u a b (-2) = M (-2) := hr _ (by decide)
  have hn : ∀ n, znew (zmrM M u a b) n (-1) (144 + M (-2) 0) = n ∧ znew (zmrM M u a b) n (-2) 0 = M (-2) 0 + 1 ∧ znew (zmrM M u a b) n (-2) 1 = M (-2) 1 + n := fun n => by
    have := znew_2 (A := zmrM M u a b) (n := n) (by rw [h20]; exact h2.1)
    rw [h20] at this
    exact this
  have hrow : ∀ c, c ≠ 144 + M (-2) 0 → zrb (zmrM M u a b) (u % 3) u (M 11 u) c = znew (zmrM M u a b) (zTw M v u (M (M 11 u), M (-1) (M 11 u))).2 c := fun c hc => by
    rw [zrb_row (by rw [h20]; exact hc), hcnt]
  rw [e]
  refine ⟨?_, fun j hj => ?_, ?_, ?_, fun j hj => ?_, fun w => ?_⟩
  · rw [zup_row (by omega), hrow _ (by omega)]
    exact (hn _).1
  · rw [zup_row (by omega)]
    unfold zrb
    rw [hcnt, h20, hr (44 + 2 * (u % 3)) (by omega), hr (-1) (by omega)]
    generalize hN : zcpy (znew (zmrM M u a b) (zTw M v u (M (M 11 u), M (-1) (M 11 u))).2) (144 + M (-2) 0) (M 11 u) (M (-1) (M 11 u)) = N
    have hN1 : ∀ c, c ≠ 144 + M (-2) 0 → c ≠ -1 → c ≠ -2 → N c = zmrM M u a b c := fun c h1 h2 h3 => by
      rw [← hN, zcpy_row h1, znew_row (by rw [h20]; exact h1) h2 h3]
    have hN2 : ∀ j, 0 ≤ j ∧ j < M (-1) (M 11 u) → N (144 + M (-2) 0) j = M (M 11 u) j := fun j hj => by
      rw [← hN]
      unfold zcpy
      rw [if_pos ⟨rfl, hj.1, hj.2⟩, znew_row (by rw [h20]; omega) (by omega) (by omega), hr _ (by omega)]
    have key : (fun (X : ZM × Int) (x : (Int → Int) × Int) => X.2 = x.2 ∧ 0 ≤ X.2 ∧ (∀ j, 0 ≤ j ∧ j < X.2 → X.1 (144 + M (-2) 0) j = x.1 j) ∧ ∀ c, c ≠ 144 + M (-2) 0 → X.1 c = N c) (zfi (zrwf (u % 3) u (144 + M (-2) 0)) 1 (M (44 + 2 * (u % 3)) 1) (N, M (-1) (M 11 u))) (zTw M v u (M (M 11 u), M (-1) (M 11 u))) := by
      unfold zTw
      rw [← ha, ← hb]
      refine zfi_rel (R := fun (X : ZM × Int) (x : (Int → Int) × Int) => X.2 = x.2 ∧ 0 ≤ X.2 ∧ (∀ j, 0 ≤ j ∧ j < X.2 → X.1 (144 + M (-2) 0) j = x.1 j) ∧ ∀ c, c ≠ 144 + M (-2) 0 → X.1 c = N c) _ _ _ _ _ rfl (fun k X x hk hX => ?_) ⟨rfl, hl, hN2, fun c _ => rfl⟩
      obtain ⟨x1, x2, x3, x4⟩ := hX
      have hcd := zcondM hL (a := a) (b := b) hu' hk
      have y1 : X.1 43 = zmrM M u a b 43 := (x4 43 (by omega)).trans (hN1 43 (by omega) (by omega) (by omega))
      have y2 : X.1 (45 + 2 * (u % 3)) = M (45 + 2 * (u % 3)) := ((x4 _ (by omega)).trans (hN1 _ (by omega) (by omega) (by omega))).trans (hr _ (by omega))
      unfold zrwf zTf
      rw [y1, y2]
      by_cases hc : zAc M (a % 3) (a / 3) (b % 3) (b / 3) u k
      · rw [if_pos hc, if_pos (hcd.mpr hc)]
        refine ⟨?_, ?_, fun j hj => ?_, fun c hc => ?_⟩
        · show X.2 + 1 = x.2 + 1; omega
        · show 0 ≤ X.2 + 1; omega
        · have hj2 : j < X.2 + 1 := hj.2
          show zup X.1 (144 + M (-2) 0) X.2 _ (144 + M (-2) 0) j = (if j = x.2 then _ else x.1 j)
          rw [← x1]
          by_cases ej : j = X.2
          · rw [if_pos ej, zup_eq ⟨rfl, ej⟩]
          · rw [if_neg ej, zup_ne (fun q => ej q.2)]
            exact x3 j ⟨hj.1, by omega⟩
        · show zup X.1 (144 + M (-2) 0) X.2 _ c = N c
          rw [zup_row hc]; exact x4 c hc
      · rw [if_neg hc, if_neg (fun q => hc (hcd.mp q))]
        exact ⟨x1, x2, x3, x4⟩
    obtain ⟨k1, k2, k3, -⟩ := key
    exact k3 j (by rw [k1]; exact hj)
  · rw [zup_row (by omega), hrow _ (by omega)]
    exact (hn _).2.1
  · rw [zup_row (by omega), hrow _ (by omega)]
    exact (hn _).2.2
  · rw [zup_row (by omega), hrow _ (by omega), znew_1 (by rw [h20]; exact h2.1) (by rw [h20]; exact hj), hr _ (by omega)]
  · by_cases ew : w = v
    · rw [if_pos ew, zup_eq ⟨rfl, ew⟩]
    · rw [if_neg ew, zup_ne (fun q => ew q.2), hrow _ (by omega), znew_row (by rw [h20]; omega) (by omega) (by omega), hr _ (by omega)]
end ZRWN
