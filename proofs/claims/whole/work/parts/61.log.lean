/-! the log's invariant, kept by a new message -/
def zLog (A C : ZM) : Prop := zLI A C ∧ (∀ s k, 0 ≤ s ∧ s < 3 → 1 ≤ k ∧ k ≤ A (44 + 2 * s) 1 → 0 ≤ C 119 (101 * s + k) ∧ C 119 (101 * s + k) < C 107 15) ∧ C 107 15 = A 44 1 + A 46 1 + A 48 1 ∧ (∀ s w, 0 ≤ s ∧ s < 3 → 0 ≤ w → (w < A (44 + 2 * s) 2 ↔ zex (zHL A s w) (A (44 + 2 * s) 1) = true)) ∧ (∀ s k, 0 ≤ s ∧ s < 3 → 1 ≤ k ∧ k ≤ A (44 + 2 * s) 1 → A (45 + 2 * s) (k * 5 + 0) = 0 → A (45 + 2 * s) (k * 5 + 2) < A 1 6) ∧ (∀ s k, 0 ≤ s ∧ s < 3 → 1 ≤ k ∧ k ≤ A (44 + 2 * s) 1 → A (45 + 2 * s) (k * 5 + 4) = 0 ∨ A (45 + 2 * s) (k * 5 + 4) = 1)
theorem zmom_at {C : ZM} {s n c k : Int} (hs : 0 ≤ s ∧ s < 3) (hn : 1 ≤ n ∧ n ≤ 100) (hc : 0 ≤ c ∧ c < 3) (hk : 1 ≤ k ∧ k ≤ 100) : zmom C s n 119 (101 * c + k) = if c = s ∧ k = n then C 107 15 else C 119 (101 * c + k) := by
  unfold zmom
  rw [zup_ne (by omega)]
  by_cases h : c = s ∧ k = n
  · rw [if_pos h, zup_eq ⟨rfl, by rw [h.1, h.2]⟩]
  · rw [if_neg h, zup_ne (by omega)]
theorem zmom_15 {C : ZM} {s n : Int} : zmom C s n 107 15 = C 107 15 + 1 := zup_eq ⟨rfl, rfl⟩
theorem zmom_row {C : ZM} {s n c : Int} (h1 : c ≠ 119) (h2 : c ≠ 107) : zmom C s n c = C c := (zup_row h2).trans (zup_row h1)
theorem zmom_107 {C : ZM} {s n j : Int} (h : j ≠ 15) : zmom C s n 107 j = C 107 j := (zup_ne (fun q => h q.2)).trans (congrFun (zup_row (by decide)) j)
section ZLG
variable {A C : ZM} {s kd v a b : Int}
theorem zLf_old (H : zAr A s kd v a b) {c w k : Int} (hc : 0 ≤ c ∧ c < 3) (hk : k ≤ A (44 + 2 * c) 1 + 1) : zLf (zent A s kd v a b) c w k ↔ zLf A c w k := by
  unfold zLf
  rw [zex_iff, zex_iff]
  constructor
  · rintro ⟨i, h1, h2, h3⟩
    refine ⟨i, h1, h2, ?_⟩
    unfold zHL at h3 ⊢
    rw [zent_old H hc (by rintro ⟨rfl, q⟩; omega) (by omega), zent_old H hc (by rintro ⟨rfl, q⟩; omega) (by omega)] at h3
    exact h3
  · rintro ⟨i, h1, h2, h3⟩
    refine ⟨i, h1, h2, ?_⟩
    unfold zHL at h3 ⊢
    rw [zent_old H hc (by rintro ⟨rfl, q⟩; omega) (by omega), zent_old H hc (by rintro ⟨rfl, q⟩; omega) (by omega)]
    exact h3
theorem zent_le (H : zAr A s kd v a b) {c : Int} (hc : 0 ≤ c ∧ c < 3) : A (44 + 2 * c) 1 ≤ zent A s kd v a b (44 + 2 * c) 1 := by
  rw [zent_cnt H hc]
  split
  · rename_i e; subst e; omega
  · omega
/-- is there, of a message ahead -/
theorem zOf_old (H : zAr A s kd v a b) {c k q w : Int} (hc : 0 ≤ c ∧ c < 3) (hk : ¬ (c = s ∧ k = A (44 + 2 * s) 1 + 1)) : zOf (zent A s kd v a b) c k q w ↔ zOf A c k q w := by
  unfold zOf
  rw [zent_old H hc hk (by omega), zent_old H hc hk (by omega), zent_cnt H hc]
  split
  · rename_i e; subst e
    constructor
    · rintro ⟨⟨h1, h2⟩, h3⟩; exact ⟨⟨h1, by omega⟩, h3⟩
    · rintro ⟨⟨h1, h2⟩, h3⟩; exact ⟨⟨h1, by omega⟩, h3⟩
  · exact Iff.rfl
theorem zIC_old (H : zAr A s kd v a b) (hL : zLog A C) {x w c k : Int} (hx : 0 ≤ x) (hc : 0 ≤ c ∧ c < 3) (hk : 1 ≤ k ∧ k ≤ A (44 + 2 * c) 1) : zIC (zent A s kd v a b) (zmom C s (A (44 + 2 * s) 1 + 1)) x w (zmom C s (A (44 + 2 * s) 1 + 1) 119 (101 * c + k)) ↔ zIC A C x w (C 119 (101 * c + k)) := by
  obtain ⟨hLI, m1, m2, m3, m4, m5⟩ := hL
  obtain ⟨hA, hs, hkd, hv, ha, hb, hcn, h0⟩ := id H
  have hcc := hLI.1 c hc
  have hcx := hLI.1 (x % 3) (by omega)
  have hm := m1 c k hc hk
  rw [zmom_at hs (by omega) hc (by omega), if_neg (by rintro ⟨rfl, q⟩; omega)]
  unfold zIC
  by_cases e : x % 3 = s ∧ x / 3 = A (44 + 2 * s) 1 + 1
  · constructor
    · rintro ⟨_, h2⟩
      rw [zmom_at hs (by omega) (by omega) (by omega), if_pos e] at h2
      omega
    · rintro ⟨⟨⟨_, h2⟩, _⟩, _⟩
      rw [e.1] at h2
      omega
  · rw [zOf_old H (by omega) e]
    constructor
    · rintro ⟨h1, h2⟩
      have hh := h1.1
      rw [zmom_at hs (by omega) (by omega) (by omega), if_neg e] at h2
      exact ⟨h1, h2⟩
    · rintro ⟨h1, h2⟩
      have hh := h1.1
      rw [zmom_at hs (by omega) (by omega) (by omega), if_neg e]
      exact ⟨h1, h2⟩
theorem zIC_new (H : zAr A s kd v a b) (hL : zLog A C) {x w : Int} (hx : 0 ≤ x) (h3 : kd ≠ 2) : zIC (zent A s kd v a b) (zmom C s (A (44 + 2 * s) 1 + 1)) x w (zmom C s (A (44 + 2 * s) 1 + 1) 119 (101 * s + (A (44 + 2 * s) 1 + 1))) ↔ zOf A (x % 3) (x / 3) 2 w := by
  obtain ⟨hLI, m1, m2, m3, m4, m5⟩ := hL
  obtain ⟨hA, hs, hkd, hv, ha, hb, hcn, h0⟩ := id H
  have hcx := hLI.1 (x % 3) (by omega)
  rw [zmom_at hs (by omega) hs (by omega), if_pos ⟨rfl, rfl⟩]
  unfold zIC
  by_cases e : x % 3 = s ∧ x / 3 = A (44 + 2 * s) 1 + 1
  · constructor
    · rintro ⟨⟨_, h1, _⟩, _⟩
      rw [e.1, e.2, (zent_new H rfl).1] at h1
      exact absurd h1 h3
    · rintro ⟨⟨_, h2⟩, _⟩
      rw [e.1] at h2
      omega
  · rw [zOf_old H (by omega) e]
    constructor
    · exact fun h => h.1
    · intro h1
      have hh := h1.1
      refine ⟨h1, ?_⟩
      rw [zmom_at hs (by omega) (by omega) (by omega), if_neg e]
      exact (m1 _ _ (by omega) hh).2
/-- ahead of the new one: what is VOID stays so -/
theorem zVN_old (H : zAr A s kd v a b) (hL : zLog A C) {c k : Int} (hc : 0 ≤ c ∧ c < 3) (hk : 1 ≤ k ∧ k ≤ A (44 + 2 * c) 1) : zVN (zent A s kd v a b) (zmom C s (A (44 + 2 * s) 1 + 1)) c k ↔ zVN A C c k := by
  have hne : ¬ (c = s ∧ k = A (44 + 2 * s) 1 + 1) := by rintro ⟨rfl, q⟩; omega
  obtain ⟨⟨-, r1, r2, r3⟩, -⟩ := hL.1.2.1 c k hc hk
  unfold zVN
  rw [zent_old H hc hne (j := 1) (by omega), zent_old H hc hne (j := 2) (by omega), zent_old H hc hne (j := 3) (by omega), zIC_old H hL r2.1 hc hk, zIC_old H hL r3.1 hc hk, zLf_old H hc (by omega)]
theorem zVP_old (H : zAr A s kd v a b) (hL : zLog A C) {c k : Int} (hc : 0 ≤ c ∧ c < 3) (hk : 1 ≤ k ∧ k ≤ A (44 + 2 * c) 1) : zVP (zent A s kd v a b) c k ↔ zVP A c k := by
  have hne : ¬ (c = s ∧ k = A (44 + 2 * s) 1 + 1) := by rintro ⟨rfl, q⟩; omega
  unfold zVP
  rw [zent_old H hc hne (j := 1) (by omega), zLf_old H hc (by omega), zent_op H]
  by_cases e : A (45 + 2 * c) (k * 5 + 1) = v ∧ zOp A s kd v a b
  · rw [if_pos e, e.1]
    obtain ⟨q1, q2, -⟩ := zOp_l e.2
    have q3 := e.2.2.2
    have q4 : s = c → A (44 + 2 * s) 1 = A (44 + 2 * c) 1 := fun q => by rw [q]
    have hv := H.2.2.2.1
    constructor
    · rintro (h | h | h)
      · exact .inl h
      · exact .inr (.inl ⟨h.1, .inl q3⟩)
      · exact .inr (.inr h)
    · rintro (h | h | h)
      · exact .inl h
      · by_cases ec : v % 3 = c
        · exact .inr (.inl ⟨h.1, .inr (by have := q4 (q1.symm.trans ec); omega)⟩)
        · exact .inl ec
      · exact .inr (.inr h)
  · rw [if_neg e]
theorem zVC_old (H : zAr A s kd v a b) (hL : zLog A C) {c k : Int} (hc : 0 ≤ c ∧ c < 3) (hk : 1 ≤ k ∧ k ≤ A (44 + 2 * c) 1) : zVC (zent A s kd v a b) (zmom C s (A (44 + 2 * s) 1 + 1)) c k ↔ zVC A C c k := by
  have hne : ¬ (c = s ∧ k = A (44 + 2 * s) 1 + 1) := by rintro ⟨rfl, q⟩; omega
  obtain ⟨⟨-, r1, r2, r3⟩, -⟩ := hL.1.2.1 c k hc hk
  obtain ⟨hLI, m1, m2, m3, m4, m5⟩ := id hL
  obtain ⟨hA, hs, hkd, hv, ha, hb, hcn, h0⟩ := id H
  have hcc := hLI.1 c hc
  have hm := m1 c k hc hk
  unfold zVC
  rw [zent_old H hc hne (j := 1) (by omega), zent_old H hc hne (j := 2) (by omega), zLf_old H hc (by omega)]
  generalize hw : A (45 + 2 * c) (k * 5 + 1) = w at *
  generalize hx : A (45 + 2 * c) (k * 5 + 2) = x at *
  have hl := hLI.1 (w % 3) (by omega)
  have hm' : zmom C s (A (44 + 2 * s) 1 + 1) 119 (101 * c + k) = C 119 (101 * c + k) := by rw [zmom_at hs (by omega) hc (by omega), if_neg hne]
  rw [hm']
  by_cases e : w % 3 = s ∧ x = A (44 + 2 * s) 1 + 1
  · have q1 : ¬ (1 ≤ x ∧ x ≤ A (44 + 2 * (w % 3)) 1) := by rw [e.1]; omega
    have q2 : C 119 (101 * c + k) < zmom C s (A (44 + 2 * s) 1 + 1) 119 (101 * (w % 3) + x) := by
      rw [zmom_at hs (by omega) (by omega) (by omega), if_pos e]; exact hm.2
    exact ⟨fun _ => .inl (.inr (.inr (.inl q1))), fun _ => .inl (.inr (.inr (.inr q2)))⟩
  · have q0 : (1 ≤ x ∧ x ≤ zent A s kd v a b (44 + 2 * (w % 3)) 1) ↔ (1 ≤ x ∧ x ≤ A (44 + 2 * (w % 3)) 1) := by
      rw [zent_cnt H (by omega)]
      split
      · rename_i q; rw [q] at e ⊢
        constructor
        · rintro ⟨q1, q2⟩; exact ⟨q1, by omega⟩
        · rintro ⟨q1, q2⟩; exact ⟨q1, by omega⟩
      · exact Iff.rfl
    rw [q0]
    by_cases hx1 : 1 ≤ x ∧ x ≤ A (44 + 2 * (w % 3)) 1
    · rw [zmom_at hs (by omega) (by omega) (by omega), if_neg e, zent_old H (by omega) e (j := 0) (by omega), zent_old H (by omega) e (j := 1) (by omega), zent_old H (by omega) e (j := 4) (by omega), zent_op H]
      by_cases eo : w = v ∧ zOp A s kd v a b
      · rw [if_pos eo]
        obtain ⟨q1, q2, -⟩ := zOp_l eo.2
        have q3 := eo.2.2.2
        rw [← eo.1] at q1 q3
        have q5 : ¬ x = A (44 + 2 * s) 1 + 1 := fun q => e ⟨q1, q⟩
        have q6 : (A (44 + 2 * s) 1 + 1 ≠ x) ↔ (A 10 w ≠ x) := ⟨fun _ => by omega, fun _ => by omega⟩
        rw [q6]
      · rw [if_neg eo]
    · exact ⟨fun _ => .inl (.inr (.inr (.inl hx1))), fun _ => .inl (.inr (.inr (.inl hx1)))⟩
theorem zLf_gc (hL : zLog A C) {w : Int} (hs : 0 ≤ s ∧ s < 3) (hw : 0 ≤ w) : zLf A s w (A (44 + 2 * s) 1 + 1) ↔ w < A (44 + 2 * s) 2 := by
  rw [hL.2.2.2.1 s w hs hw]
  unfold zLf
  rw [show A (44 + 2 * s) 1 + 1 - 1 = A (44 + 2 * s) 1 by omega]
theorem zVN_new (H : zAr A s 3 v a b) (hL : zLog A C) : zVD A s 3 v a b ↔ zVN (zent A s 3 v a b) (zmom C s (A (44 + 2 * s) 1 + 1)) s (A (44 + 2 * s) 1 + 1) := by
  obtain ⟨hA, hs, hkd, hv, ha, hb, hcn, h0⟩ := id H
  obtain ⟨e0, e1, e2, e3, -⟩ := zent_new H rfl
  have hi := zLf_gc (s := s) hL hs (w := v) hv.1
  unfold zVN
  rw [e1, e2, e3, zIC_new H hL ha.1 (by decide), zIC_new H hL hb.1 (by decide), zLf_old H hs (by omega), hi]
  constructor
  · rintro ⟨-, h | h | h | ⟨-, h⟩⟩
    · exact .inr (.inr (.inr (.inr (.inr h))))
    · exact absurd h.1 (by decide)
    · exact absurd h.1 (by decide)
    · rcases h with h | h | h | h | h
      · exact .inl h
      · exact .inr (.inl h)
      · exact .inr (.inr (.inl h))
      · exact .inr (.inr (.inr (.inl h)))
      · exact .inr (.inr (.inr (.inr (.inl h))))
  · intro h
    refine ⟨by decide, ?_⟩
    rcases h with h | h | h | h | h | h
    · exact .inr (.inr (.inr ⟨rfl, .inl h⟩))
    · exact .inr (.inr (.inr ⟨rfl, .inr (.inl h)⟩))
    · exact .inr (.inr (.inr ⟨rfl, .inr (.inr (.inl h))⟩))
    · exact .inr (.inr (.inr ⟨rfl, .inr (.inr (.inr (.inl h)))⟩))
    · exact .inr (.inr (.inr ⟨rfl, .inr (.inr (.inr (.inr h)))⟩))
    · exact .inl h
theorem zop_le (hL : zLog A C) {w : Int} (hw : 0 ≤ w ∧ w < 31) : 0 ≤ A 10 w ∧ A 10 w ≤ A (44 + 2 * (w % 3)) 1 := by
  by_cases e : w = 0
  · subst e
    have := hL.1.2.2.1
    have h2 := hL.1.1 (0 % 3) (by decide)
    omega
  · exact (hL.1.2.2.2 w (by omega)).1
theorem zVP_new (H : zAr A s 0 v a b) (hL : zLog A C) : zVD A s 0 v a b ↔ zVP (zent A s 0 v a b) s (A (44 + 2 * s) 1 + 1) := by
  obtain ⟨hA, hs, hkd, hv, ha, hb, hcn, h0⟩ := id H
  obtain ⟨e0, e1, e2, e3, -⟩ := zent_new H rfl
  have hi := zLf_gc (s := s) hL hs (w := v) hv.1
  have ho := zop_le hL hv
  have hq : v % 3 = s → A (44 + 2 * (v % 3)) 1 = A (44 + 2 * s) 1 := fun q => by rw [q]
  unfold zVP
  rw [e1, zLf_old H hs (by omega), hi, zent_op H, if_neg (fun q => absurd q.2.2.1 (by decide))]
  constructor
  · rintro ⟨-, h | ⟨-, h⟩ | h | h⟩
    · exact .inr (.inr h)
    · rcases h with h | h
      · exact .inl h
      · exact .inr (.inl ⟨h.1, .inl h.2⟩)
    · exact absurd h.1 (by decide)
    · exact absurd h.1 (by decide)
  · intro h
    refine ⟨by decide, ?_⟩
    rcases h with h | h | h
    · exact .inr (.inl ⟨rfl, .inl h⟩)
    · by_cases e : v % 3 = s
      · refine .inr (.inl ⟨rfl, .inr ⟨h.1, ?_⟩⟩)
        have := hq e
        omega
      · exact .inr (.inl ⟨rfl, .inl e⟩)
    · exact .inl h
theorem zVC_new (H : zAr A s 1 v a b) (hL : zLog A C) : zVD A s 1 v a b ↔ zVC (zent A s 1 v a b) (zmom C s (A (44 + 2 * s) 1 + 1)) s (A (44 + 2 * s) 1 + 1) := by
  obtain ⟨hA, hs, hkd, hv, ha, hb, hcn, h0⟩ := id H
  obtain ⟨hLI, m1, m2, m3, m4, m5⟩ := id hL
  obtain ⟨e0, e1, e2, e3, -⟩ := zent_new H rfl
  have hi := zLf_gc (s := s) hL hs (w := v) hv.1
  have ho := zop_le hL hv
  unfold zVC
  rw [e1, e2, zLf_old H hs (by omega), hi, zent_op H, if_neg (fun q => absurd q.2.2.1 (by decide))]
  by_cases e : v % 3 = s
  · exact ⟨fun _ => .inl (.inl e.symm), fun _ => ⟨by decide, .inr (.inr (.inl ⟨rfl, .inl e⟩))⟩⟩
  have hne : ¬ (v % 3 = s ∧ a = A (44 + 2 * s) 1 + 1) := fun q => e q.1
  rw [zent_cnt H (by omega), if_neg e, zent_old H (by omega) hne (j := 0) (by omega), zent_old H (by omega) hne (j := 1) (by omega), zent_old H (by omega) hne (j := 4) (by omega), zmom_at hs (by omega) hs (by omega), if_pos ⟨rfl, rfl⟩]
  have hl := hLI.1 (v % 3) (by omega)
  by_cases hx : 1 ≤ a ∧ a ≤ A (44 + 2 * (v % 3)) 1
  · have hm := m1 (v % 3) a (by omega) hx
    rw [zmom_at hs (by omega) (by omega) (by omega), if_neg hne]
    have hv0 : v = 0 → A 10 v = 0 := fun q => by rw [q]; exact hLI.2.2.1
    constructor
    · rintro ⟨-, h | h | ⟨-, h⟩ | h⟩
      · exact .inl (.inr (.inl h))
      · exact absurd h.1 (by decide)
      · rcases h with h | h
        · exact absurd h e
        · refine .inr ⟨fun q => h (.inr ⟨⟨hx, q.1, q.2.1⟩, q.2.2⟩), .inr (fun q => h (.inl ⟨by omega, q.symm⟩))⟩
      · exact absurd h.1 (by decide)
    · rintro (h | h)
      · rcases h with h | h | h | h
        · exact absurd h.symm e
        · exact ⟨by decide, .inl h⟩
        · exact absurd hx h
        · omega
      · refine ⟨by decide, .inr (.inr (.inl ⟨rfl, .inr ?_⟩))⟩
        rintro (q | q)
        · rcases h.2 with h2 | h2
          · have := hv0 h2; omega
          · exact h2 q.2.symm
        · exact h.1 ⟨q.1.2.1, q.1.2.2, q.2⟩
  · constructor
    · exact fun _ => .inl (.inr (.inr (.inl hx)))
    · intro _
      refine ⟨by decide, .inr (.inr (.inl ⟨rfl, .inr ?_⟩))⟩
      rintro (q | q)
      · exact hx ⟨by omega, by omega⟩
      · exact hx q.1.1
set_option maxHeartbeats 4000000 in
theorem zent_log (H : zAr A s kd v a b) (hL : zLog A C) (hr : kd = 0 → a < A 1 6) : zLog (zent A s kd v a b) (zmom C s (A (44 + 2 * s) 1 + 1)) := by
  obtain ⟨hA, hs, hkd, hv, ha, hb, hcn, h0⟩ := id H
  obtain ⟨hLI, m1, m2, m3, m4, m5⟩ := id hL
  obtain ⟨n0, n1, n2, n3, n4⟩ := zent_new H rfl
  have cn : ∀ c, 0 ≤ c ∧ c < 3 → ∀ k, 1 ≤ k ∧ k ≤ zent A s kd v a b (44 + 2 * c) 1 → (c = s ∧ k = A (44 + 2 * s) 1 + 1) ∨ (¬ (c = s ∧ k = A (44 + 2 * s) 1 + 1) ∧ (1 ≤ k ∧ k ≤ A (44 + 2 * c) 1)) := by
    intro c hc k hk
    rw [zent_cnt H hc] at hk
    by_cases e : c = s
    · subst e
      rw [if_pos rfl] at hk
      by_cases e2 : k = A (44 + 2 * c) 1 + 1
      · exact .inl ⟨rfl, e2⟩
      · exact .inr ⟨fun q => e2 q.2, hk.1, by omega⟩
    · rw [if_neg e] at hk
      exact .inr ⟨fun q => e q.1, hk⟩
  have r1 : zent A s kd v a b 1 = A 1 := zent_row H (by decide) (by decide) (by decide) (by decide) (by omega) (by decide) (by omega) (by omega)
  refine ⟨⟨fun c hc => ?_, fun c k hc hk => ?_, ?_, fun w hw => ?_⟩, fun c k hc hk => ?_, ?_, fun c w hc hw => ?_, fun c k hc hk hk0 => ?_, fun c k hc hk => ?_⟩
  · have := hLI.1 c hc
    rw [zent_cnt H hc]
    split
    · rename_i e; subst e; omega
    · exact this
  · rcases cn c hc k hk with ⟨e1, e2⟩ | ⟨e1, e2⟩
    · subst e1; subst e2
      refine ⟨?_, fun q => ?_, fun q => ?_, fun q => ?_, fun q => ?_⟩
      · unfold zMr
        rw [n0, n1, n2, n3]
        exact ⟨hkd, hv, ha, hb⟩
      · rw [n0] at q
        subst q
        rw [n4, ← zVN_new H hL]
        by_cases hV : zVD A c 3 v a b
        · rw [if_pos hV]; exact ⟨fun _ => hV, fun _ => by decide⟩
        · rw [if_neg hV]; exact ⟨fun q => absurd rfl q, fun q => absurd q hV⟩
      · rw [n0] at q
        subst q
        rw [n4, ← zVP_new H hL]
        by_cases hV : zVD A c 0 v a b
        · rw [if_pos hV]; exact ⟨fun _ => hV, fun _ => by decide⟩
        · rw [if_neg hV]; exact ⟨fun q => absurd rfl q, fun q => absurd q hV⟩
      · rw [n0] at q
        subst q
        rw [n4, ← zVC_new H hL]
        by_cases hV : zVD A c 1 v a b
        · rw [if_pos hV]; exact ⟨fun _ => hV, fun _ => by decide⟩
        · rw [if_neg hV]; exact ⟨fun q => absurd rfl q, fun q => absurd q hV⟩
      · rw [n0] at q
        rw [n4, if_neg (fun h => h.1 q)]
    · obtain ⟨q0, q3, qp, qc, q2⟩ := hLI.2.1 c k hc e2
      rw [zVN_old H hL hc e2, zVP_old H hL hc e2, zVC_old H hL hc e2, zent_old H hc e1 (j := 0) (by omega), zent_old H hc e1 (j := 4) (by omega)]
      refine ⟨?_, q3, qp, qc, q2⟩
      unfold zMr at q0 ⊢
      rw [zent_old H hc e1 (j := 0) (by omega), zent_old H hc e1 (j := 1) (by omega), zent_old H hc e1 (j := 2) (by omega), zent_old H hc e1 (j := 3) (by omega)]
      exact q0
  · rw [zent_op H, if_neg (fun q => (zOp_l q.2).2.1 q.1.symm)]
    exact hLI.2.2.1
  · obtain ⟨o1, o2, o3⟩ := hLI.2.2.2 w hw
    have hl := hLI.1 (w % 3) (by omega)
    unfold zOpn
    rw [zent_op H]
    by_cases e : w = v ∧ zOp A s kd v a b
    · rw [if_pos e]
      obtain ⟨p1, p2, -⟩ := zOp_l e.2
      obtain ⟨p3, p4, p5⟩ := e.2
      rw [← e.1] at p1 p5
      have ps : ∀ i, A (44 + 2 * (w % 3)) i = A (44 + 2 * s) i := fun i => by rw [p1]
      refine ⟨⟨by omega, ?_⟩, fun k hk hk2 => ?_, fun _ => ?_⟩
      · rw [zent_cnt H (by omega), if_pos p1]; omega
      · have hk3 : k ≤ A (44 + 2 * (w % 3)) 1 := by rw [ps]; omega
        have hne : ¬ (w % 3 = s ∧ k = A (44 + 2 * s) 1 + 1) := by omega
        rw [zent_old H (by omega) hne (j := 0) (by omega), zent_old H (by omega) hne (j := 1) (by omega), zent_old H (by omega) hne (j := 4) (by omega)]
        exact o2 k ⟨hk.1, hk3⟩ (.inl p5)
      · rw [p1, n0, n1, n4, if_neg p3]
        exact ⟨p4, e.1.symm, rfl⟩
    · rw [if_neg e]
      refine ⟨⟨o1.1, by have := zent_le H (c := w % 3) (by omega); omega⟩, fun k hk hk2 => ?_, fun h => ?_⟩
      · rcases cn (w % 3) (by omega) k hk with ⟨e1, e2⟩ | ⟨e1, e2⟩
        · rw [e1, e2, n0, n1, n4]
          rintro ⟨q1, q2, q3⟩
          have hV : ¬ zVD A s kd v a b := fun q => by rw [if_pos q] at q3; omega
          have : A 10 w = 0 := by
            rcases hk2 with q | q
            · exact q
            · rw [e1] at o1; omega
          exact e ⟨q2.symm, hV, q1, by rw [q2]; exact this⟩
        · rw [zent_old H (by omega) e1 (j := 0) (by omega), zent_old H (by omega) e1 (j := 1) (by omega), zent_old H (by omega) e1 (j := 4) (by omega)]
          exact o2 k e2 hk2
      · have e1 : ¬ (w % 3 = s ∧ A 10 w = A (44 + 2 * s) 1 + 1) := by
          rintro ⟨q1, q2⟩
          rw [q1] at o1
          omega
        rw [zent_old H (by omega) e1 (j := 0) (by omega), zent_old H (by omega) e1 (j := 1) (by omega), zent_old H (by omega) e1 (j := 4) (by omega)]
        exact o3 h
  · have hcc := hLI.1 c hc
    rw [zmom_15]
    rcases cn c hc k hk with ⟨e1, e2⟩ | ⟨e1, e2⟩
    · subst e1; subst e2
      rw [zmom_at hs (by omega) hs (by omega), if_pos ⟨rfl, rfl⟩]
      have h1 := hLI.1 0 (by decide)
      have h2 := hLI.1 1 (by decide)
      have h3 := hLI.1 2 (by decide)
      simp only [Int.reduceMul, Int.reduceAdd] at h1 h2 h3
      omega
    · rw [zmom_at hs (by omega) hc (by omega), if_neg e1]
      have := m1 c k hc e2
      omega
  · rw [zmom_15]
    have h1 := zent_cnt H (c := 0) (by decide)
    have h2 := zent_cnt H (c := 1) (by decide)
    have h3 := zent_cnt H (c := 2) (by decide)
    simp only [Int.reduceMul, Int.reduceAdd] at h1 h2 h3
    rw [h1, h2, h3]
    have : s = 0 ∨ s = 1 ∨ s = 2 := by omega
    rcases this with rfl | rfl | rfl
    · simp only [Int.reduceMul, Int.reduceAdd] at *; simp; omega
    · simp only [Int.reduceMul, Int.reduceAdd] at *; simp; omega
    · simp only [Int.reduceMul, Int.reduceAdd] at *; simp; omega
  · by_cases e : c = s
    · subst e
      have hm := m3 c w hc hw
      rw [zent_g2 H, zent_cnt H hc, if_pos rfl, zex_S (by omega), Bool.or_eq_true, show A (44 + 2 * c) 1 + 1 - 1 = A (44 + 2 * c) 1 by omega]
      have h1 : zex (zHL (zent A c kd v a b) c w) (A (44 + 2 * c) 1) = true ↔ zex (zHL A c w) (A (44 + 2 * c) 1) = true := by
        have := zLf_old H (c := c) (w := w) hc (k := A (44 + 2 * c) 1 + 1) (by omega)
        unfold zLf at this
        rw [show A (44 + 2 * c) 1 + 1 - 1 = A (44 + 2 * c) 1 by omega] at this
        exact this
      have h2 : zHL (zent A c kd v a b) c w (A (44 + 2 * c) 1 + 1) = true ↔ kd = 2 ∧ w < v := by
        unfold zHL
        rw [decide_eq_true_iff, n0, n1]
      rw [h1, h2, ← hm]
      split
      · rename_i q
        constructor
        · intro h
          by_cases h3 : w < A (44 + 2 * c) 2
          · exact .inl h3
          · exact .inr ⟨q, by omega⟩
        · rintro (h | h) <;> omega
      · rename_i q
        exact ⟨.inl, fun h => h.elim id (fun h => absurd h.1 q)⟩
    · have hm := m3 c w hc hw
      rw [(zent_oth H hc e).1, hm]
      unfold zHL
      rw [(zent_oth H hc e).2]
  · rw [r1]
    rcases cn c hc k hk with ⟨e1, e2⟩ | ⟨e1, e2⟩
    · subst e1; subst e2
      rw [n0] at hk0
      rw [n2]
      exact hr hk0
    · rw [zent_old H hc e1 (j := 0) (by omega)] at hk0
      rw [zent_old H hc e1 (j := 2) (by omega)]
      exact m4 c k hc e2 hk0
  · rcases cn c hc k hk with ⟨e1, e2⟩ | ⟨e1, e2⟩
    · subst e1; subst e2
      rw [n4]
      split
      · exact .inr rfl
      · exact .inl rfl
    · rw [zent_old H hc e1 (j := 4) (by omega)]
      exact m5 c k hc e2
end ZLG
