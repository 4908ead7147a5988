/-! CHANGES that are read, in class and reference -/
section ZNT
variable {A C : ZM} {t p k w : Int}
theorem zch_row {c : Int} (h1 : c ≠ 107) (h2 : c ≠ 142) (h3 : c ≠ 143) : zch C t p k w c = C c := by
  unfold zch
  split
  · rw [zup_row h3, zup_row h2, zup_row h1]
  · rfl
theorem zch_107 {j : Int} (h : j ≠ 40) : zch C t p k w 107 j = C 107 j := by
  unfold zch
  split
  · rw [zup_row (by decide), zup_row (by decide), zup_ne (fun z => h z.2)]
  · rfl
theorem zch_o (h : C 142 ((t * 31 + w) * 3 + p) = 0) : (∀ i, zch C t p k w 142 i = if i = (t * 31 + w) * 3 + p then C 107 40 + 1 else C 142 i) ∧ (∀ i, zch C t p k w 143 i = if i = (t * 31 + w) * 3 + p then k else C 143 i) ∧ zch C t p k w 107 40 = C 107 40 + 1 := by
  unfold zch
  rw [if_pos h]
  refine ⟨fun i => ?_, fun i => ?_, ?_⟩
  · rw [zup_row (by decide)]
    by_cases q : i = (t * 31 + w) * 3 + p
    · rw [if_pos q, zup_eq ⟨rfl, q⟩]
    · rw [if_neg q, zup_ne (fun z => q z.2), zup_row (by decide)]
  · by_cases q : i = (t * 31 + w) * 3 + p
    · rw [if_pos q, zup_eq ⟨rfl, q⟩]
    · rw [if_neg q, zup_ne (fun z => q z.2), zup_row (by decide), zup_row (by decide)]
  · rw [zup_row (by decide), zup_row (by decide), zup_eq ⟨rfl, rfl⟩]
theorem zch_n (h : ¬ C 142 ((t * 31 + w) * 3 + p) = 0) : zch C t p k w = C := if_neg h
/-- numbers of three CHANGES, and when they were read -/
def zNm (f g a0 a1 a2 b0 b1 b2 : Int) : Prop := (f = 0 ∧ g = 0 ∧ a0 = 0 ∧ a1 = 0 ∧ a2 = 0) ∨ (f ≠ 0 ∧ g = 0 ∧ ((f % 3 = 0 ∧ 0 < a0 ∧ a1 = 0 ∧ a2 = 0 ∧ b0 = f / 3) ∨ (f % 3 = 1 ∧ 0 < a1 ∧ a0 = 0 ∧ a2 = 0 ∧ b1 = f / 3) ∨ (f % 3 = 2 ∧ 0 < a2 ∧ a0 = 0 ∧ a1 = 0 ∧ b2 = f / 3))) ∨ (f ≠ 0 ∧ g ≠ 0 ∧ ((f % 3 = 0 ∧ g % 3 = 1 ∧ 0 < a0 ∧ a0 < a1 ∧ (a2 = 0 ∨ a1 < a2) ∧ b0 = f / 3 ∧ b1 = g / 3) ∨ (f % 3 = 0 ∧ g % 3 = 2 ∧ 0 < a0 ∧ a0 < a2 ∧ (a1 = 0 ∨ a2 < a1) ∧ b0 = f / 3 ∧ b2 = g / 3) ∨ (f % 3 = 1 ∧ g % 3 = 0 ∧ 0 < a1 ∧ a1 < a0 ∧ (a2 = 0 ∨ a0 < a2) ∧ b1 = f / 3 ∧ b0 = g / 3) ∨ (f % 3 = 1 ∧ g % 3 = 2 ∧ 0 < a1 ∧ a1 < a2 ∧ (a0 = 0 ∨ a2 < a0) ∧ b1 = f / 3 ∧ b2 = g / 3) ∨ (f % 3 = 2 ∧ g % 3 = 0 ∧ 0 < a2 ∧ a2 < a0 ∧ (a1 = 0 ∨ a0 < a1) ∧ b2 = f / 3 ∧ b0 = g / 3) ∨ (f % 3 = 2 ∧ g % 3 = 1 ∧ 0 < a2 ∧ a2 < a1 ∧ (a0 = 0 ∨ a1 < a0) ∧ b2 = f / 3 ∧ b1 = g / 3)))
theorem zCq_nm {f g : Int} : zCq C t w f g ↔ zNm f g (C 142 ((t * 31 + w) * 3 + 0)) (C 142 ((t * 31 + w) * 3 + 1)) (C 142 ((t * 31 + w) * 3 + 2)) (C 143 ((t * 31 + w) * 3 + 0)) (C 143 ((t * 31 + w) * 3 + 1)) (C 143 ((t * 31 + w) * 3 + 2)) := by
  constructor
  · rintro ⟨h1, h2⟩
    rcases h1 with h1 | ⟨hf, hg, h1 | h1 | h1⟩ | ⟨hf, hg, h1 | h1 | h1 | h1 | h1 | h1⟩
    · exact .inl h1
    · obtain ⟨e, q1, q2, q3⟩ := h1
      have q := h2 hf
      rw [e] at q
      exact .inr (.inl ⟨hf, hg, .inl ⟨e, q1, q2, q3, q⟩⟩)
    · obtain ⟨e, q1, q2, q3⟩ := h1
      have q := h2 hf
      rw [e] at q
      exact .inr (.inl ⟨hf, hg, .inr (.inl ⟨e, q1, q2, q3, q⟩)⟩)
    · obtain ⟨e, q1, q2, q3⟩ := h1
      have q := h2 hf
      rw [e] at q
      exact .inr (.inl ⟨hf, hg, .inr (.inr (⟨e, q1, q2, q3, q⟩))⟩)
    · exact .inr (.inr ⟨hf, hg, .inl h1⟩)
    · exact .inr (.inr ⟨hf, hg, .inr (.inl h1)⟩)
    · exact .inr (.inr ⟨hf, hg, .inr (.inr (.inl h1))⟩)
    · exact .inr (.inr ⟨hf, hg, .inr (.inr (.inr (.inl h1)))⟩)
    · exact .inr (.inr ⟨hf, hg, .inr (.inr (.inr (.inr (.inl h1))))⟩)
    · exact .inr (.inr ⟨hf, hg, .inr (.inr (.inr (.inr (.inr (h1)))))⟩)
  · intro h1
    rcases h1 with h1 | ⟨hf, hg, h1 | h1 | h1⟩ | ⟨hf, hg, h1 | h1 | h1 | h1 | h1 | h1⟩
    · exact ⟨.inl h1, fun q => absurd h1.1 q⟩
    · obtain ⟨e, q1, q2, q3, q⟩ := h1
      exact ⟨.inr (.inl ⟨hf, hg, .inl ⟨e, q1, q2, q3⟩⟩), fun _ => by rw [e]; exact q⟩
    · obtain ⟨e, q1, q2, q3, q⟩ := h1
      exact ⟨.inr (.inl ⟨hf, hg, .inr (.inl ⟨e, q1, q2, q3⟩)⟩), fun _ => by rw [e]; exact q⟩
    · obtain ⟨e, q1, q2, q3, q⟩ := h1
      exact ⟨.inr (.inl ⟨hf, hg, .inr (.inr (⟨e, q1, q2, q3⟩))⟩), fun _ => by rw [e]; exact q⟩
    · exact ⟨.inr (.inr ⟨hf, hg, .inl h1⟩), fun _ => by rw [h1.1]; exact h1.2.2.2.2.2.1⟩
    · exact ⟨.inr (.inr ⟨hf, hg, .inr (.inl h1)⟩), fun _ => by rw [h1.1]; exact h1.2.2.2.2.2.1⟩
    · exact ⟨.inr (.inr ⟨hf, hg, .inr (.inr (.inl h1))⟩), fun _ => by rw [h1.1]; exact h1.2.2.2.2.2.1⟩
    · exact ⟨.inr (.inr ⟨hf, hg, .inr (.inr (.inr (.inl h1)))⟩), fun _ => by rw [h1.1]; exact h1.2.2.2.2.2.1⟩
    · exact ⟨.inr (.inr ⟨hf, hg, .inr (.inr (.inr (.inr (.inl h1))))⟩), fun _ => by rw [h1.1]; exact h1.2.2.2.2.2.1⟩
    · exact ⟨.inr (.inr ⟨hf, hg, .inr (.inr (.inr (.inr (.inr (h1)))))⟩), fun _ => by rw [h1.1]; exact h1.2.2.2.2.2.1⟩
/-- what a CHANGE does to the two -/
def zno (f g q : Int) : Int × Int := if f = 0 then (q, g) else if g = 0 ∧ f % 3 ≠ q % 3 then (f, q) else (f, g)
theorem znm_0 {f g a0 a1 a2 b0 b1 b2 R : Int} (h : zNm f g a0 a1 a2 b0 b1 b2) (h0 : 0 ≤ a0 ∧ a0 ≤ R) (h1 : 0 ≤ a1 ∧ a1 ≤ R) (h2 : 0 ≤ a2 ∧ a2 ≤ R) (hk : 1 ≤ k) : zNm (zno f g (k * 3 + 0)).1 (zno f g (k * 3 + 0)).2 (if a0 = 0 then R + 1 else a0) a1 a2 (if a0 = 0 then k else b0) b1 b2 := by
  have m : (k * 3 + 0) % 3 = 0 ∧ (k * 3 + 0) / 3 = k ∧ k * 3 + 0 ≠ 0 := by omega
  rcases h with ⟨hf, hg, q0, q1, q2⟩ | ⟨hf, hg, h | h | h⟩ | ⟨hf, hg, h | h | h | h | h | h⟩
  · have ez : zno f g (k * 3 + 0) = (k * 3 + 0, g) := if_pos hf
    rw [ez, if_pos q0, if_pos q0]
    exact .inr (.inl ⟨m.2.2, hg, .inl ⟨m.1, by omega, q1, q2, m.2.1.symm⟩⟩)
  · obtain ⟨e, z1, z2, z3, z4⟩ := h
    have ez : zno f g (k * 3 + 0) = (f, g) := by unfold zno; rw [if_neg hf, if_neg (fun z => z.2 (by rw [e, m.1]))]
    rw [ez, if_neg (by omega), if_neg (by omega)]
    exact .inr (.inl ⟨hf, hg, .inl ⟨e, z1, z2, z3, z4⟩⟩)
  · obtain ⟨e, z1, z2, z3, z4⟩ := h
    have ez : zno f g (k * 3 + 0) = (f, k * 3 + 0) := by unfold zno; rw [if_neg hf, if_pos ⟨hg, by rw [e, m.1]; decide⟩]
    rw [ez, if_pos z2, if_pos z2]
    exact .inr (.inr ⟨hf, m.2.2, .inr (.inr (.inl ⟨e, m.1, z1, by omega, .inl z3, z4, m.2.1.symm⟩))⟩)
  · obtain ⟨e, z1, z2, z3, z4⟩ := h
    have ez : zno f g (k * 3 + 0) = (f, k * 3 + 0) := by unfold zno; rw [if_neg hf, if_pos ⟨hg, by rw [e, m.1]; decide⟩]
    rw [ez, if_pos z2, if_pos z2]
    exact .inr (.inr ⟨hf, m.2.2, .inr (.inr (.inr (.inr (.inl ⟨e, m.1, z1, by omega, .inl z3, z4, m.2.1.symm⟩))))⟩)
  · obtain ⟨e1, e2, z1, z2, z3, z4, z5⟩ := h
    have ez : zno f g (k * 3 + 0) = (f, g) := by unfold zno; rw [if_neg hf, if_neg (fun z => hg z.1)]
    rw [ez]
    rw [if_neg (by omega), if_neg (by omega)]
    exact .inr (.inr ⟨hf, hg, .inl ⟨e1, e2, z1, z2, z3, z4, z5⟩⟩)
  · obtain ⟨e1, e2, z1, z2, z3, z4, z5⟩ := h
    have ez : zno f g (k * 3 + 0) = (f, g) := by unfold zno; rw [if_neg hf, if_neg (fun z => hg z.1)]
    rw [ez]
    rw [if_neg (by omega), if_neg (by omega)]
    exact .inr (.inr ⟨hf, hg, .inr (.inl ⟨e1, e2, z1, z2, z3, z4, z5⟩)⟩)
  · obtain ⟨e1, e2, z1, z2, z3, z4, z5⟩ := h
    have ez : zno f g (k * 3 + 0) = (f, g) := by unfold zno; rw [if_neg hf, if_neg (fun z => hg z.1)]
    rw [ez]
    rw [if_neg (by omega), if_neg (by omega)]
    exact .inr (.inr ⟨hf, hg, .inr (.inr (.inl ⟨e1, e2, z1, z2, z3, z4, z5⟩))⟩)
  · obtain ⟨e1, e2, z1, z2, z3, z4, z5⟩ := h
    have ez : zno f g (k * 3 + 0) = (f, g) := by unfold zno; rw [if_neg hf, if_neg (fun z => hg z.1)]
    rw [ez]
    by_cases e : a0 = 0
    · rw [if_pos e, if_pos e]
      exact .inr (.inr ⟨hf, hg, .inr (.inr (.inr (.inl ⟨e1, e2, z1, z2, .inr (by omega), z4, z5⟩)))⟩)
    · rw [if_neg e, if_neg e]
      exact .inr (.inr ⟨hf, hg, .inr (.inr (.inr (.inl ⟨e1, e2, z1, z2, z3, z4, z5⟩)))⟩)
  · obtain ⟨e1, e2, z1, z2, z3, z4, z5⟩ := h
    have ez : zno f g (k * 3 + 0) = (f, g) := by unfold zno; rw [if_neg hf, if_neg (fun z => hg z.1)]
    rw [ez]
    rw [if_neg (by omega), if_neg (by omega)]
    exact .inr (.inr ⟨hf, hg, .inr (.inr (.inr (.inr (.inl ⟨e1, e2, z1, z2, z3, z4, z5⟩))))⟩)
  · obtain ⟨e1, e2, z1, z2, z3, z4, z5⟩ := h
    have ez : zno f g (k * 3 + 0) = (f, g) := by unfold zno; rw [if_neg hf, if_neg (fun z => hg z.1)]
    rw [ez]
    by_cases e : a0 = 0
    · rw [if_pos e, if_pos e]
      exact .inr (.inr ⟨hf, hg, .inr (.inr (.inr (.inr (.inr (⟨e1, e2, z1, z2, .inr (by omega), z4, z5⟩)))))⟩)
    · rw [if_neg e, if_neg e]
      exact .inr (.inr ⟨hf, hg, .inr (.inr (.inr (.inr (.inr (⟨e1, e2, z1, z2, z3, z4, z5⟩)))))⟩)
theorem znm_1 {f g a0 a1 a2 b0 b1 b2 R : Int} (h : zNm f g a0 a1 a2 b0 b1 b2) (h0 : 0 ≤ a0 ∧ a0 ≤ R) (h1 : 0 ≤ a1 ∧ a1 ≤ R) (h2 : 0 ≤ a2 ∧ a2 ≤ R) (hk : 1 ≤ k) : zNm (zno f g (k * 3 + 1)).1 (zno f g (k * 3 + 1)).2 a0 (if a1 = 0 then R + 1 else a1) a2 b0 (if a1 = 0 then k else b1) b2 := by
  have m : (k * 3 + 1) % 3 = 1 ∧ (k * 3 + 1) / 3 = k ∧ k * 3 + 1 ≠ 0 := by omega
  rcases h with ⟨hf, hg, q0, q1, q2⟩ | ⟨hf, hg, h | h | h⟩ | ⟨hf, hg, h | h | h | h | h | h⟩
  · have ez : zno f g (k * 3 + 1) = (k * 3 + 1, g) := if_pos hf
    rw [ez, if_pos q1, if_pos q1]
    exact .inr (.inl ⟨m.2.2, hg, .inr (.inl ⟨m.1, by omega, q0, q2, m.2.1.symm⟩)⟩)
  · obtain ⟨e, z1, z2, z3, z4⟩ := h
    have ez : zno f g (k * 3 + 1) = (f, k * 3 + 1) := by unfold zno; rw [if_neg hf, if_pos ⟨hg, by rw [e, m.1]; decide⟩]
    rw [ez, if_pos z2, if_pos z2]
    exact .inr (.inr ⟨hf, m.2.2, .inl ⟨e, m.1, z1, by omega, .inl z3, z4, m.2.1.symm⟩⟩)
  · obtain ⟨e, z1, z2, z3, z4⟩ := h
    have ez : zno f g (k * 3 + 1) = (f, g) := by unfold zno; rw [if_neg hf, if_neg (fun z => z.2 (by rw [e, m.1]))]
    rw [ez, if_neg (by omega), if_neg (by omega)]
    exact .inr (.inl ⟨hf, hg, .inr (.inl ⟨e, z1, z2, z3, z4⟩)⟩)
  · obtain ⟨e, z1, z2, z3, z4⟩ := h
    have ez : zno f g (k * 3 + 1) = (f, k * 3 + 1) := by unfold zno; rw [if_neg hf, if_pos ⟨hg, by rw [e, m.1]; decide⟩]
    rw [ez, if_pos z3, if_pos z3]
    exact .inr (.inr ⟨hf, m.2.2, .inr (.inr (.inr (.inr (.inr (⟨e, m.1, z1, by omega, .inl z2, z4, m.2.1.symm⟩)))))⟩)
  · obtain ⟨e1, e2, z1, z2, z3, z4, z5⟩ := h
    have ez : zno f g (k * 3 + 1) = (f, g) := by unfold zno; rw [if_neg hf, if_neg (fun z => hg z.1)]
    rw [ez]
    rw [if_neg (by omega), if_neg (by omega)]
    exact .inr (.inr ⟨hf, hg, .inl ⟨e1, e2, z1, z2, z3, z4, z5⟩⟩)
  · obtain ⟨e1, e2, z1, z2, z3, z4, z5⟩ := h
    have ez : zno f g (k * 3 + 1) = (f, g) := by unfold zno; rw [if_neg hf, if_neg (fun z => hg z.1)]
    rw [ez]
    by_cases e : a1 = 0
    · rw [if_pos e, if_pos e]
      exact .inr (.inr ⟨hf, hg, .inr (.inl ⟨e1, e2, z1, z2, .inr (by omega), z4, z5⟩)⟩)
    · rw [if_neg e, if_neg e]
      exact .inr (.inr ⟨hf, hg, .inr (.inl ⟨e1, e2, z1, z2, z3, z4, z5⟩)⟩)
  · obtain ⟨e1, e2, z1, z2, z3, z4, z5⟩ := h
    have ez : zno f g (k * 3 + 1) = (f, g) := by unfold zno; rw [if_neg hf, if_neg (fun z => hg z.1)]
    rw [ez]
    rw [if_neg (by omega), if_neg (by omega)]
    exact .inr (.inr ⟨hf, hg, .inr (.inr (.inl ⟨e1, e2, z1, z2, z3, z4, z5⟩))⟩)
  · obtain ⟨e1, e2, z1, z2, z3, z4, z5⟩ := h
    have ez : zno f g (k * 3 + 1) = (f, g) := by unfold zno; rw [if_neg hf, if_neg (fun z => hg z.1)]
    rw [ez]
    rw [if_neg (by omega), if_neg (by omega)]
    exact .inr (.inr ⟨hf, hg, .inr (.inr (.inr (.inl ⟨e1, e2, z1, z2, z3, z4, z5⟩)))⟩)
  · obtain ⟨e1, e2, z1, z2, z3, z4, z5⟩ := h
    have ez : zno f g (k * 3 + 1) = (f, g) := by unfold zno; rw [if_neg hf, if_neg (fun z => hg z.1)]
    rw [ez]
    by_cases e : a1 = 0
    · rw [if_pos e, if_pos e]
      exact .inr (.inr ⟨hf, hg, .inr (.inr (.inr (.inr (.inl ⟨e1, e2, z1, z2, .inr (by omega), z4, z5⟩))))⟩)
    · rw [if_neg e, if_neg e]
      exact .inr (.inr ⟨hf, hg, .inr (.inr (.inr (.inr (.inl ⟨e1, e2, z1, z2, z3, z4, z5⟩))))⟩)
  · obtain ⟨e1, e2, z1, z2, z3, z4, z5⟩ := h
    have ez : zno f g (k * 3 + 1) = (f, g) := by unfold zno; rw [if_neg hf, if_neg (fun z => hg z.1)]
    rw [ez]
    rw [if_neg (by omega), if_neg (by omega)]
    exact .inr (.inr ⟨hf, hg, .inr (.inr (.inr (.inr (.inr (⟨e1, e2, z1, z2, z3, z4, z5⟩)))))⟩)
theorem znm_2 {f g a0 a1 a2 b0 b1 b2 R : Int} (h : zNm f g a0 a1 a2 b0 b1 b2) (h0 : 0 ≤ a0 ∧ a0 ≤ R) (h1 : 0 ≤ a1 ∧ a1 ≤ R) (h2 : 0 ≤ a2 ∧ a2 ≤ R) (hk : 1 ≤ k) : zNm (zno f g (k * 3 + 2)).1 (zno f g (k * 3 + 2)).2 a0 a1 (if a2 = 0 then R + 1 else a2) b0 b1 (if a2 = 0 then k else b2) := by
  have m : (k * 3 + 2) % 3 = 2 ∧ (k * 3 + 2) / 3 = k ∧ k * 3 + 2 ≠ 0 := by omega
  rcases h with ⟨hf, hg, q0, q1, q2⟩ | ⟨hf, hg, h | h | h⟩ | ⟨hf, hg, h | h | h | h | h | h⟩
  · have ez : zno f g (k * 3 + 2) = (k * 3 + 2, g) := if_pos hf
    rw [ez, if_pos q2, if_pos q2]
    exact .inr (.inl ⟨m.2.2, hg, .inr (.inr (⟨m.1, by omega, q0, q1, m.2.1.symm⟩))⟩)
  · obtain ⟨e, z1, z2, z3, z4⟩ := h
    have ez : zno f g (k * 3 + 2) = (f, k * 3 + 2) := by unfold zno; rw [if_neg hf, if_pos ⟨hg, by rw [e, m.1]; decide⟩]
    rw [ez, if_pos z3, if_pos z3]
    exact .inr (.inr ⟨hf, m.2.2, .inr (.inl ⟨e, m.1, z1, by omega, .inl z2, z4, m.2.1.symm⟩)⟩)
  · obtain ⟨e, z1, z2, z3, z4⟩ := h
    have ez : zno f g (k * 3 + 2) = (f, k * 3 + 2) := by unfold zno; rw [if_neg hf, if_pos ⟨hg, by rw [e, m.1]; decide⟩]
    rw [ez, if_pos z3, if_pos z3]
    exact .inr (.inr ⟨hf, m.2.2, .inr (.inr (.inr (.inl ⟨e, m.1, z1, by omega, .inl z2, z4, m.2.1.symm⟩)))⟩)
  · obtain ⟨e, z1, z2, z3, z4⟩ := h
    have ez : zno f g (k * 3 + 2) = (f, g) := by unfold zno; rw [if_neg hf, if_neg (fun z => z.2 (by rw [e, m.1]))]
    rw [ez, if_neg (by omega), if_neg (by omega)]
    exact .inr (.inl ⟨hf, hg, .inr (.inr (⟨e, z1, z2, z3, z4⟩))⟩)
  · obtain ⟨e1, e2, z1, z2, z3, z4, z5⟩ := h
    have ez : zno f g (k * 3 + 2) = (f, g) := by unfold zno; rw [if_neg hf, if_neg (fun z => hg z.1)]
    rw [ez]
    by_cases e : a2 = 0
    · rw [if_pos e, if_pos e]
      exact .inr (.inr ⟨hf, hg, .inl ⟨e1, e2, z1, z2, .inr (by omega), z4, z5⟩⟩)
    · rw [if_neg e, if_neg e]
      exact .inr (.inr ⟨hf, hg, .inl ⟨e1, e2, z1, z2, z3, z4, z5⟩⟩)
  · obtain ⟨e1, e2, z1, z2, z3, z4, z5⟩ := h
    have ez : zno f g (k * 3 + 2) = (f, g) := by unfold zno; rw [if_neg hf, if_neg (fun z => hg z.1)]
    rw [ez]
    rw [if_neg (by omega), if_neg (by omega)]
    exact .inr (.inr ⟨hf, hg, .inr (.inl ⟨e1, e2, z1, z2, z3, z4, z5⟩)⟩)
  · obtain ⟨e1, e2, z1, z2, z3, z4, z5⟩ := h
    have ez : zno f g (k * 3 + 2) = (f, g) := by unfold zno; rw [if_neg hf, if_neg (fun z => hg z.1)]
    rw [ez]
    by_cases e : a2 = 0
    · rw [if_pos e, if_pos e]
      exact .inr (.inr ⟨hf, hg, .inr (.inr (.inl ⟨e1, e2, z1, z2, .inr (by omega), z4, z5⟩))⟩)
    · rw [if_neg e, if_neg e]
      exact .inr (.inr ⟨hf, hg, .inr (.inr (.inl ⟨e1, e2, z1, z2, z3, z4, z5⟩))⟩)
  · obtain ⟨e1, e2, z1, z2, z3, z4, z5⟩ := h
    have ez : zno f g (k * 3 + 2) = (f, g) := by unfold zno; rw [if_neg hf, if_neg (fun z => hg z.1)]
    rw [ez]
    rw [if_neg (by omega), if_neg (by omega)]
    exact .inr (.inr ⟨hf, hg, .inr (.inr (.inr (.inl ⟨e1, e2, z1, z2, z3, z4, z5⟩)))⟩)
  · obtain ⟨e1, e2, z1, z2, z3, z4, z5⟩ := h
    have ez : zno f g (k * 3 + 2) = (f, g) := by unfold zno; rw [if_neg hf, if_neg (fun z => hg z.1)]
    rw [ez]
    rw [if_neg (by omega), if_neg (by omega)]
    exact .inr (.inr ⟨hf, hg, .inr (.inr (.inr (.inr (.inl ⟨e1, e2, z1, z2, z3, z4, z5⟩))))⟩)
  · obtain ⟨e1, e2, z1, z2, z3, z4, z5⟩ := h
    have ez : zno f g (k * 3 + 2) = (f, g) := by unfold zno; rw [if_neg hf, if_neg (fun z => hg z.1)]
    rw [ez]
    rw [if_neg (by omega), if_neg (by omega)]
    exact .inr (.inr ⟨hf, hg, .inr (.inr (.inr (.inr (.inr (⟨e1, e2, z1, z2, z3, z4, z5⟩)))))⟩)
end ZNT
