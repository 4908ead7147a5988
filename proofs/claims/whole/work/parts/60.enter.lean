/-! what entering a message changes -/
def zcn (p : Int → Bool) : Nat → Int
  | 0 => 0
  | n + 1 => zcn p n + (if p ((n : Int) + 1) = true then 1 else 0)
theorem zcn_le {p q : Int → Bool} : ∀ n : Nat, (∀ k : Int, 1 ≤ k → k ≤ n → p k = true → q k = true) → zcn p n ≤ zcn q n
  | 0, _ => Int.le_refl 0
  | n + 1, h => by
    have ih := zcn_le (p := p) (q := q) n (fun k h1 h2 h3 => h k h1 (by omega) h3)
    have h1 := h ((n : Int) + 1) (by omega) (by omega)
    unfold zcn
    by_cases hp : p ((n : Int) + 1) = true
    · rw [if_pos hp, if_pos (h1 hp)]; omega
    · rw [if_neg hp]; split <;> omega
theorem zcn_eq {p q : Int → Bool} (n : Nat) (h : ∀ k : Int, 1 ≤ k → k ≤ n → p k = q k) : zcn p n = zcn q n :=
  Int.le_antisymm (zcn_le n (fun k h1 h2 h3 => by rw [← h k h1 h2]; exact h3)) (zcn_le n (fun k h1 h2 h3 => by rw [h k h1 h2]; exact h3))
theorem zcn_rg {p : Int → Bool} : ∀ n : Nat, 0 ≤ zcn p n ∧ zcn p n ≤ n
  | 0 => ⟨Int.le_refl 0, Int.le_refl 0⟩
  | n + 1 => by
    have ih := zcn_rg (p := p) n
    unfold zcn
    split <;> omega
theorem zcn_mono {p : Int → Bool} : ∀ m n : Nat, m ≤ n → zcn p m ≤ zcn p n
  | m, 0, h => by rw [show m = 0 by omega]; exact Int.le_refl _
  | m, n + 1, h => by
    by_cases e : m = n + 1
    · rw [e]; exact Int.le_refl _
    · have ih := zcn_mono (p := p) m n (by omega)
      show zcn p m ≤ zcn p n + _
      split <;> omega
theorem zcn_or {p q r : Int → Bool} : ∀ n : Nat, (∀ k : Int, 1 ≤ k → k ≤ n → (p k = true → r k = true ∧ ¬ q k = true) ∧ (q k = true → r k = true)) → zcn p n + zcn q n ≤ zcn r n
  | 0, _ => Int.le_refl 0
  | n + 1, h => by
    have ih := zcn_or (p := p) (q := q) (r := r) n (fun k h1 h2 => h k h1 (by omega))
    obtain ⟨h1, h2⟩ := h ((n : Int) + 1) (by omega) (by omega)
    unfold zcn
    by_cases hp : p ((n : Int) + 1) = true
    · rw [if_pos hp, if_pos (h1 hp).1, if_neg (h1 hp).2]; omega
    · rw [if_neg hp]
      by_cases hq : q ((n : Int) + 1) = true
      · rw [if_pos hq, if_pos (h2 hq)]; omega
      · rw [if_neg hq]; split <;> omega
/-- PREPARES of a view among a server's first n messages -/
def zPC (A : ZM) (s v n : Int) : Int := zcn (fun k => decide (A (45 + 2 * s) (k * 5 + 0) = 0 ∧ A (45 + 2 * s) (k * 5 + 1) = v)) n.toNat
/-- PREPARES of lower views, of one and of all -/
def zNs (A : ZM) (s w : Int) : Int := zcn (fun k => decide (A (45 + 2 * s) (k * 5 + 0) = 0 ∧ A (45 + 2 * s) (k * 5 + 1) < w)) (A (44 + 2 * s) 1).toNat
def zNP (A : ZM) (w : Int) : Int := zNs A 0 w + zNs A 1 w + zNs A 2 w
theorem zmrM_row {A : ZM} {bs a b c : Int} (hA : zRg A) (h : c ≠ 43) : zmrM A bs a b c = A c := (zmko_mkf (zmko_mkf (zmko_clm (A := A) ⟨hA, fun _ _ => rfl⟩))).2 c h
theorem zmr_row {A : ZM} {v a b c : Int} (hA : zRg A) (h1 : c ≠ 43) (h2 : c ≠ -1) (h3 : c ≠ -2) (h4 : c ≠ 11) (h5 : c ≠ 144 + A (-2) 0) : zmr A v a b c = A c := by
  unfold zmr
  try dsimp only
  rw [zup_row h4, zrb_row (by rw [zmrM_row hA (by decide)]; exact h5), znew_row (by rw [zmrM_row hA (by decide)]; exact h5) h2 h3, zmrM_row hA h1]
theorem zadd_msg {A : ZM} {s kd v a b o j : Int} : zadd A s kd v a b o (45 + 2 * s) j = if j = (A (44 + 2 * s) 1 + 1) * 5 + 4 then (if o = 0 then 0 else 1) else if j = (A (44 + 2 * s) 1 + 1) * 5 + 3 then b else if j = (A (44 + 2 * s) 1 + 1) * 5 + 2 then a else if j = (A (44 + 2 * s) 1 + 1) * 5 + 1 then v else if j = (A (44 + 2 * s) 1 + 1) * 5 + 0 then kd else A (45 + 2 * s) j := by
  have h : zadd A s kd v a b o (45 + 2 * s) j = zup (zup (zup (zup (zup (zup A (44 + 2 * s) 1 (A (44 + 2 * s) 1 + 1)) (45 + 2 * s) ((A (44 + 2 * s) 1 + 1) * 5 + 0) kd) (45 + 2 * s) ((A (44 + 2 * s) 1 + 1) * 5 + 1) v) (45 + 2 * s) ((A (44 + 2 * s) 1 + 1) * 5 + 2) a) (45 + 2 * s) ((A (44 + 2 * s) 1 + 1) * 5 + 3) b) (45 + 2 * s) ((A (44 + 2 * s) 1 + 1) * 5 + 4) (if o = 0 then 0 else 1) (45 + 2 * s) j := by
    unfold zadd
    try dsimp only
    split
    · rw [zup_ne (by omega)]
    · rfl
  rw [h]
  by_cases h4 : j = (A (44 + 2 * s) 1 + 1) * 5 + 4
  · rw [if_pos h4, zup_eq ⟨rfl, h4⟩]
  rw [if_neg h4, zup_ne (by omega)]
  by_cases h3 : j = (A (44 + 2 * s) 1 + 1) * 5 + 3
  · rw [if_pos h3, zup_eq ⟨rfl, h3⟩]
  rw [if_neg h3, zup_ne (by omega)]
  by_cases h2 : j = (A (44 + 2 * s) 1 + 1) * 5 + 2
  · rw [if_pos h2, zup_eq ⟨rfl, h2⟩]
  rw [if_neg h2, zup_ne (by omega)]
  by_cases h1 : j = (A (44 + 2 * s) 1 + 1) * 5 + 1
  · rw [if_pos h1, zup_eq ⟨rfl, h1⟩]
  rw [if_neg h1, zup_ne (by omega)]
  by_cases h0 : j = (A (44 + 2 * s) 1 + 1) * 5 + 0
  · rw [if_pos h0, zup_eq ⟨rfl, h0⟩]
  rw [if_neg h0, zup_ne (by omega), zup_ne (by omega)]
theorem zadd_g2 {A : ZM} {s kd v a b o : Int} : zadd A s kd v a b o (44 + 2 * s) 2 = if kd = 2 then max (A (44 + 2 * s) 2) v else A (44 + 2 * s) 2 := by
  unfold zadd
  try dsimp only
  split
  · rw [zup_eq ⟨rfl, rfl⟩]
  · rw [zup_ne (by omega), zup_ne (by omega), zup_ne (by omega), zup_ne (by omega), zup_ne (by omega), zup_ne (by omega)]
/-- what an entered message must be -/
def zAr (A : ZM) (s kd v a b : Int) : Prop := zRg A ∧ (0 ≤ s ∧ s < 3) ∧ (0 ≤ kd ∧ kd < 4) ∧ (0 ≤ v ∧ v < 31) ∧ (0 ≤ a ∧ a < 1000) ∧ (0 ≤ b ∧ b < 1000) ∧ (0 ≤ A (44 + 2 * s) 1 ∧ A (44 + 2 * s) 1 < 100) ∧ 0 ≤ A (-2) 0
/-- a view is opened by this -/
abbrev zOp (A : ZM) (s kd v a b : Int) : Prop := ¬ zVD A s kd v a b ∧ kd = 3 ∧ A 10 v = 0
section ZEN
variable {A : ZM} {s kd v a b : Int}
theorem zent_v (h : zVD A s kd v a b) : zent A s kd v a b = zadd A s kd v a b 1 := if_pos h
theorem zent_o (h : zOp A s kd v a b) : zent A s kd v a b = zmr (zup (zadd A s kd v a b 0) 10 v (A (44 + 2 * s) 1 + 1)) v a b := by
  unfold zent
  rw [if_neg h.1, if_pos h.2]
theorem zent_n (h1 : ¬ zVD A s kd v a b) (h : ¬ zOp A s kd v a b) : zent A s kd v a b = zadd A s kd v a b 0 := by
  unfold zent
  rw [if_neg h1, if_neg (fun q => h ⟨h1, q⟩)]
theorem zent_om (H : zAr A s kd v a b) : zRg (zup (zadd A s kd v a b 0) 10 v (A (44 + 2 * s) 1 + 1)) := by
  obtain ⟨hA, hs, hkd, hv, ha, hb, hc, h0⟩ := H
  exact zRg_up (zadd_rg hA ⟨by omega, by omega⟩ ⟨by omega, by omega⟩ ⟨by omega, by omega⟩ ⟨by omega, by omega⟩ (by omega)) ⟨by omega, by omega⟩
theorem zent_m2 (H : zAr A s kd v a b) : zup (zadd A s kd v a b 0) 10 v (A (44 + 2 * s) 1 + 1) (-2) = A (-2) := by
  obtain ⟨hA, hs, hkd, hv, ha, hb, hc, h0⟩ := H
  rw [zup_row (by omega), zadd_row (by omega) (by omega)]
/-- rows that a new message leaves alone, but for what hangs on an OPENING -/
theorem zent_row (H : zAr A s kd v a b) {c : Int} (h1 : c ≠ 43) (h2 : c ≠ -1) (h3 : c ≠ -2) (h4 : c ≠ 11) (h5 : c ≠ 144 + A (-2) 0) (h6 : c ≠ 10) (h7 : c ≠ 44 + 2 * s) (h8 : c ≠ 45 + 2 * s) : zent A s kd v a b c = A c := by
  by_cases hV : zVD A s kd v a b
  · rw [zent_v hV, zadd_row h7 h8]
  · by_cases hO : zOp A s kd v a b
    · rw [zent_o hO, zmr_row (zent_om H) h1 h2 h3 h4 (by rw [zent_m2 H]; exact h5), zup_row h6, zadd_row h7 h8]
    · rw [zent_n hV hO, zadd_row h7 h8]
/-- rows 44 to 49 -/
theorem zent_add (H : zAr A s kd v a b) {c : Int} (h : 44 ≤ c ∧ c < 50) : zent A s kd v a b c = zadd A s kd v a b (if zVD A s kd v a b then 1 else 0) c := by
  obtain ⟨hA, hs, hkd, hv, ha, hb, hc, h0⟩ := id H
  by_cases hV : zVD A s kd v a b
  · rw [zent_v hV, if_pos hV]
  · rw [if_neg hV]
    by_cases hO : zOp A s kd v a b
    · rw [zent_o hO, zmr_row (zent_om H) (by omega) (by omega) (by omega) (by omega) (by rw [zent_m2 H]; omega), zup_row (by omega)]
    · rw [zent_n hV hO]
theorem zent_cnt (H : zAr A s kd v a b) {c : Int} (h : 0 ≤ c ∧ c < 3) : zent A s kd v a b (44 + 2 * c) 1 = if c = s then A (44 + 2 * s) 1 + 1 else A (44 + 2 * c) 1 := by
  rw [zent_add H (by omega), zadd_cnt H.2.1 h]
theorem zent_oth (H : zAr A s kd v a b) {c : Int} (h : 0 ≤ c ∧ c < 3) (hne : c ≠ s) : zent A s kd v a b (44 + 2 * c) = A (44 + 2 * c) ∧ zent A s kd v a b (45 + 2 * c) = A (45 + 2 * c) := by
  have hs := H.2.1
  exact ⟨by rw [zent_add H (by omega), zadd_row (by omega) (by omega)], by rw [zent_add H (by omega), zadd_row (by omega) (by omega)]⟩
theorem zent_new (H : zAr A s kd v a b) {n : Int} (hn : n = A (44 + 2 * s) 1 + 1) : zent A s kd v a b (45 + 2 * s) (n * 5 + 0) = kd ∧ zent A s kd v a b (45 + 2 * s) (n * 5 + 1) = v ∧ zent A s kd v a b (45 + 2 * s) (n * 5 + 2) = a ∧ zent A s kd v a b (45 + 2 * s) (n * 5 + 3) = b ∧ zent A s kd v a b (45 + 2 * s) (n * 5 + 4) = if zVD A s kd v a b then 1 else 0 := by
  have hs := H.2.1
  subst hn
  rw [zent_add H (c := 45 + 2 * s) (by omega)]
  refine ⟨?_, ?_, ?_, ?_, ?_⟩
  · rw [zadd_msg, if_neg (by omega), if_neg (by omega), if_neg (by omega), if_neg (by omega), if_pos rfl]
  · rw [zadd_msg, if_neg (by omega), if_neg (by omega), if_neg (by omega), if_pos rfl]
  · rw [zadd_msg, if_neg (by omega), if_neg (by omega), if_pos rfl]
  · rw [zadd_msg, if_neg (by omega), if_pos rfl]
  · rw [zadd_msg, if_pos rfl]
    by_cases hV : zVD A s kd v a b
    · rw [if_pos hV]; rfl
    · rw [if_neg hV]; rfl
theorem zent_old (H : zAr A s kd v a b) {c k j : Int} (h : 0 ≤ c ∧ c < 3) (hk : ¬ (c = s ∧ k = A (44 + 2 * s) 1 + 1)) (hj : 0 ≤ j ∧ j < 5) : zent A s kd v a b (45 + 2 * c) (k * 5 + j) = A (45 + 2 * c) (k * 5 + j) := by
  have hs := H.2.1
  by_cases e : c = s
  · subst e
    rw [zent_add H (by omega), zadd_msg, if_neg (by omega), if_neg (by omega), if_neg (by omega), if_neg (by omega), if_neg (by omega)]
  · rw [(zent_oth H h e).2]
theorem zent_g2 (H : zAr A s kd v a b) : zent A s kd v a b (44 + 2 * s) 2 = if kd = 2 then max (A (44 + 2 * s) 2) v else A (44 + 2 * s) 2 := by
  have hs := H.2.1
  rw [zent_add H (by omega), zadd_g2]
theorem zent_op (H : zAr A s kd v a b) {w : Int} : zent A s kd v a b 10 w = if w = v ∧ zOp A s kd v a b then A (44 + 2 * s) 1 + 1 else A 10 w := by
  obtain ⟨hA, hs, hkd, hv, ha, hb, hc, h0⟩ := id H
  by_cases hV : zVD A s kd v a b
  · rw [zent_v hV, if_neg (fun q => q.2.1 hV), zadd_row (by omega) (by omega)]
  · by_cases hO : zOp A s kd v a b
    · rw [zent_o hO, zmr_row (zent_om H) (by omega) (by omega) (by omega) (by omega) (by rw [zent_m2 H]; omega)]
      by_cases e : w = v
      · rw [if_pos ⟨e, hO⟩, zup_eq ⟨rfl, e⟩]
      · rw [if_neg (fun q => e q.1), zup_ne (fun q => e q.2), zadd_row (by omega) (by omega)]
    · rw [zent_n hV hO, if_neg (fun q => hO q.2), zadd_row (by omega) (by omega)]
/-- who opens a view leads it -/
theorem zOp_l (h : zOp A s kd v a b) : v % 3 = s ∧ v ≠ 0 ∧ ¬ a % 3 = b % 3 ∧ zOf A (a % 3) (a / 3) 2 v ∧ zOf A (b % 3) (b / 3) 2 v ∧ ¬ v < A (44 + 2 * s) 2 := by
  obtain ⟨h1, h2, h3⟩ := h
  subst h2
  refine ⟨Classical.byContradiction fun q => h1 ⟨by decide, .inr (.inr (.inr ⟨rfl, .inl q⟩))⟩, fun q => h1 ⟨by decide, .inr (.inr (.inr ⟨rfl, .inr (.inl q)⟩))⟩, fun q => h1 ⟨by decide, .inr (.inr (.inr ⟨rfl, .inr (.inr (.inl q))⟩))⟩, Classical.byContradiction fun q => h1 ⟨by decide, .inr (.inr (.inr ⟨rfl, .inr (.inr (.inr (.inl q)))⟩))⟩, Classical.byContradiction fun q => h1 ⟨by decide, .inr (.inr (.inr ⟨rfl, .inr (.inr (.inr (.inr q)))⟩))⟩, fun q => h1 ⟨by decide, .inl q⟩⟩
end ZEN
