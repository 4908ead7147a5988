/-! more fuel, more depth: the same answer -/
theorem xjmp_le {α : Type} {pc : Nat} {off : Int} {k k' : Nat → Option α} {r : α} (hk : ∀ t, k t = some r → k' t = some r) (h : xjmp pc off k = some r) : xjmp pc off k' = some r := by
  unfold xjmp at h ⊢
  split at h
  · rename_i hc
    rw [if_pos hc]
    exact hk _ h
  · cases h
set_option maxHeartbeats 1000000 in
theorem xst_le {α : Type} {o : Nat} {ini : Bool} {pc : Nat} {i : Instr} {lo : XL} {st : List Value} {σ : XS} {k k' : Nat → XL → List Value → XS → Option α} {r : α} (hk : ∀ pc lo st σ, k pc lo st σ = some r → k' pc lo st σ = some r) (h : xst o ini pc i lo st σ k = some r) : xst o ini pc i lo st σ k' = some r := by
  cases i <;> dsimp only [xst] at h ⊢
  all_goals first
    | contradiction
    | skip
  all_goals repeat' split at h
  all_goals first
    | contradiction
    | skip
  all_goals first
    | exact hk _ _ _ _ h
    | exact xjmp_le (fun t ht => hk _ _ _ _ ht) h
    | (refine xjmp_le (fun t ht => ?_) h
       dsimp only at ht ⊢
       split at ht <;> rename_i hc <;> first
         | (rw [if_pos hc]; exact hk _ _ _ _ ht)
         | (rw [if_neg hc]; exact hk _ _ _ _ ht))
    | (simp only [*, if_true, if_false, not_false_eq_true, true_and, and_self, reduceIte]; exact hk _ _ _ _ h)
    | (simp only [*, if_true, if_false, not_false_eq_true, true_and, and_self, reduceIte]; exact xjmp_le (fun t ht => hk _ _ _ _ ht) h)
    | (simp only [*, if_true, if_false, not_false_eq_true, true_and, and_self, reduceIte]; done)
    | (rename_i hcc
       obtain ⟨rfl, h2, h3, h4⟩ := hcc
       simp only [*, if_true, if_false, not_false_eq_true, true_and, and_self, reduceIte]; done)
set_option maxHeartbeats 1000000 in
theorem xinv_le {α : Type} {call call' : Nat → List Value → XS → XO} {o j vk : Nat} {st : List Value} {σ : XS} {k k' : List Value → XS → Option α} {r : α} (hc : ∀ u vs σ r, call u vs σ = some r → call' u vs σ = some r) (hk : ∀ st σ, k st σ = some r → k' st σ = some r) (h : xinv call o j vk st σ k = some r) : xinv call' o j vk st σ k' = some r := by
  unfold xinv at h ⊢
  repeat' split at h
  all_goals first
    | contradiction
    | skip
  all_goals (try (have hcc := hc _ _ _ _ (by assumption)))
  all_goals first
    | (simp only [*, if_true, if_false, not_false_eq_true, true_and, and_self, and_true, reduceIte]; done)
    | (simp_all; done)
    | (simp_all; rw [if_neg (Int32.not_lt.mpr (by assumption))]; apply hk; assumption)
theorem xgo_le {call call' : Nat → List Value → XS → XO} {u : Nat} {r : Option Value × XS} (hc : ∀ u vs σ r, call u vs σ = some r → call' u vs σ = some r) : ∀ (n n' pc : Nat) (lo : XL) (st : List Value) (σ : XS), n ≤ n' → xgo call u n pc lo st σ = some r → xgo call' u n' pc lo st σ = some r := by
  intro n
  induction n with
  | zero => intro n' pc lo st σ _ h; cases h
  | succ n ih =>
    intro n' pc lo st σ hn h
    obtain ⟨n', rfl⟩ : ∃ q, n' = q + 1 := ⟨n' - 1, by omega⟩
    have ih' := fun pc lo st σ => ih n' pc lo st σ (by omega)
    unfold xgo at h ⊢
    split at h
    · cases h
    · rename_i i len hi
      split at h
      · exact h
      · exact h
      · exact h
      · exact xinv_le hc (fun st σ hq => ih' _ _ _ _ hq) h
      · exact xinv_le hc (fun st σ hq => ih' _ _ _ _ hq) h
      · exact xinv_le hc (fun st σ hq => ih' _ _ _ _ hq) h
      · exact xst_le (fun pc lo st σ hq => ih' _ _ _ _ hq) h
theorem xcall_le {N N' : Nat} (hN : N ≤ N') : ∀ (d d' u : Nat) (vs : List Value) (σ : XS) (r : Option Value × XS), d ≤ d' → xcall N d u vs σ = some r → xcall N' d' u vs σ = some r := by
  intro d
  induction d with
  | zero => intro d' u vs σ r _ h; cases h
  | succ d ih =>
    intro d' u vs σ r hd h
    obtain ⟨d', rfl⟩ : ∃ q, d' = q + 1 := ⟨d' - 1, by omega⟩
    unfold xcall at h ⊢
    split at h
    · rename_i hle
      rw [if_pos hle]
      exact xgo_le (fun u vs σ r hq => ih d' u vs σ r (by omega) hq) N N' 0 _ _ _ hN h
    · cases h
