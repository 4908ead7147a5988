/-! a logic of throws: what returns doesn't throw -/
theorem xjmp_no {α β : Type} {pc : Nat} {off : Int} {k : Nat → Option α} {k' : Nat → Option β} {r : α} (hk : ∀ t, k t = some r → k' t = none) (h : xjmp pc off k = some r) : xjmp pc off k' = none := by
  unfold xjmp at h ⊢
  split at h
  · rename_i hc
    rw [if_pos hc]
    exact hk _ h
  · cases h
set_option maxHeartbeats 2000000 in
theorem xst_no {α β : Type} {o : Nat} {ini : Bool} {pc : Nat} {i : Instr} {lo : XL} {st : List Value} {σ : XS} {k : Nat → XL → List Value → XS → Option α} {k' : Nat → XL → List Value → XS → Option β} {r : α} (hk : ∀ pc lo st σ, k pc lo st σ = some r → k' pc lo st σ = none) (h : xst o ini pc i lo st σ k = some r) : xst o ini pc i lo st σ k' = none := by
  cases i <;> dsimp only [xst] at h ⊢
  all_goals first
    | contradiction
    | skip
  all_goals repeat' split at h
  all_goals first
    | contradiction
    | skip
  all_goals first
    | exact hk _ _ _ _ h
    | exact xjmp_no (fun t ht => hk _ _ _ _ ht) h
    | (refine xjmp_no (fun t ht => ?_) h
       dsimp only at ht ⊢
       split at ht <;> rename_i hc <;> first
         | (rw [if_pos hc]; exact hk _ _ _ _ ht)
         | (rw [if_neg hc]; exact hk _ _ _ _ ht))
    | (simp only [*, if_true, if_false, not_false_eq_true, true_and, and_self, reduceIte]; exact hk _ _ _ _ h)
    | (simp only [*, if_true, if_false, not_false_eq_true, true_and, and_self, reduceIte]; exact xjmp_no (fun t ht => hk _ _ _ _ ht) h)
    | (simp only [*, if_true, if_false, not_false_eq_true, true_and, and_self, reduceIte]; done)
    | (rename_i hcc
       obtain ⟨rfl, h2, h3, h4⟩ := hcc
       simp only [*, if_true, if_false, not_false_eq_true, true_and, and_self, reduceIte]; done)
set_option maxHeartbeats 2000000 in
theorem xinv_no {α β : Type} {call call' : Nat → List Value → XS → XO} {o j vk : Nat} {st : List Value} {σ : XS} {k : List Value → XS → Option α} {k' : List Value → XS → Option β} {r : α} (hc : ∀ u vs σ r, call u vs σ = some r → call' u vs σ = some r ∨ call' u vs σ = none) (hk : ∀ st σ, k st σ = some r → k' st σ = none) (h : xinv call o j vk st σ k = some r) : xinv call' o j vk st σ k' = none := by
  unfold xinv at h ⊢
  repeat' split at h
  all_goals first
    | contradiction
    | skip
  all_goals (try (have hcc := hc _ _ _ _ (by assumption); rcases hcc with hcc | hcc))
  all_goals first
    | (simp only [*, if_true, if_false, not_false_eq_true, true_and, and_self, and_true, reduceIte]; done)
    | (simp_all; done)
    | (simp_all; rw [if_neg (Int32.not_lt.mpr (by assumption))]; apply hk; assumption)
theorem xinvT_no {α : Type} {call : Nat → List Value → XS → XO} {callX : Nat → List Value → XS → Option (Nat × XS)} {o j vk : Nat} {st : List Value} {σ : XS} {k : List Value → XS → Option α} {r : α} (hA : ∀ u vs σ r, call u vs σ = some r → callX u vs σ = none) (h : xinv call o j vk st σ k = some r) : xinvT callX o j vk st σ = none := by
  unfold xinvT
  cases hC : xC o j with
  | none => rfl
  | some q =>
    obtain ⟨kd, u'⟩ := q
    dsimp only
    unfold xinv at h
    rw [hC] at h
    dsimp only at h
    by_cases h1 : kd = 0 ∧ vk = 0
    · rw [if_pos h1] at h ⊢
      split at h
      · rename_i b rest hd
        rw [hd]
        dsimp only
        split at h
        · rename_i hcat
          rw [if_pos hcat]
          split at h
          · rename_i c fs hf
            rw [hf]
            dsimp only
            split at h
            · rename_i hm
              rw [if_pos hm]
              split at h
              · rename_i rv σ' hcl
                exact hA _ _ _ _ hcl
              · cases h
            · cases h
          · cases h
        · cases h
      · cases h
    · rw [if_neg h1] at h ⊢
      by_cases h2 : kd = 1 ∧ vk = 1
      · rw [if_pos h2]
        rw [if_pos ⟨.inl h2.1, h2.2⟩] at h
        split at h
        · rename_i hl
          rw [if_pos hl]
          split at h
          · rename_i rv σ' hcl
            exact hA _ _ _ _ hcl
          · cases h
        · cases h
      · rw [if_neg h2]
theorem xTt_new : ∀ q ∈ xTt, xK 9 q.2.2.1 = none := by decide
theorem xTt_mem {u pc : Nat} {v : Nat × Nat × Nat × Nat} (h : xTt.lookup (u, pc) = some v) : ((u, pc), v) ∈ xTt := by
  have gen : ∀ l : List ((Nat × Nat) × (Nat × Nat × Nat × Nat)), l.lookup (u, pc) = some v → ((u, pc), v) ∈ l := fun l => by
    induction l with
    | nil => intro h; cases h
    | cons q l ih =>
      intro h
      obtain ⟨a, b⟩ := q
      rw [List.lookup_cons] at h
      by_cases e : (u, pc) = a
      · rw [show ((u, pc) == a) = true from beq_iff_eq.mpr e] at h
        cases h
        rw [e]
        exact List.mem_cons_self
      · rw [show ((u, pc) == a) = false from beq_eq_false_iff_ne.mpr e] at h
        exact List.mem_cons_of_mem _ (ih h)
  exact gen _ h
theorem xgo_noX {call call' : Nat → List Value → XS → XO} {callX : Nat → List Value → XS → Option (Nat × XS)} {u : Nat} {r : Option Value × XS} (hA : ∀ u vs σ r, call u vs σ = some r → callX u vs σ = none) (hB : ∀ u vs σ r, call u vs σ = some r → call' u vs σ = some r ∨ call' u vs σ = none) : ∀ (n' n pc : Nat) (lo : XL) (st : List Value) (σ : XS), xgo call u n pc lo st σ = some r → xgoX call' callX u n' pc lo st σ = none := by
  intro n'
  induction n' with
  | zero => intro n pc lo st σ _; rfl
  | succ n' ih =>
    intro n pc lo st σ h
    cases n with
    | zero => cases h
    | succ n =>
      have ih' := fun pc lo st σ => ih n pc lo st σ
      cases hT : xTt.lookup (u, pc) with
      | some v =>
        obtain ⟨h1, h2, h3, h4, h5, h6, -⟩ := xTt_ok _ (xTt_mem hT)
        have h7 := xTt_new _ (xTt_mem hT)
        dsimp only at h1 h6 h7
        unfold xgo at h
        rw [h6] at h
        dsimp only [xst] at h
        rw [h1, h7] at h
        cases h
      | none =>
        unfold xgo at h
        unfold xgoX
        rw [hT]
        dsimp only
        split at h
        · rename_i hi
          rw [hi]
        · rename_i i len hi
          rw [hi]
          dsimp only
          split at h
          · rfl
          · rfl
          · rfl
          · dsimp only
            rw [xinvT_no hA h]
            exact xinv_no hB (fun st σ hq => ih' _ _ _ _ hq) h
          · dsimp only
            rw [xinvT_no hA h]
            exact xinv_no hB (fun st σ hq => ih' _ _ _ _ hq) h
          · rfl
          · rename_i i1 i2 i3 i4 i5 i6
            split
            · exact absurd rfl (i4 _)
            · exact absurd rfl (i5 _)
            · exact xst_no (fun pc lo st σ hq => ih' _ _ _ _ hq) h
theorem xcall_noX {N : Nat} : ∀ (d u : Nat) (vs : List Value) (σ : XS) (r : Option Value × XS) (N' : Nat), xcall N d u vs σ = some r → xcallX N' d u vs σ = none := by
  intro d
  induction d with
  | zero => intro u vs σ r N' h; cases h
  | succ d ih =>
    intro u vs σ r N' h
    unfold xcall at h
    unfold xcallX
    split at h
    · rename_i hle
      rw [if_pos hle]
      refine xgo_noX (fun u vs σ r hq => ih u vs σ r N' hq) (fun u vs σ r hq => ?_) N' N 0 _ _ _ h
      cases hq2 : xcall N' d u vs σ with
      | none => exact .inr rfl
      | some r' =>
        have q1 := xcall_le (Nat.le_max_left N N') d d u vs σ r (Nat.le_refl _) hq
        have q2 := xcall_le (Nat.le_max_right N N') d d u vs σ r' (Nat.le_refl _) hq2
        rw [q1] at q2
        exact .inl q2.symm
    · cases h
/-- a call that throws, and leaves all as it was -/
def XX (d u : Nat) (vs : List Value) (σ : XS) (E : Nat) : Prop := ∃ N0, ∀ N, N0 ≤ N → xcallX N d u vs σ = some (E, σ)
def XGX (d u pc : Nat) (lo : XL) (st : List Value) (σ : XS) (E : Nat) : Prop := ∃ N0, ∀ N n, N0 ≤ N → N0 ≤ n → xgoX (xcall N d) (xcallX N d) u n pc lo st σ = some (E, σ)
section XXL
variable {d u pc len E : Nat} {lo : XL} {st : List Value} {σ : XS}
theorem XX.of {vs : List Value} (hle : vs.length ≤ (xM u).2.2.2.1) (hlo : vs.map some ++ List.replicate ((xM u).2.2.2.1 - vs.length) none = lo) (h : XGX d u 0 lo [] σ E) : XX (d + 1) u vs σ E := by
  obtain ⟨N0, h⟩ := h
  subst hlo
  refine ⟨N0, fun N hN => ?_⟩
  unfold xcallX
  rw [if_pos hle]
  exact h N N hN hN
theorem xgoX_plain {call : Nat → List Value → XS → XO} {callX : Nat → List Value → XS → Option (Nat × XS)} {n : Nat} {i : Instr} (ht : xTt.lookup (u, pc) = none) (hi : xIn u pc = some (i, len)) (hp : xpl i = true) : xgoX call callX u (n + 1) pc lo st σ = xst (xM u).1 (xini u) pc i lo st σ (fun pc' lo' st' σ' => xgoX call callX u n pc' lo' st' σ') := by
  conv => lhs; unfold xgoX
  rw [ht]
  dsimp only
  rw [hi]
  cases i <;> first
    | rfl
    | exact absurd hp Bool.false_ne_true
theorem xx_step {pc' : Nat} {i : Instr} {lo' : XL} {st' : List Value} (ht : xTt.lookup (u, pc) = none) (hi : xIn u pc = some (i, len)) (hp : xpl i = true) (he : ∀ k : Nat → XL → List Value → XS → Option (Nat × XS), xst (xM u).1 (xini u) pc i lo st σ k = k pc' lo' st' σ) (h : XGX d u pc' lo' st' σ E) : XGX d u pc lo st σ E := by
  obtain ⟨N0, h⟩ := h
  refine ⟨N0 + 1, fun N n hN hn => ?_⟩
  obtain ⟨m, rfl⟩ : ∃ m, n = m + 1 := ⟨n - 1, by omega⟩
  rw [xgoX_plain ht hi hp, he]
  exact h N m (by omega) (by omega)
theorem xx_if {pc1 pc2 : Nat} {i : Instr} {st' : List Value} {c : Prop} [Decidable c] (ht : xTt.lookup (u, pc) = none) (hi : xIn u pc = some (i, len)) (hp : xpl i = true) (he : ∀ k : Nat → XL → List Value → XS → Option (Nat × XS), xst (xM u).1 (xini u) pc i lo st σ k = if c then k pc1 lo st' σ else k pc2 lo st' σ) (h1 : c → XGX d u pc1 lo st' σ E) (h2 : ¬ c → XGX d u pc2 lo st' σ E) : XGX d u pc lo st σ E := by
  by_cases hc : c
  · exact xx_step ht hi hp (fun k => by rw [he, if_pos hc]) (h1 hc)
  · exact xx_step ht hi hp (fun k => by rw [he, if_neg hc]) (h2 hc)
theorem xx_throw {v : Nat × Nat × Nat} (ht : xTt.lookup (u, pc) = some (E, v)) (hs : (st.map Value.category).sum ≤ 8) : XGX d u pc lo st σ E := by
  refine ⟨1, fun N n hN hn => ?_⟩
  obtain ⟨m, rfl⟩ : ∃ m, n = m + 1 := ⟨n - 1, by omega⟩
  unfold xgoX
  rw [ht]
  dsimp only
  rw [if_pos hs]
theorem zx_eq {x y : Int} {pc1 pc2 : Nat} {i : Instr} (ht : xTt.lookup (u, pc) = none) (hi : xIn u pc = some (i, len)) (hp : xpl i = true) (he : ∀ (x y : Int32) (k : Nat → XL → List Value → XS → Option (Nat × XS)), xst (xM u).1 (xini u) pc i lo (.int y :: .int x :: st) σ k = if x = y then k pc1 lo st σ else k pc2 lo st σ) (hx : zrg x) (hy : zrg y) (h1 : x = y → XGX d u pc1 lo st σ E) (h2 : ¬ x = y → XGX d u pc2 lo st σ E) : XGX d u pc lo (zci y :: zci x :: st) σ E :=
  xx_if (c := Int32.ofInt x = Int32.ofInt y) ht hi hp (he _ _) (fun q => h1 ((zeq hx hy).mp q)) (fun q => h2 (fun e => q ((zeq hx hy).mpr e)))
theorem zx_lt {x y : Int} {pc1 pc2 : Nat} {i : Instr} (ht : xTt.lookup (u, pc) = none) (hi : xIn u pc = some (i, len)) (hp : xpl i = true) (he : ∀ (x y : Int32) (k : Nat → XL → List Value → XS → Option (Nat × XS)), xst (xM u).1 (xini u) pc i lo (.int y :: .int x :: st) σ k = if x < y then k pc1 lo st σ else k pc2 lo st σ) (hx : zrg x) (hy : zrg y) (h1 : x < y → XGX d u pc1 lo st σ E) (h2 : ¬ x < y → XGX d u pc2 lo st σ E) : XGX d u pc lo (zci y :: zci x :: st) σ E :=
  xx_if (c := Int32.ofInt x < Int32.ofInt y) ht hi hp (he _ _) (fun q => h1 ((zlt hx hy).mp q)) (fun q => h2 (fun e => q ((zlt hx hy).mpr e)))
theorem zx_gt {x y : Int} {pc1 pc2 : Nat} {i : Instr} (ht : xTt.lookup (u, pc) = none) (hi : xIn u pc = some (i, len)) (hp : xpl i = true) (he : ∀ (x y : Int32) (k : Nat → XL → List Value → XS → Option (Nat × XS)), xst (xM u).1 (xini u) pc i lo (.int y :: .int x :: st) σ k = if y < x then k pc1 lo st σ else k pc2 lo st σ) (hx : zrg x) (hy : zrg y) (h1 : y < x → XGX d u pc1 lo st σ E) (h2 : ¬ y < x → XGX d u pc2 lo st σ E) : XGX d u pc lo (zci y :: zci x :: st) σ E :=
  xx_if (c := Int32.ofInt y < Int32.ofInt x) ht hi hp (he _ _) (fun q => h1 ((zlt hy hx).mp q)) (fun q => h2 (fun e => q ((zlt hy hx).mpr e)))
theorem zx_eq0 {x : Int} {pc1 pc2 : Nat} {i : Instr} (ht : xTt.lookup (u, pc) = none) (hi : xIn u pc = some (i, len)) (hp : xpl i = true) (he : ∀ (x : Int32) (k : Nat → XL → List Value → XS → Option (Nat × XS)), xst (xM u).1 (xini u) pc i lo (.int x :: st) σ k = if x = 0 then k pc1 lo st σ else k pc2 lo st σ) (hx : zrg x) (h1 : x = 0 → XGX d u pc1 lo st σ E) (h2 : ¬ x = 0 → XGX d u pc2 lo st σ E) : XGX d u pc lo (zci x :: st) σ E :=
  xx_if (c := Int32.ofInt x = 0) ht hi hp (he _) (fun q => h1 ((zeq hx ⟨by decide, by decide⟩).mp q)) (fun q => h2 (fun e => q ((zeq hx ⟨by decide, by decide⟩).mpr e)))
theorem zx_lt0 {x : Int} {pc1 pc2 : Nat} {i : Instr} (ht : xTt.lookup (u, pc) = none) (hi : xIn u pc = some (i, len)) (hp : xpl i = true) (he : ∀ (x : Int32) (k : Nat → XL → List Value → XS → Option (Nat × XS)), xst (xM u).1 (xini u) pc i lo (.int x :: st) σ k = if x < 0 then k pc1 lo st σ else k pc2 lo st σ) (hx : zrg x) (h1 : x < 0 → XGX d u pc1 lo st σ E) (h2 : ¬ x < 0 → XGX d u pc2 lo st σ E) : XGX d u pc lo (zci x :: st) σ E :=
  xx_if (c := Int32.ofInt x < 0) ht hi hp (he _) (fun q => h1 ((zlt hx ⟨by decide, by decide⟩).mp q)) (fun q => h2 (fun e => q ((zlt hx ⟨by decide, by decide⟩).mpr e)))
theorem zx_bi {n : Int} (ht : xTt.lookup (u, pc) = none) (hi : xIn u pc = some (.bipush n, len)) (hn : (Int8.ofInt n).toInt32 = Int32.ofInt n) (h : XGX d u (pc + 2) lo (zci n :: st) σ E) : XGX d u pc lo st σ E := by
  refine xx_step ht hi rfl (fun k => ?_) h
  simp only [xst, hn]
theorem zx_get {a j ci kf : Nat} {nest : Bool} {fs : List Value} {v : Value} (ht : xTt.lookup (u, pc) = none) (hi : xIn u pc = some (.getfield j, len)) (hF : xF (xM u).1 j = some (ci, kf, nest)) (ha : a < σ.1) (hf : σ.2.2 a = .inl (ci, fs)) (hv : fs[kf]? = some v) (hiv : xiv v = true) (h : XGX d u (pc + 3) lo (v :: st) σ E) : XGX d u pc lo (.ref a :: st) σ E := by
  refine xx_step ht hi rfl (fun k => ?_) h
  simp only [xst, hF, ha, hf, hv, hiv, if_true]
theorem zx_aald {a : Nat} {i : Int} {t n b : Nat} {g : Nat → Option Nat} (htt : xTt.lookup (u, pc) = none) (hi : xIn u pc = some (.aaload, len)) (ha : a < σ.1) (hf : σ.2.2 a = .inr (t, n, .inr g)) (ht : ¬ t < 2) (hn : n < 2147483648) (hin : 0 ≤ i ∧ i < n) (hg : g i.toNat = some b) (h : XGX d u (pc + 1) lo (.ref b :: st) σ E) : XGX d u pc lo (zci i :: .ref a :: st) σ E := by
  refine xx_step htt hi rfl (fun k => ?_) h
  have hq := zcln (n := n) hin.1 hin.2 hn
  have hq' : ¬ (t < 2 ∨ Int32.ofInt i < 0 ∨ n ≤ (Int32.ofInt i).toNatClampNeg) := fun e => e.elim ht hq
  simp only [xst, ha, hf, if_true, if_neg hq']
  rw [zcl hin.1 (by omega), hg]
theorem zx_swd {pc' : Nat} {x l h df : Int} {offs : Array Int} (ht : xTt.lookup (u, pc) = none) (hi : xIn u pc = some (.tableswitch df l h offs, len)) (hx : zrg x) (hd : x < l ∨ h < x) (hj : ∀ k : Nat → XL → List Value → XS → Option (Nat × XS), xjmp pc df (fun t => k t lo st σ) = k pc' lo st σ) (hh : XGX d u pc' lo st σ E) : XGX d u pc lo (zci x :: st) σ E := by
  refine xx_step ht hi rfl (fun k => ?_) hh
  simp only [xst, zrt hx]
  rw [if_pos hd, hj]
/-- a call that returns, with nothing changed -/
theorem zx_cv {j u' b c : Nat} {fs rest vs : List Value} {rv : Option Value} (ht : xTt.lookup (u, pc) = none) (hi : xIn u pc = some (.invokevirtual j, len)) (hC : xC (xM u).1 j = some (0, u')) (hd : st.drop (xA u') = .ref b :: rest) (hcat : (rest.map Value.category).sum ≤ 8) (hb : b < σ.1) (hf : σ.2.2 b = .inl (c, fs)) (hcm : c = (xM u').1) (hvs : .ref b :: (st.take (xA u')).reverse = vs) (hc : XR d u' vs σ (rv, σ)) (h : XGX d u (pc + 3) lo (rv.toList ++ rest) σ E) : XGX d u pc lo st σ E := by
  obtain ⟨N1, hc⟩ := hc
  obtain ⟨N0, h⟩ := h
  refine ⟨max N0 N1 + 1, fun N n hN hn => ?_⟩
  obtain ⟨m, rfl⟩ : ∃ m, n = m + 1 := ⟨n - 1, by omega⟩
  have q1 := xcall_le (N' := N) (by omega) d d u' vs σ (rv, σ) (Nat.le_refl _) hc
  have q2 := xcall_noX d u' vs σ (rv, σ) N hc
  unfold xgoX
  rw [ht]
  dsimp only
  rw [hi]
  dsimp only
  have e1 : xinvT (xcallX N d) (xM u).1 j 0 st σ = none := by
    unfold xinvT
    rw [hC]
    dsimp only
    rw [if_pos ⟨rfl, rfl⟩, hd]
    dsimp only
    rw [if_pos ⟨hcat, hb⟩, hf]
    dsimp only
    rw [if_pos hcm, hvs, q2]
  rw [e1]
  dsimp only
  unfold xinv
  rw [hC]
  dsimp only
  rw [if_pos ⟨rfl, rfl⟩, hd]
  dsimp only
  rw [if_pos ⟨hcat, hb⟩, hf]
  dsimp only
  rw [if_pos hcm, hvs, q1]
  exact h N m (by omega) (by omega)
theorem zx_cs {j u' kd : Nat} {rest vs : List Value} {rv : Option Value} (ht : xTt.lookup (u, pc) = none) (hi : xIn u pc = some (.invokestatic j, len)) (hC : xC (xM u).1 j = some (kd, u')) (hkd : kd = 1 ∨ kd = 2) (hl : (st.take (xA u')).length = xA u') (hd : st.drop (xA u') = rest) (hcat : (rest.map Value.category).sum ≤ 8) (hvs : (st.take (xA u')).reverse = vs) (hc : XR d u' vs σ (rv, σ)) (h : XGX d u (pc + 3) lo (rv.toList ++ rest) σ E) : XGX d u pc lo st σ E := by
  obtain ⟨N1, hc⟩ := hc
  obtain ⟨N0, h⟩ := h
  refine ⟨max N0 N1 + 1, fun N n hN hn => ?_⟩
  obtain ⟨m, rfl⟩ : ∃ m, n = m + 1 := ⟨n - 1, by omega⟩
  have q1 := xcall_le (N' := N) (by omega) d d u' vs σ (rv, σ) (Nat.le_refl _) hc
  have q2 := xcall_noX d u' vs σ (rv, σ) N hc
  subst hd
  unfold xgoX
  rw [ht]
  dsimp only
  rw [hi]
  dsimp only
  have e1 : xinvT (xcallX N d) (xM u).1 j 1 st σ = none := by
    unfold xinvT
    rw [hC]
    dsimp only
    rw [if_neg (by omega)]
    by_cases hk : kd = 1 ∧ 1 = 1
    · rw [if_pos hk, if_pos ⟨hl, hcat⟩, hvs, q2]
    · rw [if_neg hk]
  rw [e1]
  dsimp only
  unfold xinv
  rw [hC]
  dsimp only
  rw [if_neg (by omega), if_pos ⟨hkd, rfl⟩, if_pos ⟨hl, hcat⟩, hvs, q1]
  exact h N m (by omega) (by omega)
/-- a call that throws -/
theorem zx_cvX {j u' b c : Nat} {fs rest vs : List Value} (ht : xTt.lookup (u, pc) = none) (hi : xIn u pc = some (.invokevirtual j, len)) (hC : xC (xM u).1 j = some (0, u')) (hd : st.drop (xA u') = .ref b :: rest) (hcat : (rest.map Value.category).sum ≤ 8) (hb : b < σ.1) (hf : σ.2.2 b = .inl (c, fs)) (hcm : c = (xM u').1) (hvs : .ref b :: (st.take (xA u')).reverse = vs) (hc : XX d u' vs σ E) : XGX d u pc lo st σ E := by
  obtain ⟨N1, hc⟩ := hc
  refine ⟨N1 + 1, fun N n hN hn => ?_⟩
  obtain ⟨m, rfl⟩ : ∃ m, n = m + 1 := ⟨n - 1, by omega⟩
  unfold xgoX
  rw [ht]
  dsimp only
  rw [hi]
  dsimp only
  have e1 : xinvT (xcallX N d) (xM u).1 j 0 st σ = some (E, σ) := by
    unfold xinvT
    rw [hC]
    dsimp only
    rw [if_pos ⟨rfl, rfl⟩, hd]
    dsimp only
    rw [if_pos ⟨hcat, hb⟩, hf]
    dsimp only
    rw [if_pos hcm, hvs, hc N (by omega)]
  rw [e1]
theorem zx_csX {j u' : Nat} {rest vs : List Value} (ht : xTt.lookup (u, pc) = none) (hi : xIn u pc = some (.invokestatic j, len)) (hC : xC (xM u).1 j = some (1, u')) (hl : (st.take (xA u')).length = xA u') (hd : st.drop (xA u') = rest) (hcat : (rest.map Value.category).sum ≤ 8) (hvs : (st.take (xA u')).reverse = vs) (hc : XX d u' vs σ E) : XGX d u pc lo st σ E := by
  obtain ⟨N1, hc⟩ := hc
  refine ⟨N1 + 1, fun N n hN hn => ?_⟩
  obtain ⟨m, rfl⟩ : ∃ m, n = m + 1 := ⟨n - 1, by omega⟩
  subst hd
  unfold xgoX
  rw [ht]
  dsimp only
  rw [hi]
  dsimp only
  have e1 : xinvT (xcallX N d) (xM u).1 j 1 st σ = some (E, σ) := by
    unfold xinvT
    rw [hC]
    dsimp only
    rw [if_neg (by omega), if_pos ⟨rfl, rfl⟩, if_pos ⟨hl, hcat⟩, hvs, hc N (by omega)]
  rw [e1]
end XXL
