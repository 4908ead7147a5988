/-! a logic of runs: XR a call's answer, XG an answer from a point on; fuel is hidden -/
def XR (d u : Nat) (vs : List Value) (σ : XS) (r : Option Value × XS) : Prop := ∃ N, xcall N d u vs σ = some r
def XG (d u pc : Nat) (lo : XL) (st : List Value) (σ : XS) (r : Option Value × XS) : Prop := ∃ N n, xgo (xcall N d) u n pc lo st σ = some r
theorem XR.of {d u : Nat} {vs : List Value} {lo : XL} {σ : XS} {r : Option Value × XS} (hle : vs.length ≤ (xM u).2.2.2.1) (hlo : vs.map some ++ List.replicate ((xM u).2.2.2.1 - vs.length) none = lo) (h : XG d u 0 lo [] σ r) : XR (d + 1) u vs σ r := by
  obtain ⟨N, n, h⟩ := h
  subst hlo
  refine ⟨max N n, ?_⟩
  unfold xcall
  rw [if_pos hle]
  exact xgo_le (fun u vs σ r hq => xcall_le (Nat.le_max_left _ _) d d u vs σ r (Nat.le_refl _) hq) n _ 0 _ _ _ (Nat.le_max_right _ _) h
theorem XR.le {d d' u : Nat} {vs : List Value} {σ : XS} {r : Option Value × XS} (hd : d ≤ d') (h : XR d u vs σ r) : XR d' u vs σ r := by
  obtain ⟨N, h⟩ := h
  exact ⟨N, xcall_le (Nat.le_refl _) d d' u vs σ r hd h⟩
/-- plain: neither a call nor a return -/
def xpl (i : Instr) : Bool := match i with
  | .ireturn | .areturn | .return_ | .invokevirtual _ | .invokestatic _ | .invokespecial _ => false
  | _ => true
theorem xgo_plain {call : Nat → List Value → XS → XO} {u n pc len : Nat} {i : Instr} {lo : XL} {st : List Value} {σ : XS} (hi : xIn u pc = some (i, len)) (hp : xpl i = true) : xgo call u (n + 1) pc lo st σ = xst (xM u).1 (xini u) pc i lo st σ (fun pc' lo' st' σ' => xgo call u n pc' lo' st' σ') := by
  conv => lhs; unfold xgo
  rw [hi]
  cases i <;> first
    | rfl
    | exact absurd hp Bool.false_ne_true
/-- an instruction with one way on -/
theorem xg_step {d u pc len pc' : Nat} {i : Instr} {lo lo' : XL} {st st' : List Value} {σ σ' : XS} {r : Option Value × XS} (hi : xIn u pc = some (i, len)) (hp : xpl i = true) (he : ∀ k : Nat → XL → List Value → XS → XO, xst (xM u).1 (xini u) pc i lo st σ k = k pc' lo' st' σ') (h : XG d u pc' lo' st' σ' r) : XG d u pc lo st σ r := by
  obtain ⟨N, n, h⟩ := h
  exact ⟨N, n + 1, by rw [xgo_plain hi hp, he]; exact h⟩
/-- an instruction with two ways on -/
theorem xg_if {d u pc len pc1 pc2 : Nat} {i : Instr} {lo : XL} {st st' : List Value} {σ : XS} {r : Option Value × XS} {c : Prop} [Decidable c] (hi : xIn u pc = some (i, len)) (hp : xpl i = true) (he : ∀ k : Nat → XL → List Value → XS → XO, xst (xM u).1 (xini u) pc i lo st σ k = if c then k pc1 lo st' σ else k pc2 lo st' σ) (h1 : c → XG d u pc1 lo st' σ r) (h2 : ¬ c → XG d u pc2 lo st' σ r) : XG d u pc lo st σ r := by
  by_cases hc : c
  · exact xg_step hi hp (fun k => by rw [he, if_pos hc]) (h1 hc)
  · exact xg_step hi hp (fun k => by rw [he, if_neg hc]) (h2 hc)
theorem xg_ireturn {d u pc len : Nat} {x : Int32} {lo : XL} {σ : XS} {ty : FieldType} (hi : xIn u pc = some (.ireturn, len)) (ht : (xM u).2.2.2.2 = some ty) (hf : xfit ty (.int x) = true) : XG d u pc lo [.int x] σ (some (.int x), σ) := by
  refine ⟨0, 1, ?_⟩
  unfold xgo
  rw [hi]
  dsimp only
  rw [ht]
  dsimp only
  rw [if_pos hf]
theorem xg_areturn {d u pc len a : Nat} {lo : XL} {σ : XS} {ty : FieldType} (hi : xIn u pc = some (.areturn, len)) (ht : (xM u).2.2.2.2 = some ty) (hf : xfit ty (.ref a) = true) : XG d u pc lo [.ref a] σ (some (.ref a), σ) := by
  refine ⟨0, 1, ?_⟩
  unfold xgo
  rw [hi]
  dsimp only
  rw [ht]
  dsimp only
  rw [if_pos hf]
theorem xg_return {d u pc len : Nat} {lo : XL} {σ : XS} (hi : xIn u pc = some (.return_, len)) (ht : (xM u).2.2.2.2 = none) : XG d u pc lo [] σ (none, σ) := by
  refine ⟨0, 1, ?_⟩
  unfold xgo
  rw [hi]
  dsimp only
  rw [if_pos ht]
/-- a call: the way on, in terms of the callee's answer -/
theorem xg_call {d u pc len j vk u' : Nat} {i : Instr} {lo : XL} {st st' vs : List Value} {σ σ1 : XS} {rv : Option Value} {r : Option Value × XS} (hi : xIn u pc = some (i, len)) (hv : (vk = 0 ∧ i = .invokevirtual j) ∨ (vk = 1 ∧ i = .invokestatic j) ∨ (vk = 2 ∧ i = .invokespecial j)) (hc : XR d u' vs σ (rv, σ1))
    (he : ∀ (call : Nat → List Value → XS → XO) (k : List Value → XS → XO), call u' vs σ = some (rv, σ1) → xinv call (xM u).1 j vk st σ k = k st' σ1) (h : XG d u (pc + 3) lo st' σ1 r) : XG d u pc lo st σ r := by
  obtain ⟨N1, h1⟩ := hc
  obtain ⟨N2, n, h2⟩ := h
  have q1 := xcall_le (Nat.le_max_left N1 N2) d d u' vs σ (rv, σ1) (Nat.le_refl _) h1
  have q2 := xgo_le (call' := xcall (max N1 N2) d) (fun u vs σ r hq => xcall_le (Nat.le_max_right N1 N2) d d u vs σ r (Nat.le_refl _) hq) n n _ _ _ _ (Nat.le_refl _) h2
  refine ⟨max N1 N2, n + 1, ?_⟩
  unfold xgo
  rw [hi]
  rcases hv with ⟨rfl, rfl⟩ | ⟨rfl, rfl⟩ | ⟨rfl, rfl⟩
  · dsimp only
    rw [he _ _ q1]
    exact q2
  · dsimp only
    rw [he _ _ q1]
    exact q2
  · dsimp only
    rw [he _ _ q1]
    exact q2
set_option maxRecDepth 10000 in
/-- a first run: CountedHouse.leaderOf -/
theorem xr_leaderOf {d : Nat} {v : Int32} {σ : XS} : XR (d + 1) 99 [.int v] σ (some (.int (v - v / 3 * 3)), σ) := by
  refine XR.of (Nat.le_of_ble_eq_true rfl) rfl ?_
  refine xg_step rfl rfl (fun k => rfl) ?_
  refine xg_step rfl rfl (fun k => rfl) ?_
  refine xg_step rfl rfl (fun k => rfl) ?_
  exact xg_ireturn rfl rfl rfl
section XGH
variable {d u pc len a : Nat} {lo : XL} {st : List Value} {σ : XS} {r : Option Value × XS}
theorem xg_get {j ci kf : Nat} {nest : Bool} {fs : List Value} {v : Value} (hi : xIn u pc = some (.getfield j, len)) (hF : xF (xM u).1 j = some (ci, kf, nest)) (ha : a < σ.1) (hf : σ.2.2 a = .inl (ci, fs)) (hv : fs[kf]? = some v) (hiv : xiv v = true) (h : XG d u (pc + 3) lo (v :: st) σ r) : XG d u pc lo (.ref a :: st) σ r := by
  refine xg_step hi rfl (fun k => ?_) h
  simp only [xst, hF, ha, hf, hv, hiv, if_true]
theorem xg_put {j ci kf : Nat} {nest : Bool} {fs : List Value} {v : Value} (hi : xIn u pc = some (.putfield j, len)) (hF : xF (xM u).1 j = some (ci, kf, nest)) (ha : a < σ.1) (hf : σ.2.2 a = .inl (ci, fs)) (hl : kf < fs.length) (hp : xput (xM u).1 (xini u) ci kf nest = true) (hfit : xfit (xFty ci kf) v = true) (h : XG d u (pc + 3) lo st (σ.1, σ.2.1, va_up σ.2.2 a (.inl (ci, fs.set kf v))) r) : XG d u pc lo (v :: .ref a :: st) σ r := by
  refine xg_step hi rfl (fun k => ?_) h
  simp only [xst, hF, ha, hf, hl, hp, hfit, and_self, if_true]
theorem xg_iald {i : Int32} {n : Nat} {g : Nat → Int32} (hi : xIn u pc = some (.iaload, len)) (ha : a < σ.1) (hf : σ.2.2 a = .inr (0, n, .inl g)) (hin : vp_in i n) (h : XG d u (pc + 1) lo (.int (g i.toNatClampNeg) :: st) σ r) : XG d u pc lo (.int i :: .ref a :: st) σ r := by
  refine xg_step hi rfl (fun k => ?_) h
  simp only [xst, ha, hf, if_true]
  exact if_neg hin
theorem xg_zald {i : Int32} {n : Nat} {g : Nat → Int32} (hi : xIn u pc = some (.baload, len)) (ha : a < σ.1) (hf : σ.2.2 a = .inr (1, n, .inl g)) (hin : vp_in i n) (h : XG d u (pc + 1) lo (.int (g i.toNatClampNeg) :: st) σ r) : XG d u pc lo (.int i :: .ref a :: st) σ r := by
  refine xg_step hi rfl (fun k => ?_) h
  simp only [xst, ha, hf, if_true]
  exact if_neg hin
theorem xg_iast {i x : Int32} {n : Nat} {g : Nat → Int32} (hi : xIn u pc = some (.iastore, len)) (ha : a < σ.1) (hf : σ.2.2 a = .inr (0, n, .inl g)) (hin : vp_in i n) (h : XG d u (pc + 1) lo st (σ.1, σ.2.1, va_up σ.2.2 a (.inr (0, n, .inl (upd g i.toNatClampNeg x)))) r) : XG d u pc lo (.int x :: .int i :: .ref a :: st) σ r := by
  refine xg_step hi rfl (fun k => ?_) h
  simp only [xst, ha, hf, if_true]
  exact if_neg hin
theorem xg_zast {i x : Int32} {n : Nat} {g : Nat → Int32} (hi : xIn u pc = some (.bastore, len)) (ha : a < σ.1) (hf : σ.2.2 a = .inr (1, n, .inl g)) (hin : vp_in i n) (h : XG d u (pc + 1) lo st (σ.1, σ.2.1, va_up σ.2.2 a (.inr (1, n, .inl (upd g i.toNatClampNeg (vp_nar .boolean x))))) r) : XG d u pc lo (.int x :: .int i :: .ref a :: st) σ r := by
  refine xg_step hi rfl (fun k => ?_) h
  simp only [xst, ha, hf, if_true]
  exact if_neg hin
end XGH
set_option maxRecDepth 10000 in
/-- a run with a heap and branches: CountedHouse$Counter.has -/
theorem xr_Counter_has {d a : Nat} {k cnt gc : Int32} {ar : Value} {σ : XS} (ha : a < σ.1) (hf : σ.2.2 a = .inl (3, [ar, .int cnt, .int gc])) : XR (d + 1) 19 [.ref a, .int k] σ (some (.int (if k < 1 then 0 else if cnt < k then 0 else 1)), σ) := by
  refine XR.of (Nat.le_of_ble_eq_true rfl) rfl ?_
  refine xg_step rfl rfl (fun k => rfl) ?_
  refine xg_step rfl rfl (fun k => rfl) ?_
  refine xg_if (c := k < 1) rfl rfl (fun k => rfl) (fun hc => ?_) (fun hc => ?_)
  · rw [if_pos hc]
    refine xg_step rfl rfl (fun k => rfl) ?_
    exact xg_ireturn rfl rfl rfl
  · rw [if_neg hc]
    refine xg_step rfl rfl (fun k => rfl) ?_
    refine xg_step rfl rfl (fun k => rfl) ?_
    refine xg_get rfl rfl ha hf rfl rfl ?_
    refine xg_if (c := cnt < k) rfl rfl (fun k => rfl) (fun hc => ?_) (fun hc => ?_)
    · rw [if_pos hc]
      refine xg_step rfl rfl (fun k => rfl) ?_
      exact xg_ireturn rfl rfl rfl
    · rw [if_neg hc]
      refine xg_step rfl rfl (fun k => rfl) ?_
      refine xg_step rfl rfl (fun k => rfl) ?_
      exact xg_ireturn rfl rfl rfl
