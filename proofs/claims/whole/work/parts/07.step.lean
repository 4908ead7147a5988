/-! one instruction of the abstract machine is one of the machine -/
section XST
variable {p : Program} {l : Launch} {e : Env} {R : Room} {s : State} {m : MethodId} {args : Array Value} {below : List Frame} {meth : Method} {c : Code} {Q : State → Prop} {D : va_G} {A : Nat → Prop} {u nL n0 s0 : Nat} {ad0 : Nat → Nat} {ca0 : Nat → ClassId} {H : Heap} {locs : List Loc} {ls : Array Slot} {ad : Nat → Nat} {ca : Nat → ClassId} {lo : XL} {st : List Value} {σ : XS}
theorem xPt.push {v : Value} (h : xPt D A s nL n0 s0 ad0 ca0 H locs ls ad ca lo st σ) (hv : xok σ.1 v) : xPt D A s nL n0 s0 ad0 ca0 H locs ls ad ca lo (v :: st) σ :=
  ⟨h.1, h.2.1, fun w hw => (List.mem_cons.mp hw).elim (fun e => e ▸ hv) (h.2.2.1 w), h.2.2.2⟩
theorem xPt.pop {v : Value} (h : xPt D A s nL n0 s0 ad0 ca0 H locs ls ad ca lo (v :: st) σ) : xPt D A s nL n0 s0 ad0 ca0 H locs ls ad ca lo st σ :=
  ⟨h.1, h.2.1, fun w hw => h.2.2.1 w (List.mem_cons_of_mem _ hw), h.2.2.2⟩
theorem xPt.top {v : Value} (h : xPt D A s nL n0 s0 ad0 ca0 H locs ls ad ca lo (v :: st) σ) : xok σ.1 v := h.2.2.1 v List.mem_cons_self
theorem xPt.loc {i : Nat} {v : Value} (h : xPt D A s nL n0 s0 ad0 ca0 H locs ls ad ca lo st σ) (hi : lo[i]? = some (some v)) : ls[i]? = some (.val (xcv ad v)) ∧ xok σ.1 v := h.2.1.2.2.2 i v hi
/-- the locals' list of the kit -/
def xlv (ad : Nat → Nat) (lo : XL) : List (Nat × Value) := (List.range lo.length).filterMap (fun i => match lo[i]? with | some (some v) => some (i, xcv ad v) | _ => none)
theorem xlv_mem {i : Nat} {v : Value} (h : lo[i]? = some (some v)) : (i, xcv ad v) ∈ xlv ad lo := by
  refine List.mem_filterMap.mpr ⟨i, List.mem_range.mpr ?_, by rw [h]⟩
  exact (List.getElem?_eq_some_iff.mp h).1
theorem xlv_has {n : Nat} (h : xLoc ls nL ad n lo) : lv_has ls nL (xlv ad lo) := by
  refine ⟨h.1, h.2.1, fun q hq => ?_⟩
  obtain ⟨i, -, hi⟩ := List.mem_filterMap.mp hq
  split at hi
  · rename_i v hv
    cases hi
    exact (h.2.2.2 i v hv).1
  · cases hi
theorem xloc_set {n i : Nat} {v : Value} (h : xLoc ls nL ad n lo) (hv : xok n v) (hi : i < lo.length) {ls' : Array Slot} (h' : lv_has ls' nL ((i, xcv ad v) :: (xlv ad lo).filter (fun q => !(q.1 == i) && !(q.1 + 1 == i && q.2.category == 2)))) : xLoc ls' nL ad n (lo.set i (some v)) := by
  refine ⟨h'.1, h'.2.1, by rw [List.length_set]; exact h.2.2.1, fun j w hj => ?_⟩
  rw [List.getElem?_set] at hj
  by_cases e : i = j
  · subst e
    rw [if_pos rfl, if_pos hi] at hj
    cases hj
    exact ⟨h'.2.2 (i, xcv ad v) List.mem_cons_self, hv⟩
  · rw [if_neg e] at hj
    obtain ⟨h1, h2⟩ := h.2.2.2 j w hj
    refine ⟨h'.2.2 (j, xcv ad w) (List.mem_cons_of_mem _ (List.mem_filter.mpr ⟨xlv_mem hj, ?_⟩)), h2⟩
    have hc : (xcv ad w).category = 1 := by rw [xcv_cat]; exact xok_cat h2
    simp [hc, show ¬ j = i from fun q => e q.symm]
theorem xPt.setL {ls' : Array Slot} {i : Nat} {v : Value} (h : xPt D A s nL n0 s0 ad0 ca0 H locs ls ad ca lo st σ) (hv : xok σ.1 v) (hi : i < lo.length) (h' : lv_has ls' nL ((i, xcv ad v) :: (xlv ad lo).filter (fun q => !(q.1 == i) && !(q.1 + 1 == i && q.2.category == 2)))) : xPt D A s nL n0 s0 ad0 ca0 H locs ls' ad ca (lo.set i (some v)) st σ :=
  ⟨h.1, xloc_set h.2.1 hv hi h', h.2.2⟩
/-- the arrays' words of one cell -/
theorem xPt.arr {a t k : Nat} {b : (Nat → Int32) ⊕ (Nat → Option Nat)} (h : xPt D A s nL n0 s0 ad0 ca0 H locs ls ad ca lo st σ) (ha : a < σ.1) (hf : σ.2.2 a = .inr (t, k, b)) : va_K D vwCl [(ca a, xty t)] s := by
  refine ⟨h.1.2.2.2.1.1, fun k q hq => ?_⟩
  match k, hq with
  | 0, hq => cases hq; exact h.1.2.2.2.1.2 a ha _ _ _ hf
  | k + 1, hq => simp at hq
theorem xPt.K (h : xPt D A s nL n0 s0 ad0 ca0 H locs ls ad ca lo st σ) : va_K D vwCl [] s := ⟨h.1.2.2.2.1.1, fun k q hq => by simp at hq⟩
/-- a cell is written -/
theorem xPt.write {a : Nat} {x : XE} {H1 : Heap} {locs1 : List Loc} {st' : List Value} (h : xPt D A s nL n0 s0 ad0 ca0 H locs ls ad ca lo st σ) (ha : a < σ.1) (hst : ∀ v ∈ st', xok σ.1 v)
    (hP : va_P D vwCl ((xws ad ca σ.2.2 σ.1).set a (ad a, xce ad (ca a) x)) H1) (hD : va_D A ((xws ad ca σ.2.2 σ.1).set a (ad a, xce ad (ca a) x))) (hS : va_S A s.heap H1 locs1)
    (hk : ∀ t n b, x = .inr (t, n, b) → ∃ n' b', σ.2.2 a = .inr (t, n', b'))
    (hc1 : ∀ ci fs, x = .inl (ci, fs) → ∀ b, Value.ref b ∈ fs → b < σ.1) (hc2 : ∀ t k g, x = .inr (t, k, .inr g) → ∀ j b, g j = some b → b < σ.1) :
    xPt D A s nL n0 s0 ad0 ca0 H1 locs1 ls ad ca lo st' (σ.1, σ.2.1, va_up σ.2.2 a x) := by
  rw [xws_set x ha] at hP hD
  refine ⟨⟨hP, hD, hS, ⟨h.1.2.2.2.1.1, fun i hi t n b hf => ?_⟩, fun i hi => ?_⟩, h.2.1, hst, h.2.2.2⟩
  · have hf : va_up σ.2.2 a x i = .inr (t, n, b) := hf
    by_cases e : i = a
    · subst e
      rw [va_up_self] at hf
      obtain ⟨n', b', h9⟩ := hk _ _ _ hf
      exact h.1.2.2.2.1.2 i hi _ _ _ h9
    · rw [va_up_ne _ _ e] at hf
      exact h.1.2.2.2.1.2 i hi _ _ _ hf
  · by_cases e : i = a
    · subst e
      show (∀ ci fs, va_up σ.2.2 i x i = _ → _) ∧ (∀ t k g, va_up σ.2.2 i x i = _ → _)
      rw [va_up_self]
      exact ⟨hc1, hc2⟩
    · show (∀ ci fs, va_up σ.2.2 a x i = _ → _) ∧ (∀ t k g, va_up σ.2.2 a x i = _ → _)
      rw [va_up_ne _ _ e]
      exact h.1.2.2.2.2 i hi
theorem xcv_ext {ad' : Nat → Nat} {n : Nat} {v : Value} (hv : xok n v) (h : ∀ i, i < n → ad' i = ad i) : xcv ad' v = xcv ad v := by
  cases v with
  | ref a => exact congrArg Value.ref (h a hv)
  | _ => rfl
theorem xmap_ext {ad' : Nat → Nat} {n : Nat} {r : List Value} (hv : ∀ v ∈ r, xok n v) (h : ∀ i, i < n → ad' i = ad i) : r.map (xcv ad') = r.map (xcv ad) := List.map_congr_left fun v hm => xcv_ext (hv v hm) h
theorem xce_ext {ad' : Nat → Nat} {n : Nat} {x : XE} {cA : ClassId} (h : ∀ i, i < n → ad' i = ad i) (h1 : ∀ ci fs, x = .inl (ci, fs) → ∀ b, Value.ref b ∈ fs → b < n) (h2 : ∀ t k g, x = .inr (t, k, .inr g) → ∀ j b, g j = some b → b < n) : xce ad' cA x = xce ad cA x := by
  match x with
  | .inl (ci, fs) =>
    show (Sum.inr (ci, fs.map (xcv ad')) : va_E) = .inr (ci, fs.map (xcv ad))
    rw [List.map_congr_left fun v hm => ?_]
    cases v with
    | ref a => exact congrArg Value.ref (h a (h1 _ _ rfl a hm))
    | _ => rfl
  | .inr (t, k, .inl g) => rfl
  | .inr (t, k, .inr g) =>
    show (Sum.inl (cA, k, .inr (.inr (.inr (.inr (fun i => (g i).map ad'))))) : va_E) = .inl (cA, k, .inr (.inr (.inr (.inr (fun i => (g i).map ad)))))
    have : (fun i => (g i).map ad') = (fun i => (g i).map ad) := by
      funext i
      cases hg : g i with
      | none => rfl
      | some b => exact congrArg some (h b (h2 _ _ _ rfl i b hg))
    rw [this]
theorem xws_push {ad' : Nat → Nat} {ca' : Nat → ClassId} {f f' : Nat → XE} {n : Nat} (hc : xclo n f) (h1 : ∀ i, i < n → ad' i = ad i) (h2 : ∀ i, i < n → ca' i = ca i) (h3 : ∀ i, i < n → f' i = f i) : xws ad' ca' f' (n + 1) = xws ad ca f n ++ [(ad' n, xce ad' (ca' n) (f' n))] := by
  unfold xws
  rw [List.range_succ, List.map_append]
  congr 1
  refine List.map_congr_left fun i hi => ?_
  have hi := List.mem_range.mp hi
  rw [h1 i hi, h2 i hi, h3 i hi, xce_ext h1 (hc i hi).1 (hc i hi).2]
theorem xloc_ext {ad' : Nat → Nat} {n n' : Nat} (h : xLoc ls nL ad n lo) (h1 : ∀ i, i < n → ad' i = ad i) (hn : n ≤ n') : xLoc ls nL ad' n' lo := by
  refine ⟨h.1, h.2.1, h.2.2.1, fun i v hi => ?_⟩
  obtain ⟨a, b⟩ := h.2.2.2 i v hi
  rw [xcv_ext b h1]
  refine ⟨a, ?_⟩
  cases v with
  | ref x => exact Nat.lt_of_lt_of_le b hn
  | int x => trivial
  | _ => exact b
theorem xok_le {n n' : Nat} {v : Value} (h : xok n v) (hn : n ≤ n') : xok n' v := by
  cases v with
  | ref x => exact Nat.lt_of_lt_of_le h hn
  | int x => trivial
  | _ => exact h
/-- a new cell -/
theorem xPt.alloc {q : Nat} {cA : ClassId} {x : XE} {dn : Nat} {H1 : Heap} {locs1 : List Loc} {st' : List Value} (h : xPt D A s nL n0 s0 ad0 ca0 H locs ls ad ca lo st σ) (hst : ∀ v ∈ st', xok σ.1 v)
    (hk : ∀ t n b, x = .inr (t, n, b) → ArrOfT s cA (xty t) ∧ va_RA s cA (xty t)) (hc1 : ∀ ci fs, x = .inl (ci, fs) → ∀ b, Value.ref b ∈ fs → b < σ.1) (hc2 : ∀ t k g, x = .inr (t, k, .inr g) → ∀ j b, g j = some b → b < σ.1)
    (hP : va_P D vwCl (xws ad ca σ.2.2 σ.1 ++ [(q, xce ad cA x)]) H1) (hD : va_D A (xws ad ca σ.2.2 σ.1 ++ [(q, xce ad cA x)])) (hS : va_S A s.heap H1 locs1) :
    xPt D A s nL n0 s0 ad0 ca0 H1 locs1 ls (va_up ad σ.1 q) (va_up ca σ.1 cA) lo (.ref σ.1 :: st') (σ.1 + 1, σ.2.1 + dn, va_up σ.2.2 σ.1 x) := by
  have e1 : ∀ i, i < σ.1 → va_up ad σ.1 q i = ad i := fun i hi => va_up_ne _ _ (Nat.ne_of_lt hi)
  have hpush : xws (va_up ad σ.1 q) (va_up ca σ.1 cA) (va_up σ.2.2 σ.1 x) (σ.1 + 1) = xws ad ca σ.2.2 σ.1 ++ [(q, xce ad cA x)] := by
    rw [xws_push (ad := ad) (ca := ca) (f := σ.2.2) h.1.2.2.2.2 e1 (fun i hi => va_up_ne _ _ (Nat.ne_of_lt hi)) (fun i hi => va_up_ne _ _ (Nat.ne_of_lt hi))]
    rw [va_up_self, va_up_self, va_up_self, xce_ext e1 hc1 hc2]
  refine ⟨⟨?_, ?_, hS, ⟨h.1.2.2.2.1.1, fun i hi t n b hf => ?_⟩, fun i hi => ?_⟩, xloc_ext h.2.1 e1 (Nat.le_succ _), fun v hv => ?_, Nat.le_succ_of_le h.2.2.2.1, Nat.le_trans h.2.2.2.2.1 (Nat.le_add_right _ _), fun i hi => ?_⟩
  · show va_P D vwCl (xws (va_up ad σ.1 q) (va_up ca σ.1 cA) (va_up σ.2.2 σ.1 x) (σ.1 + 1)) H1
    rw [hpush]; exact hP
  · show va_D A (xws (va_up ad σ.1 q) (va_up ca σ.1 cA) (va_up σ.2.2 σ.1 x) (σ.1 + 1))
    rw [hpush]; exact hD
  · have hf : va_up σ.2.2 σ.1 x i = .inr (t, n, b) := hf
    have hi : i < σ.1 + 1 := hi
    by_cases e : i = σ.1
    · subst e
      rw [va_up_self] at hf ⊢
      exact hk _ _ _ hf
    · rw [va_up_ne _ _ e] at hf ⊢
      exact h.1.2.2.2.1.2 i (by omega) _ _ _ hf
  · have hi : i < σ.1 + 1 := hi
    show (∀ ci fs, va_up σ.2.2 σ.1 x i = .inl (ci, fs) → ∀ b, Value.ref b ∈ fs → b < σ.1 + 1) ∧ (∀ t k g, va_up σ.2.2 σ.1 x i = .inr (t, k, .inr g) → ∀ j b, g j = some b → b < σ.1 + 1)
    by_cases e : i = σ.1
    · subst e
      rw [va_up_self]
      exact ⟨fun ci fs e b hb => Nat.lt_succ_of_lt (hc1 ci fs e b hb), fun t k g e j b hb => Nat.lt_succ_of_lt (hc2 t k g e j b hb)⟩
    · rw [va_up_ne _ _ e]
      have hh := h.1.2.2.2.2 i (by omega)
      exact ⟨fun ci fs e b hb => Nat.lt_succ_of_lt (hh.1 ci fs e b hb), fun t k g e j b hb => Nat.lt_succ_of_lt (hh.2 t k g e j b hb)⟩
  · show xok (σ.1 + 1) v
    rcases List.mem_cons.mp hv with rfl | hv
    · exact Nat.lt_succ_self _
    · exact xok_le (hst v hv) (Nat.le_succ _)
  · have := h.2.2.2.1
    rw [va_up_ne _ _ (by omega), va_up_ne _ _ (by omega)]
    exact h.2.2.2.2.2 i hi
theorem xty_ref {t : Nat} (h : 2 ≤ t) : (xty t).isReference = true := by
  match t, h with
  | 2, _ => rfl
  | 3, _ => rfl
  | k + 4, _ => rfl
theorem xcyI {args : Array Value} {s : State} (h : (Cond.arrayClass .int).before args s = true) : ∃ c : ClassId, ArrOfT s c .int ∧ va_RA s c .int := by
  obtain ⟨c, k, comp, h1, h2, h3⟩ := Cond.arrayClass_spec h
  exact ⟨c, fun N z => ⟨(fun q hq => by cases hq), k, h2, comp, h3⟩, h1⟩
/-- new int[n][k] -/
theorem xPt.grid {q : Nat} {r9 : Nat → Nat} {cA cy : ClassId} {N9 K9 : Nat} {H1 : Heap} {locs1 : List Loc} {st' : List Value} {f9 : Nat → va_E} (h : xPt D A s nL n0 s0 ad0 ca0 H locs ls ad ca lo st σ) (hst : ∀ v ∈ st', xok σ.1 v)
    (hkA : ArrOfT s cA (.array .int) ∧ va_RA s cA (.array .int)) (hkI : ArrOfT s cy .int ∧ va_RA s cy .int)
    (hP : va_P D vwCl ((xws ad ca σ.2.2 σ.1 ++ [(q, .inl (cA, N9, .inr (.inr (.inr (.inr (fun i => if i < N9 then some (r9 i) else none))))))]) ++ va_pl ([] ++ (List.range N9).map r9) (vr_up f9 ((List.range N9).map r9) (.inl (cy, K9, .inl (fun _ => 0))))) H1)
    (hD : va_D A ((xws ad ca σ.2.2 σ.1 ++ [(q, .inl (cA, N9, .inr (.inr (.inr (.inr (fun i => if i < N9 then some (r9 i) else none))))))]) ++ va_pl ([] ++ (List.range N9).map r9) (vr_up f9 ((List.range N9).map r9) (.inl (cy, K9, .inl (fun _ => 0)))))) (hS : va_S A s.heap H1 locs1) :
    xPt D A s nL n0 s0 ad0 ca0 H1 locs1 ls (fun i => if i < σ.1 then ad i else if i = σ.1 then q else r9 (i - (σ.1 + 1))) (fun i => if i < σ.1 then ca i else if i = σ.1 then cA else cy) lo (.ref σ.1 :: st')
      (σ.1 + 1 + N9, σ.2.1 + N9 + N9 * K9, fun q => if q < σ.1 then σ.2.2 q else if q = σ.1 then .inr (4, N9, .inr (fun i => if i < N9 then some (σ.1 + 1 + i) else none)) else .inr (0, K9, .inl (fun _ => 0))) := by
  generalize had : (fun i => if i < σ.1 then ad i else if i = σ.1 then q else r9 (i - (σ.1 + 1))) = ad'
  generalize hca : (fun i => if i < σ.1 then ca i else if i = σ.1 then cA else cy) = ca'
  generalize hf : (fun q => if q < σ.1 then σ.2.2 q else if q = σ.1 then (.inr (4, N9, .inr (fun i => if i < N9 then some (σ.1 + 1 + i) else none)) : XE) else .inr (0, K9, .inl (fun _ => 0))) = f'
  have a1 : ∀ i, i < σ.1 → ad' i = ad i := fun i hi => by rw [← had]; exact if_pos hi
  have a2 : ad' σ.1 = q := by rw [← had]; simp
  have a3 : ∀ i, ad' (σ.1 + 1 + i) = r9 i := fun i => by
    rw [← had]
    show (if σ.1 + 1 + i < σ.1 then _ else _) = _
    rw [if_neg (by omega), if_neg (by omega), show σ.1 + 1 + i - (σ.1 + 1) = i by omega]
  have c1 : ∀ i, i < σ.1 → ca' i = ca i := fun i hi => by rw [← hca]; exact if_pos hi
  have c2 : ca' σ.1 = cA := by rw [← hca]; simp
  have c3 : ∀ i, ca' (σ.1 + 1 + i) = cy := fun i => by
    rw [← hca]
    show (if σ.1 + 1 + i < σ.1 then _ else _) = _
    rw [if_neg (by omega), if_neg (by omega)]
  have f1 : ∀ i, i < σ.1 → f' i = σ.2.2 i := fun i hi => by rw [← hf]; exact if_pos hi
  have f2 : f' σ.1 = .inr (4, N9, .inr (fun i => if i < N9 then some (σ.1 + 1 + i) else none)) := by rw [← hf]; simp
  have f3 : ∀ i, σ.1 < i → f' i = .inr (0, K9, .inl (fun _ => 0)) := fun i hi => by
    rw [← hf]
    show (if i < σ.1 then _ else _) = _
    rw [if_neg (by omega), if_neg (by omega)]
  have key : xws ad' ca' f' (σ.1 + 1 + N9) = (xws ad ca σ.2.2 σ.1 ++ [(q, .inl (cA, N9, .inr (.inr (.inr (.inr (fun i => if i < N9 then some (r9 i) else none))))))]) ++ va_pl ([] ++ (List.range N9).map r9) (vr_up f9 ((List.range N9).map r9) (.inl (cy, K9, .inl (fun _ => 0)))) := by
    have e1 : xws ad' ca' f' (σ.1 + 1 + N9) = xws ad' ca' f' (σ.1 + 1) ++ (List.range N9).map (fun i => (r9 i, (.inl (cy, K9, .inl (fun _ => 0)) : va_E))) := by
      unfold xws
      rw [List.range_add, List.map_append, List.map_map]
      congr 1
      refine List.map_congr_left fun i _ => ?_
      show (ad' (σ.1 + 1 + i), xce ad' (ca' (σ.1 + 1 + i)) (f' (σ.1 + 1 + i))) = _
      rw [a3, c3, f3 _ (by omega)]
      rfl
    rw [e1, xws_push (ad := ad) (ca := ca) (f := σ.2.2) h.1.2.2.2.2 a1 c1 f1, a2, c2, f2, List.nil_append]
    congr 1
    · congr 3
      show (Sum.inl (cA, N9, .inr (.inr (.inr (.inr (fun i => (if i < N9 then some (σ.1 + 1 + i) else none : Option Nat).map ad'))))) : va_E) = _
      have : (fun i => (if i < N9 then some (σ.1 + 1 + i) else none : Option Nat).map ad') = fun i => if i < N9 then some (r9 i) else none := by
        funext i
        by_cases hi : i < N9
        · rw [if_pos hi, if_pos hi]
          exact congrArg some (a3 i)
        · rw [if_neg hi, if_neg hi]
          rfl
      rw [this]
    · unfold va_pl
      rw [List.map_map]
      refine List.map_congr_left fun i hi => ?_
      show _ = (r9 i, vr_up f9 ((List.range N9).map r9) _ (r9 i))
      rw [vr_up_in (List.mem_map.mpr ⟨i, hi, rfl⟩)]
  rw [← key] at hP hD
  refine ⟨⟨hP, hD, hS, ⟨h.1.2.2.2.1.1, fun i hi t n b hfi => ?_⟩, fun i hi => ?_⟩, xloc_ext h.2.1 a1 (by show σ.1 ≤ σ.1 + 1 + N9; omega), fun v hv => ?_, ?_, ?_, fun i hi => ?_⟩
  · have hi : i < σ.1 + 1 + N9 := hi
    have hfi : f' i = .inr (t, n, b) := hfi
    rcases Nat.lt_trichotomy i σ.1 with q1 | q1 | q1
    · rw [f1 i q1] at hfi
      rw [c1 i q1]
      exact h.1.2.2.2.1.2 i q1 _ _ _ hfi
    · subst q1
      rw [f2] at hfi
      cases hfi
      rw [c2]
      exact hkA
    · rw [f3 i q1] at hfi
      cases hfi
      have := c3 (i - (σ.1 + 1))
      rw [show σ.1 + 1 + (i - (σ.1 + 1)) = i by omega] at this
      rw [this]
      exact hkI
  · have hi : i < σ.1 + 1 + N9 := hi
    show (∀ ci fs, f' i = .inl (ci, fs) → ∀ b, Value.ref b ∈ fs → b < σ.1 + 1 + N9) ∧ (∀ t k g, f' i = .inr (t, k, .inr g) → ∀ j b, g j = some b → b < σ.1 + 1 + N9)
    rcases Nat.lt_trichotomy i σ.1 with q1 | q1 | q1
    · rw [f1 i q1]
      have hh := h.1.2.2.2.2 i q1
      exact ⟨fun ci fs e b hb => Nat.lt_of_lt_of_le (hh.1 ci fs e b hb) (by omega), fun t k g e j b hb => Nat.lt_of_lt_of_le (hh.2 t k g e j b hb) (by omega)⟩
    · subst q1
      rw [f2]
      refine ⟨(fun ci fs e => nomatch e), fun t k g e j b hb => ?_⟩
      cases e
      dsimp only at hb
      split at hb
      · cases hb
        omega
      · cases hb
    · rw [f3 i q1]
      exact ⟨(fun ci fs e => nomatch e), fun t k g e => by cases e⟩
  · show xok (σ.1 + 1 + N9) v
    rcases List.mem_cons.mp hv with rfl | hv
    · show σ.1 < σ.1 + 1 + N9
      omega
    · exact xok_le (hst v hv) (by omega)
  · have := h.2.2.2.1
    show n0 ≤ σ.1 + 1 + N9
    omega
  · have := h.2.2.2.2.1
    show s0 ≤ σ.2.1 + N9 + N9 * K9
    generalize N9 * K9 = z
    omega
  · have := h.2.2.2.1
    rw [a1 i (by omega), c1 i (by omega)]
    exact h.2.2.2.2.2 i hi
theorem xdef_nr {c : Nat} (b : Nat) : ¬ Value.ref b ∈ xdef c := by
  intro h
  obtain ⟨k, -, hk⟩ := List.mem_map.mp h
  cases hty : xFty c k <;> rw [hty] at hk <;> cases hk
theorem xdef_map {c : Nat} : (xdef c).map (xcv ad) = xdef c := by
  conv => rhs; rw [← List.map_id (xdef c)]
  refine List.map_congr_left fun v hv => ?_
  cases v with
  | ref b => exact absurd hv (xdef_nr b)
  | _ => rfl
theorem xdef_at {c j : Nat} (h : j < (xV c).2.2) : defaultValue (xFty c j) = vp_V (xdef c) j := by
  unfold vp_V xdef
  rw [List.getD_eq_getElem?_getD, List.getElem?_map, List.getElem?_range h]
  rfl
theorem xtag_ok {c t : Nat} (h : xtag c = some t) : xty t = .object (xR c) ∧ Cond.arrayOver (.object (xR c)) ∈ xO := by
  unfold xtag at h
  split at h
  · cases h; exact ⟨rfl, List.mem_cons_self⟩
  · cases h; exact ⟨rfl, List.mem_cons_of_mem _ List.mem_cons_self⟩
  · cases h
theorem xup_map {g : Nat → Option Nat} {i v : Nat} : va_up (fun i => (g i).map ad) i (some (ad v)) = fun j => (va_up g i (some v) j).map ad := by
  funext j
  by_cases e : j = i
  · subst e
    rw [va_up_self, va_up_self]
    rfl
  · rw [va_up_ne _ _ e, va_up_ne _ _ e]
theorem xasg (vm : Vm) (c : ClassId) : vm.assignable c c = true := by
  unfold Vm.assignable Vm.assignableAux
  simp
theorem xjmp_ok {α : Type} {pc : Nat} {off : Int} {k : Nat → Option α} {r : α} (h : xjmp pc off k = some r) : (pc : Int) + off = (((pc : Int) + off).toNat : Int) ∧ k ((pc : Int) + off).toNat = some r := by
  unfold xjmp at h
  split at h
  · exact ⟨(Int.toNat_of_nonneg (by assumption)).symm, h⟩
  · cases h
theorem xcls0 {ci : Nat} {q : vw_C} (h : vwCl[ci]? = some q) : ∀ k, k < q.2.2 → (q.2.1 k).1 = xR ci := by
  match ci, h with
  | 0, h => cases h; decide
  | 1, h => cases h; decide
  | 2, h => cases h; decide
  | 3, h => cases h; decide
  | 4, h => cases h; decide
  | 5, h => cases h; decide
  | 6, h => cases h; decide
  | 7, h => cases h; decide
  | 8, h => cases h; decide
  | 9, h => cases h; decide
  | 10, h => cases h; decide +kernel
  | k + 11, h => simp [vwCl] at h
theorem ts_nt' {x : Bool} (h : ¬ x = true) : x = false := by cases x <;> simp_all
theorem xvp {i : Int32} {n : Nat} (h : ¬ (i < 0 ∨ n ≤ i.toNatClampNeg)) : vp_in i n := h
theorem xlt {a b : Int32} (h : ¬ a < b) : b ≤ a := by
  rw [Int32.le_iff_toInt_le]
  rw [Int32.lt_iff_toInt_lt] at h
  omega
theorem xle {a b : Int32} (h : ¬ b ≤ a) : a < b := by
  rw [Int32.le_iff_toInt_le] at h
  rw [Int32.lt_iff_toInt_lt]
  omega
theorem xnle {a b : Int32} (h : a < b) : ¬ b ≤ a := by
  rw [Int32.le_iff_toInt_le]
  rw [Int32.lt_iff_toInt_lt] at h
  omega
set_option maxHeartbeats 4000000 in
set_option maxRecDepth 100000 in
theorem xst_ok {α : Type} {pc len : Nat} {i : Instr} {k : Nat → XL → List Value → XS → Option α} {r : α} (F : xFix p s m args meth c u) (hA : ∀ q, s.heap.size ≤ q → A q) (hd : decode (xM u).2.2.1 pc = .ok (i, len)) (hl : xlenok i len = true)
    (h : xst (xM u).1 (xini u) pc i lo st σ k = some r) (hpt : xPt D A s nL n0 s0 ad0 ca0 H locs ls ad ca lo st σ)
    (hk : ∀ pc' lo' st' σ' H' locs' ls' ad' ca', k pc' lo' st' σ' = some r → xPt D A s nL n0 s0 ad0 ca0 H' locs' ls' ad' ca' lo' st' σ' → W p l e R s m args below meth c H' locs' (σ'.1 - n0) (σ'.2.1 - s0) Q (F0 m pc' ls' (st'.map (xcv ad'))))
    (hm : ∀ pc' lo' st' σ', k pc' lo' st' σ' = some r → σ'.1 - n0 ≤ R.cells ∧ σ'.2.1 - s0 ≤ R.slots) :
    W p l e R s m args below meth c H locs (σ.1 - n0) (σ.2.1 - s0) Q (F0 m pc ls (st.map (xcv ad))) := by
  obtain ⟨hx, hb, hml, hown, hts, htn, hini⟩ := F
  have hLL : lo.length = nL := hpt.2.1.2.2.1
  cases i
  case iload_n j =>
    cases of_decide_eq_true hl
    dsimp only [xst] at h
    split at h
    · rename_i x hj
      obtain ⟨h1, h2⟩ := hpt.loc hj
      exact lv_iload_n hx hb hd rfl h1 (hk _ _ _ _ _ _ _ _ _ h (hpt.push trivial))
    · cases h
  case iload j =>
    cases of_decide_eq_true hl
    dsimp only [xst] at h
    split at h
    · rename_i x hj
      obtain ⟨h1, h2⟩ := hpt.loc hj
      exact lv_iload hx hb hd h1 (hk _ _ _ _ _ _ _ _ _ h (hpt.push trivial))
    · cases h
  case aload_n j =>
    cases of_decide_eq_true hl
    dsimp only [xst] at h
    split at h
    · rename_i x hj
      obtain ⟨h1, h2⟩ := hpt.loc hj
      exact lv_aload_n hx hb hd rfl h1 (hk _ _ _ _ _ _ _ _ _ h (hpt.push h2))
    · cases h
  case aload j =>
    cases of_decide_eq_true hl
    dsimp only [xst] at h
    split at h
    · rename_i x hj
      obtain ⟨h1, h2⟩ := hpt.loc hj
      exact lv_aload hx hb hd h1 (hk _ _ _ _ _ _ _ _ _ h (hpt.push h2))
    · cases h
  case istore_n j =>
    cases of_decide_eq_true hl
    dsimp only [xst] at h
    split at h
    · rename_i x r'
      split at h
      · rename_i hj
        exact lv_istore_n hx hb hd rfl (xlv_has hpt.2.1) (hLL ▸ hj) rfl (fun ls' h' => hk _ _ _ _ _ _ _ _ _ h (hpt.pop.setL (v := .int x) hpt.top hj h'))
      · cases h
    · cases h
  case istore j =>
    cases of_decide_eq_true hl
    dsimp only [xst] at h
    split at h
    · rename_i x r'
      split at h
      · rename_i hj
        exact lv_istore hx hb hd (xlv_has hpt.2.1) (hLL ▸ hj) rfl (fun ls' h' => hk _ _ _ _ _ _ _ _ _ h (hpt.pop.setL (v := .int x) hpt.top hj h'))
      · cases h
    · cases h
  case astore_n j =>
    cases of_decide_eq_true hl
    dsimp only [xst] at h
    split at h
    · rename_i x r'
      split at h
      · rename_i hj
        exact lv_astore_n hx hb hd rfl (xlv_has hpt.2.1) (hLL ▸ hj) rfl (fun ls' h' => hk _ _ _ _ _ _ _ _ _ h (hpt.pop.setL (v := .ref x) hpt.top hj h'))
      · cases h
    · cases h
  case astore j =>
    cases of_decide_eq_true hl
    dsimp only [xst] at h
    split at h
    · rename_i x r'
      split at h
      · rename_i hj
        exact lv_astore hx hb hd (xlv_has hpt.2.1) (hLL ▸ hj) rfl (fun ls' h' => hk _ _ _ _ _ _ _ _ _ h (hpt.pop.setL (v := .ref x) hpt.top hj h'))
      · cases h
    · cases h
  case iconst n =>
    cases of_decide_eq_true hl
    exact lv_iconst hx hb hd rfl (hk _ _ _ _ _ _ _ _ _ h (hpt.push trivial))
  case bipush n =>
    cases of_decide_eq_true hl
    exact lv_bipush hx hb hd rfl (hk _ _ _ _ _ _ _ _ _ h (hpt.push trivial))
  case sipush n =>
    cases of_decide_eq_true hl
    exact lv_sipush hx hb hd rfl (hk _ _ _ _ _ _ _ _ _ h (hpt.push trivial))
  case iadd =>
    cases of_decide_eq_true hl
    dsimp only [xst] at h
    split at h
    · exact lv_iadd hx hb hd (hk _ _ _ _ _ _ _ _ _ h (hpt.pop.pop.push trivial))
    · cases h
  case isub =>
    cases of_decide_eq_true hl
    dsimp only [xst] at h
    split at h
    · exact lv_isub hx hb hd (hk _ _ _ _ _ _ _ _ _ h (hpt.pop.pop.push trivial))
    · cases h
  case imul =>
    cases of_decide_eq_true hl
    dsimp only [xst] at h
    split at h
    · exact lv_imul hx hb hd (hk _ _ _ _ _ _ _ _ _ h (hpt.pop.pop.push trivial))
    · cases h
  case idiv =>
    cases of_decide_eq_true hl
    dsimp only [xst] at h
    split at h
    · split at h
      · cases h
      · rename_i hne
        exact lv_idiv hx hb hd hne (hk _ _ _ _ _ _ _ _ _ h (hpt.pop.pop.push trivial))
    · cases h
  case irem =>
    cases of_decide_eq_true hl
    dsimp only [xst] at h
    split at h
    · split at h
      · cases h
      · rename_i hne
        exact lv_irem hx hb hd hne (hk _ _ _ _ _ _ _ _ _ h (hpt.pop.pop.push trivial))
    · cases h
  case iinc j n =>
    cases of_decide_eq_true hl
    dsimp only [xst] at h
    split at h
    · rename_i x hj
      have hjl : j < lo.length := (List.getElem?_eq_some_iff.mp hj).1
      obtain ⟨k9, hk9⟩ := List.mem_iff_getElem?.mp (xlv_mem (ad := ad) hj)
      exact lv_iinc hx hb hd (xlv_has hpt.2.1) hk9 rfl (hLL ▸ hjl) rfl (fun ls' h' => hk _ _ _ _ _ _ _ _ _ h (hpt.setL (v := .int (x + Int32.ofInt n)) trivial hjl h'))
    · cases h
  case dup =>
    cases of_decide_eq_true hl
    dsimp only [xst] at h
    split at h
    · rename_i v r'
      exact lv_dup hx hb hd (by rw [xcv_cat]; exact xok_cat hpt.top) (hk _ _ _ _ _ _ _ _ _ h (hpt.push hpt.top))
    · cases h
  case dup2 =>
    cases of_decide_eq_true hl
    dsimp only [xst] at h
    split at h
    · rename_i v w r'
      exact lv_dup2_11 hx hb hd (by rw [xcv_cat]; exact xok_cat hpt.top) (by rw [xcv_cat]; exact xok_cat hpt.pop.top) (hk _ _ _ _ _ _ _ _ _ h ((hpt.push hpt.pop.top).push hpt.top))
    · cases h
  case pop =>
    cases of_decide_eq_true hl
    dsimp only [xst] at h
    split at h
    · rename_i v r'
      exact lv_pop hx hb hd (by rw [xcv_cat]; exact xok_cat hpt.top) (hk _ _ _ _ _ _ _ _ _ h hpt.pop)
    · cases h
  case goto off =>
    cases of_decide_eq_true hl
    dsimp only [xst] at h
    obtain ⟨h1, h2⟩ := xjmp_ok h
    exact lv_goto hx hb hd h1 (hk _ _ _ _ _ _ _ _ _ h2 hpt)
  case ifCond cc off =>
    cases of_decide_eq_true hl
    dsimp only [xst] at h
    split at h
    · cases cc
      case eq =>
        obtain ⟨h1, h2⟩ := xjmp_ok h
        exact lv_if_eq hx hb hd h1 (fun hc => hk _ _ _ _ _ _ _ _ _ ((if_pos hc).symm.trans h2) hpt.pop) (fun hc => hk _ _ _ _ _ _ _ _ _ ((if_neg hc).symm.trans h2) hpt.pop)
      case ne =>
        obtain ⟨h1, h2⟩ := xjmp_ok h
        exact lv_if_ne hx hb hd h1 (fun hc => hk _ _ _ _ _ _ _ _ _ ((if_neg hc).symm.trans h2) hpt.pop) (fun hc => hk _ _ _ _ _ _ _ _ _ ((if_pos hc).symm.trans h2) hpt.pop)
      case lt =>
        obtain ⟨h1, h2⟩ := xjmp_ok h
        exact lv_if_lt hx hb hd h1 (fun hc => hk _ _ _ _ _ _ _ _ _ ((if_pos hc).symm.trans h2) hpt.pop) (fun hc => hk _ _ _ _ _ _ _ _ _ ((if_neg hc).symm.trans h2) hpt.pop)
      case ge =>
        obtain ⟨h1, h2⟩ := xjmp_ok h
        exact lv_if_ge hx hb hd h1 (fun hc => hk _ _ _ _ _ _ _ _ _ ((if_neg (fun q => xnle q hc)).symm.trans h2) hpt.pop) (fun hc => hk _ _ _ _ _ _ _ _ _ ((if_pos (xle hc)).symm.trans h2) hpt.pop)
      case gt =>
        obtain ⟨h1, h2⟩ := xjmp_ok h
        exact lv_if_gt hx hb hd h1 (fun hc => hk _ _ _ _ _ _ _ _ _ ((if_pos hc).symm.trans h2) hpt.pop) (fun hc => hk _ _ _ _ _ _ _ _ _ ((if_neg hc).symm.trans h2) hpt.pop)
      case le =>
        obtain ⟨h1, h2⟩ := xjmp_ok h
        exact lv_if_le hx hb hd h1 (fun hc => hk _ _ _ _ _ _ _ _ _ ((if_neg (fun q => xnle q hc)).symm.trans h2) hpt.pop) (fun hc => hk _ _ _ _ _ _ _ _ _ ((if_pos (xle hc)).symm.trans h2) hpt.pop)
    · cases h
  case if_icmp cc off =>
    cases of_decide_eq_true hl
    dsimp only [xst] at h
    split at h
    · cases cc
      case eq =>
        obtain ⟨h1, h2⟩ := xjmp_ok h
        exact lv_icmp_eq hx hb hd h1 (fun hc => hk _ _ _ _ _ _ _ _ _ ((if_pos hc).symm.trans h2) hpt.pop.pop) (fun hc => hk _ _ _ _ _ _ _ _ _ ((if_neg hc).symm.trans h2) hpt.pop.pop)
      case ne =>
        obtain ⟨h1, h2⟩ := xjmp_ok h
        exact lv_icmp_ne hx hb hd h1 (fun hc => hk _ _ _ _ _ _ _ _ _ ((if_neg hc).symm.trans h2) hpt.pop.pop) (fun hc => hk _ _ _ _ _ _ _ _ _ ((if_pos hc).symm.trans h2) hpt.pop.pop)
      case lt =>
        obtain ⟨h1, h2⟩ := xjmp_ok h
        exact lv_icmp_lt hx hb hd h1 (fun hc => hk _ _ _ _ _ _ _ _ _ ((if_pos hc).symm.trans h2) hpt.pop.pop) (fun hc => hk _ _ _ _ _ _ _ _ _ ((if_neg hc).symm.trans h2) hpt.pop.pop)
      case ge =>
        obtain ⟨h1, h2⟩ := xjmp_ok h
        exact lv_icmp_ge hx hb hd h1 (fun hc => hk _ _ _ _ _ _ _ _ _ ((if_neg (fun q => xnle q hc)).symm.trans h2) hpt.pop.pop) (fun hc => hk _ _ _ _ _ _ _ _ _ ((if_pos (xle hc)).symm.trans h2) hpt.pop.pop)
      case gt =>
        obtain ⟨h1, h2⟩ := xjmp_ok h
        exact lv_icmp_gt hx hb hd h1 (fun hc => hk _ _ _ _ _ _ _ _ _ ((if_pos hc).symm.trans h2) hpt.pop.pop) (fun hc => hk _ _ _ _ _ _ _ _ _ ((if_neg hc).symm.trans h2) hpt.pop.pop)
      case le =>
        obtain ⟨h1, h2⟩ := xjmp_ok h
        exact lv_icmp_le hx hb hd h1 (fun hc => hk _ _ _ _ _ _ _ _ _ ((if_neg (fun q => xnle q hc)).symm.trans h2) hpt.pop.pop) (fun hc => hk _ _ _ _ _ _ _ _ _ ((if_pos (xle hc)).symm.trans h2) hpt.pop.pop)
    · cases h
  case tableswitch dd lw hi offs =>
    dsimp only [xst] at h
    split at h
    · split at h
      · rename_i hc
        obtain ⟨h1, h2⟩ := xjmp_ok h
        exact lv_tableOut hx hb hd hc h1 (hk _ _ _ _ _ _ _ _ _ h2 hpt.pop)
      · rename_i hc
        split at h
        · rename_i off ho
          obtain ⟨h1, h2⟩ := xjmp_ok h
          exact lv_tableIn hx hb hd (fun q => hc (Or.inl q)) (fun q => hc (Or.inr q)) ho h1 (hk _ _ _ _ _ _ _ _ _ h2 hpt.pop)
        · cases h
    · cases h
  case getfield j =>
    cases of_decide_eq_true hl
    dsimp only [xst] at h
    split at h
    · rename_i ci kf nest hF
      obtain ⟨f1, f2, f3, f4⟩ := xF_ok hF
      split at h
      · rename_i a r'
        split at h
        · rename_i ha
          split at h
          · rename_i c' fs hf
            split at h
            · rename_i hc
              subst hc
              split at h
              · rename_i v hv
                split at h
                · rename_i hiv
                  have hw := xws_at (ad := ad) (ca := ca) (f := σ.2.2) ha
                  rw [hf] at hw
                  have hv' : (fs.map (xcv ad))[kf]? = some (xcv ad v) := by rw [List.getElem?_map, hv]; rfl
                  have hvo : xok σ.1 v := by
                    cases v with
                    | int x => trivial
                    | ref b => exact (hpt.1.2.2.2.2 a ha).1 _ _ hf b (List.mem_of_getElem? hv)
                    | _ => cases hiv
                  have hgo := hk _ _ _ _ _ _ _ _ _ h (hpt.pop.push hvo)
                  cases nest with
                  | false => exact va_get (C := (xV c').1) (T := (xV c').2.1) (N := (xV c').2.2) hx hb hts (xcls f1).1 hown hpt.K hpt.1.1 a hw f1 kf f2 (hts _ (f3 rfl)) (fun _ h9 => h9) hv' hd hgo
                  | true => exact va_getN (C := (xV c').1) (T := (xV c').2.1) (N := (xV c').2.2) hx hb hts (xcls f1).1 hown hpt.K hpt.1.1 a hw f1 kf f2 (htn _ (xNl (f4 rfl))) (fun _ h9 => h9) hv' hd hgo
                · cases h
              · cases h
            · cases h
          · cases h
        · cases h
      · cases h
    · cases h
  case putfield j =>
    cases of_decide_eq_true hl
    dsimp only [xst] at h
    split at h
    · rename_i ci kf nest hF
      obtain ⟨f1, f2, f3, f4⟩ := xF_ok hF
      split at h
      · rename_i v a r'
        split at h
        · rename_i ha
          split at h
          · rename_i c' fs hf
            split at h
            · rename_i hc
              obtain ⟨hc1, hc2, hc3, hc4⟩ := hc
              subst hc1
              have hw := xws_at (ad := ad) (ca := ca) (f := σ.2.2) ha
              rw [hf] at hw
              obtain ⟨g1, g2, g3⟩ := xcls f1
              obtain ⟨n1, n2⟩ := xfit_ok ad hc4
              have hl' : kf < (fs.map (xcv ad)).length := by rw [List.length_map]; exact hc2
              have hset : (fs.map (xcv ad)).set kf (xcv ad v) = (fs.set kf v).map (xcv ad) := by rw [List.map_set]
              have hgo : ∀ (H1 : Heap) (locs1 : List Loc), va_P D vwCl ((xws ad ca σ.2.2 σ.1).set a (ad a, .inr (c', (fs.map (xcv ad)).set kf (xcv ad v)))) H1 → va_D A ((xws ad ca σ.2.2 σ.1).set a (ad a, .inr (c', (fs.map (xcv ad)).set kf (xcv ad v)))) → va_S A s.heap H1 locs1 → W p l e R s m args below meth c H1 locs1 (σ.1 - n0) (σ.2.1 - s0) Q (F0 m (pc + 3) ls (r'.map (xcv ad))) := by
                intro H1 locs1 q1 q2 q3
                rw [hset] at q1 q2
                have q9 := hk _ _ _ _ H1 locs1 ls ad ca h
                refine q9 (hpt.write (x := .inl (c', fs.set kf v)) ha (fun w hw => hpt.2.2.1 w (List.mem_cons_of_mem _ (List.mem_cons_of_mem _ hw))) q1 q2 q3 (fun _ _ _ q => nomatch q) ?_ (fun _ _ _ q => nomatch q))
                intro ci' fs' q b hb'
                cases q
                rcases List.mem_or_eq_of_mem_set hb' with q | q
                · exact (hpt.1.2.2.2.2 a ha).1 _ _ hf b q
                · have := hpt.top
                  rw [← q] at this
                  exact this
              unfold xput at hc3
              split at hc3
              · rename_i hfin
                simp only [Bool.and_eq_true, Bool.not_eq_true', decide_eq_true_eq] at hc3
                obtain ⟨⟨i1, i2⟩, i3⟩ := hc3
                subst i3
                have hdecl : ((xV c').2.1 kf).1 = xR (xM u).1 := by rw [i2]; exact xcls0 f1 kf f2
                exact va_putF (C := (xV c').1) (T := (xV c').2.1) (N := (xV c').2.2) hx hb hts g1 (xFty c') g2 g3 hown hpt.K hpt.1.1 hpt.1.2.1 hpt.1.2.2.1 a hw f1 kf f2 (hts _ (f3 rfl)) (fun _ h9 => h9) hfin (hini i1) hdecl (g2 kf f2) n1 n2 hl' hd hgo
              · rename_i hfin
                have hfin := ts_nt' hfin
                cases nest with
                | false => exact va_put (C := (xV c').1) (T := (xV c').2.1) (N := (xV c').2.2) hx hb hts g1 (xFty c') g2 g3 hown hpt.K hpt.1.1 hpt.1.2.1 hpt.1.2.2.1 a hw f1 kf f2 (hts _ (f3 rfl)) (fun _ h9 => h9) hfin (g2 kf f2) n1 n2 hl' hd hgo
                | true => exact va_putN (C := (xV c').1) (T := (xV c').2.1) (N := (xV c').2.2) hx hb hts g1 (xFty c') g2 g3 hown hpt.K hpt.1.1 hpt.1.2.1 hpt.1.2.2.1 a hw f1 kf f2 (htn _ (xNl (f4 rfl))) (fun _ h9 => h9) hfin (g2 kf f2) n1 n2 hl' hd hgo
            · cases h
          · cases h
        · cases h
      · cases h
    · cases h
  case iaload =>
    cases of_decide_eq_true hl
    dsimp only [xst] at h
    split at h
    · rename_i i a r'
      split at h
      · rename_i ha
        split at h
        · rename_i n g hf
          split at h
          · cases h
          · rename_i hi
            have hw := xws_at (ad := ad) (ca := ca) (f := σ.2.2) ha
            rw [hf] at hw
            exact va_iald hx hb (hpt.arr ha hf) hpt.1.1 a 0 hw rfl hi hd (hk _ _ _ _ _ _ _ _ _ h (hpt.pop.pop.push trivial))
        · cases h
      · cases h
    · cases h
  case baload =>
    cases of_decide_eq_true hl
    dsimp only [xst] at h
    split at h
    · rename_i i a r'
      split at h
      · rename_i ha
        split at h
        · rename_i n g hf
          split at h
          · cases h
          · rename_i hi
            have hw := xws_at (ad := ad) (ca := ca) (f := σ.2.2) ha
            rw [hf] at hw
            exact va_zald hx hb (hpt.arr ha hf) hpt.1.1 a 0 hw rfl hi hd (hk _ _ _ _ _ _ _ _ _ h (hpt.pop.pop.push trivial))
        · cases h
      · cases h
    · cases h
  case iastore =>
    cases of_decide_eq_true hl
    dsimp only [xst] at h
    split at h
    · rename_i x i a r'
      split at h
      · rename_i ha
        split at h
        · rename_i n g hf
          split at h
          · cases h
          · rename_i hi
            have hw := xws_at (ad := ad) (ca := ca) (f := σ.2.2) ha
            rw [hf] at hw
            refine va_iast hx hb (hpt.arr ha hf) hpt.1.1 hpt.1.2.1 hpt.1.2.2.1 a 0 hw rfl hi hd (fun H1 locs1 q1 q2 q3 => ?_)
            have q9 := hk _ _ _ _ H1 locs1 ls ad ca h
            exact q9 (hpt.write (x := .inr (0, n, .inl (upd g i.toNatClampNeg x))) ha (fun w hw => hpt.2.2.1 w (List.mem_cons_of_mem _ (List.mem_cons_of_mem _ (List.mem_cons_of_mem _ hw)))) q1 q2 q3 (fun t n' b q => by cases q; exact ⟨_, _, hf⟩) (fun _ _ q => nomatch q) (fun t k g' q => by cases q))
        · cases h
      · cases h
    · cases h
  case bastore =>
    cases of_decide_eq_true hl
    dsimp only [xst] at h
    split at h
    · rename_i x i a r'
      split at h
      · rename_i ha
        split at h
        · rename_i n g hf
          split at h
          · cases h
          · rename_i hi
            have hw := xws_at (ad := ad) (ca := ca) (f := σ.2.2) ha
            rw [hf] at hw
            refine va_zast hx hb (hpt.arr ha hf) hpt.1.1 hpt.1.2.1 hpt.1.2.2.1 a 0 hw rfl hi hd (fun H1 locs1 q1 q2 q3 => ?_)
            have q9 := hk _ _ _ _ H1 locs1 ls ad ca h
            exact q9 (hpt.write (x := .inr (1, n, .inl (upd g i.toNatClampNeg (vp_nar .boolean x)))) ha (fun w hw => hpt.2.2.1 w (List.mem_cons_of_mem _ (List.mem_cons_of_mem _ (List.mem_cons_of_mem _ hw)))) q1 q2 q3 (fun t n' b q => by cases q; exact ⟨_, _, hf⟩) (fun _ _ q => nomatch q) (fun t k g' q => by cases q))
        · cases h
      · cases h
    · cases h
  case arraylength =>
    cases of_decide_eq_true hl
    dsimp only [xst] at h
    split at h
    · rename_i a r'
      split at h
      · rename_i ha
        split at h
        · rename_i t n b hf
          have hw := xws_at (ad := ad) (ca := ca) (f := σ.2.2) ha
          rw [hf] at hw
          cases b with
          | inl g => exact va_alen hx hb (hpt.arr ha hf) hpt.1.1 a 0 hw rfl rfl hd (hk _ _ _ _ _ _ _ _ _ h (hpt.pop.push trivial))
          | inr g => exact va_alen hx hb (hpt.arr ha hf) hpt.1.1 a 0 hw rfl rfl hd (hk _ _ _ _ _ _ _ _ _ h (hpt.pop.push trivial))
        · cases h
      · cases h
    · cases h
  case aaload =>
    cases of_decide_eq_true hl
    dsimp only [xst] at h
    split at h
    · rename_i i a r'
      split at h
      · rename_i ha
        split at h
        · rename_i t n g hf
          split at h
          · cases h
          · rename_i hi
            split at h
            · rename_i b hg
              have hw := xws_at (ad := ad) (ca := ca) (f := σ.2.2) ha
              rw [hf] at hw
              have ht : 2 ≤ t := Nat.not_lt.mp fun q => hi (Or.inl q)
              have hin : vp_in i n := fun q => hi (Or.inr q)
              have hlt : i.toNatClampNeg < n := Nat.not_le.mp fun q => hin (Or.inr q)
              have hgo := hk _ _ _ _ _ _ _ _ _ h (hpt.pop.pop.push (v := .ref b) ((hpt.1.2.2.2.2 a ha).2 _ _ _ hf _ _ hg))
              refine W.aald (v := .ref (ad b)) (ty := xty t) hx hb (hpt.1.1 a _ hw) (((hpt.arr ha hf).2 0 _ rfl).1 n (fun j => va_rf ((g j).map ad))) (xty_ref ht) (fun q => by cases q) (by show ¬ (i < 0 ∨ (arrV _ _ _).slots.size ≤ _); rw [arrV_size]; exact hin) (by show (arrV _ _ _).slots[_]? = _; rw [arrV_read _ _ hlt]; show some (va_rf (Option.map ad (g i.toNatClampNeg))) = _; rw [hg]; rfl) rfl rfl hd hgo
            · cases h
        · cases h
      · cases h
    · cases h
  case newarray at' =>
    cases of_decide_eq_true hl
    dsimp only [xst] at h
    split at h
    · rename_i n r'
      split at h
      · cases h
      · rename_i hn
        have hn0 : ¬ n < 0 := fun q => hn (Or.inl q)
        have hn1 : n.toNatClampNeg ≤ 100000 := Nat.not_lt.mp fun q => hn (Or.inr q)
        have hok : ∀ v ∈ r', xok σ.1 v := fun w hw => hpt.2.2.1 w (List.mem_cons_of_mem _ hw)
        cases at'
        case int =>
          have hmm := hm _ _ _ _ h
          have hn0' := hpt.2.2.2.1
          have hs0' := hpt.2.2.2.2.1
          dsimp only at hmm
          refine va_newa (atype := .int) (a0 := (n.toNatClampNeg, .inl (fun _ => 0))) (ty := .int) hx hb (hts _ xarI) rfl hpt.K hpt.1.1 hpt.1.2.1 hpt.1.2.2.1 hA (fun _ => rfl) hn0 rfl (by show _ * 4 ≤ _; omega) (by omega) (by omega) hd (fun q cA H1 k1 k2 k3 k4 => ?_)
          have hz := hpt.alloc (q := q) (cA := cA) (x := .inr (0, n.toNatClampNeg, .inl (fun _ => 0))) (dn := n.toNatClampNeg) hok (fun t n' b e => by cases e; exact k1.2 0 _ rfl) (fun _ _ e => nomatch e) (fun _ _ _ e => by cases e) k2 k3 k4
          have q9 := hk _ _ _ _ H1 locs ls _ _ h hz
          rw [show σ.1 - n0 + 1 = σ.1 + 1 - n0 by omega, show σ.2.1 - s0 + n.toNatClampNeg = σ.2.1 + n.toNatClampNeg - s0 by omega]
          rw [List.map_cons, xmap_ext hok (fun i hi => va_up_ne _ _ (Nat.ne_of_lt hi)), show xcv (va_up ad σ.1 q) (.ref σ.1) = .ref q from congrArg Value.ref (va_up_self _ _ _)] at q9
          exact q9
        case boolean =>
          have hmm := hm _ _ _ _ h
          have hn0' := hpt.2.2.2.1
          have hs0' := hpt.2.2.2.2.1
          dsimp only at hmm
          refine va_newa (atype := .boolean) (a0 := (n.toNatClampNeg, .inl (fun _ => 0))) (ty := .boolean) hx hb (hts _ xarZ) rfl hpt.K hpt.1.1 hpt.1.2.1 hpt.1.2.2.1 hA (fun _ => rfl) hn0 rfl (by show _ * 1 ≤ _; omega) (by omega) (by omega) hd (fun q cA H1 k1 k2 k3 k4 => ?_)
          have hz := hpt.alloc (q := q) (cA := cA) (x := .inr (1, n.toNatClampNeg, .inl (fun _ => 0))) (dn := n.toNatClampNeg) hok (fun t n' b e => by cases e; exact k1.2 0 _ rfl) (fun _ _ e => nomatch e) (fun _ _ _ e => by cases e) k2 k3 k4
          have q9 := hk _ _ _ _ H1 locs ls _ _ h hz
          rw [show σ.1 - n0 + 1 = σ.1 + 1 - n0 by omega, show σ.2.1 - s0 + n.toNatClampNeg = σ.2.1 + n.toNatClampNeg - s0 by omega]
          rw [List.map_cons, xmap_ext hok (fun i hi => va_up_ne _ _ (Nat.ne_of_lt hi)), show xcv (va_up ad σ.1 q) (.ref σ.1) = .ref q from congrArg Value.ref (va_up_self _ _ _)] at q9
          exact q9
        all_goals cases h
    · cases h
  case new j =>
    cases of_decide_eq_true hl
    dsimp only [xst] at h
    split at h
    · rename_i ci hK
      obtain ⟨k1, k2, k3, k4⟩ := xK_ok hK
      have hmm := hm _ _ _ _ h
      have hn0' := hpt.2.2.2.1
      have hs0' := hpt.2.2.2.2.1
      dsimp only at hmm
      have hok : ∀ v ∈ st, xok σ.1 v := hpt.2.2.1
      refine va_new (C := (xV ci).1) (T := (xV ci).2.1) (N := (xV ci).2.2) (fs := xdef ci) hx hb hts (xcls k4).1 (xFty ci) (xcls k4).2.1 hown (hts _ k1) (hts _ k2) (hts _ k3) hpt.K hpt.1.1 hpt.1.2.1 hpt.1.2.2.1 hA k4 (fun j hj => xdef_at hj) (by omega) (by omega) hd (fun q H1 k2 k3 k4 => ?_)
      have hz := hpt.alloc (q := q) (cA := ca σ.1) (x := .inl (ci, xdef ci)) (dn := (xV ci).2.2) hok (fun t n' b e => nomatch e) (fun ci' fs e b hb' => by cases e; exact absurd hb' (xdef_nr b)) (fun _ _ _ e => nomatch e) (by show va_P D vwCl (_ ++ [(q, .inr (ci, (xdef ci).map (xcv ad)))]) H1; rw [xdef_map]; exact k2) (by show va_D A (_ ++ [(q, .inr (ci, (xdef ci).map (xcv ad)))]); rw [xdef_map]; exact k3) k4
      have q9 := hk _ _ _ _ H1 locs ls _ _ h hz
      rw [show σ.1 - n0 + 1 = σ.1 + 1 - n0 by omega, show σ.2.1 - s0 + (xV ci).2.2 = σ.2.1 + (xV ci).2.2 - s0 by omega]
      rw [List.map_cons, xmap_ext hok (fun i hi => va_up_ne _ _ (Nat.ne_of_lt hi)), show xcv (va_up ad σ.1 q) (.ref σ.1) = .ref q from congrArg Value.ref (va_up_self _ _ _)] at q9
      exact q9
    · cases h
  case anewarray j =>
    cases of_decide_eq_true hl
    dsimp only [xst] at h
    split at h
    · rename_i ci hK
      obtain ⟨k1, k2, k3, k4⟩ := xK_ok hK
      split at h
      · rename_i t ht
        split at h
        · rename_i n r'
          split at h
          · cases h
          · rename_i hn
            have hn0 : ¬ n < 0 := fun q => hn (Or.inl q)
            have hn1 : n.toNatClampNeg ≤ 100000 := Nat.not_lt.mp fun q => hn (Or.inr q)
            have hok : ∀ v ∈ r', xok σ.1 v := fun w hw => hpt.2.2.1 w (List.mem_cons_of_mem _ hw)
            have hmm := hm _ _ _ _ h
            have hn0' := hpt.2.2.2.1
            have hs0' := hpt.2.2.2.2.1
            dsimp only at hmm
            obtain ⟨ht1, ht2⟩ := xtag_ok ht
            refine va_newq (C := xR ci) hx hb hown (hts _ k1) (va_AO.of (htn _ (List.mem_append_right _ ht2))) hpt.K hpt.1.1 hpt.1.2.1 hpt.1.2.2.1 hA hn0 rfl (by omega) (by omega) (by omega) hd (fun q cA H1 k1 k2 k3 k4 => ?_)
            have hz := hpt.alloc (q := q) (cA := cA) (x := .inr (t, n.toNatClampNeg, .inr (fun _ => none))) (dn := n.toNatClampNeg) hok (fun t n' b e => by cases e; rw [ht1]; exact k1.2 0 _ rfl) (fun _ _ e => nomatch e) (fun _ _ _ e j b hb' => by cases e; cases hb') k2 k3 k4
            have q9 := hk _ _ _ _ H1 locs ls _ _ h hz
            rw [show σ.1 - n0 + 1 = σ.1 + 1 - n0 by omega, show σ.2.1 - s0 + n.toNatClampNeg = σ.2.1 + n.toNatClampNeg - s0 by omega]
            rw [List.map_cons, xmap_ext hok (fun i hi => va_up_ne _ _ (Nat.ne_of_lt hi)), show xcv (va_up ad σ.1 q) (.ref σ.1) = .ref q from congrArg Value.ref (va_up_self _ _ _)] at q9
            exact q9
        · cases h
      · cases h
    · cases h
  case aastore =>
    cases of_decide_eq_true hl
    dsimp only [xst] at h
    split at h
    · rename_i v i a r'
      split at h
      · rename_i hav
        obtain ⟨ha, hvn⟩ := hav
        split at h
        · rename_i t n g hf
          split at h
          · cases h
          · rename_i hi
            have hel : xels t (σ.2.2 v) = true := by
              cases hq : xels t (σ.2.2 v) with
              | true => rfl
              | false => exact absurd (Or.inl hq) hi
            have hin : vp_in i n := fun q => hi (Or.inr q)
            have hlt : i.toNatClampNeg < n := Nat.not_le.mp fun q => hin (Or.inr q)
            have h0 : ¬ i < 0 := fun q => hin (Or.inl q)
            have hw := xws_at (ad := ad) (ca := ca) (f := σ.2.2) ha
            rw [hf] at hw
            have hwv := xws_at (ad := ad) (ca := ca) (f := σ.2.2) hvn
            have hgo : ∀ (H1 : Heap) (locs1 : List Loc), va_P D vwCl ((xws ad ca σ.2.2 σ.1).set a (ad a, .inl (ca a, n, .inr (.inr (.inr (.inr (va_up (fun i => (g i).map ad) i.toNatClampNeg (some (ad v))))))))) H1 → va_D A ((xws ad ca σ.2.2 σ.1).set a (ad a, .inl (ca a, n, .inr (.inr (.inr (.inr (va_up (fun i => (g i).map ad) i.toNatClampNeg (some (ad v))))))))) → va_S A s.heap H1 locs1 → W p l e R s m args below meth c H1 locs1 (σ.1 - n0) (σ.2.1 - s0) Q (F0 m (pc + 1) ls (r'.map (xcv ad))) := by
              intro H1 locs1 q1 q2 q3
              rw [xup_map] at q1 q2
              have q9 := hk _ _ _ _ H1 locs1 ls ad ca h
              refine q9 (hpt.write (x := .inr (t, n, .inr (va_up g i.toNatClampNeg (some v)))) ha (fun w hw => hpt.2.2.1 w (List.mem_cons_of_mem _ (List.mem_cons_of_mem _ (List.mem_cons_of_mem _ hw)))) q1 q2 q3 (fun t n' b q => by cases q; exact ⟨_, _, hf⟩) (fun _ _ q => nomatch q) ?_)
              intro t' k' g' q j b hb'
              cases q
              by_cases e : j = i.toNatClampNeg
              · subst e
                rw [va_up_self] at hb'
                cases hb'
                exact hvn
              · rw [va_up_ne _ _ e] at hb'
                exact (hpt.1.2.2.2.2 a ha).2 _ _ _ hf _ _ hb'
            unfold xels at hel
            split at hel
            · rename_i c' fs hfv
              cases of_decide_eq_true hel
              rw [hfv] at hwv
              exact va_astq (r := xV 3) hx hb (hpt.arr ha hf) hpt.1.1 hpt.1.2.1 hpt.1.2.2.1 a 0 v 3 hw rfl hwv rfl hin hd hgo
            · rename_i c' fs hfv
              cases of_decide_eq_true hel
              rw [hfv] at hwv
              exact va_astq (r := xV 6) hx hb (hpt.arr ha hf) hpt.1.1 hpt.1.2.1 hpt.1.2.2.1 a 0 v 6 hw rfl hwv rfl hin hd hgo
            · rename_i n9 b9 hfv
              rw [hfv] at hwv
              have kv := ((hpt.arr hvn hfv).2 0 _ rfl).2
              have ka := ((hpt.arr ha hf).2 0 _ rfl).2
              have kv : s.vm.findClass ("[" ++ FieldType.int.toString) = some (ca v) := kv
              have ka : s.vm.findClass ("[" ++ (FieldType.array .int).toString) = some (ca a) := ka
              obtain ⟨comp, cc', kk', e1, -, e3, e4, e5⟩ := Jvm.Stand.arrayOver_specB (htn (.arrayOver (.array .int)) (List.mem_append_right _ (List.mem_cons_of_mem _ (List.mem_cons_of_mem _ List.mem_cons_self))))
              have e6 : cc' = ca a := Option.some.inj (e5.symm.trans ka)
              subst e6
              have e7 : comp = ca v := Option.some.inj (e1.symm.trans (by rw [show (FieldType.array FieldType.int).toString = "[" ++ FieldType.int.toString from rfl]; exact kv))
              subst e7
              obtain ⟨kC, hkC, -⟩ := Vm.findClass_spec e1
              obtain ⟨cv, hcv1, hcv2, hcv3⟩ : ∃ cv : Cell, H[ad v]? = some cv ∧ cv.vm = .none ∧ cv.cls = ca v := by
                cases b9 with
                | inl g9 => exact ⟨_, hpt.1.1 v _ hwv, rfl, rfl⟩
                | inr g9 => exact ⟨_, hpt.1.1 v _ hwv, rfl, rfl⟩
              refine W.aast hx hb (hpt.1.1 a _ hw) (fun q h => by cases h) (fun h => by cases h) e3 e4 rfl hkC ⟨h0, by show _ < (arrV _ _ _).slots.size; rw [arrV_size]; exact hlt⟩ hcv1 (fun q h => by rw [hcv2] at h; cases h) (by rw [hcv3]; exact hkC) (by rw [hcv3]; exact xasg _ _) rfl rfl hd fun H1 e z oq => ?_
              refine hgo H1 _ (hpt.1.1.set hpt.1.2.1 hw ?_ oq) (hpt.1.2.1.set hw) (hpt.1.2.2.1.put z oq (hpt.1.2.1.2 a _ hw))
              show H1[ad a]? = some (vp_cell _ _)
              rw [e]
              show some (Cell.setSlot (vp_cell _ _) _ _) = _
              rw [vp_cell_q, vp_cell_q, arrV_store]
              congr 2
              funext q
              by_cases hq : q = i.toNatClampNeg
              · subst hq
                simp [updV, va_up, va_rf]
              · simp [updV, va_up, hq]
            · cases hel
        · cases h
      · cases h
    · cases h
  case multianewarray j dm =>
    cases of_decide_eq_true hl
    dsimp only [xst] at h
    split at h
    · rename_i hmn
      obtain ⟨hmn, rfl⟩ := hmn
      split at h
      · rename_i kk n r'
        split at h
        · cases h
        · rename_i hn
          have hk0 : ¬ kk < 0 := fun q => hn (Or.inl q)
          have hn0 : ¬ n < 0 := fun q => hn (Or.inr (Or.inl q))
          have hn1 : n.toNatClampNeg ≤ 10000 := Nat.not_lt.mp fun q => hn (Or.inr (Or.inr (Or.inl q)))
          have hk1 : kk.toNatClampNeg ≤ 10000 := Nat.not_lt.mp fun q => hn (Or.inr (Or.inr (Or.inr q)))
          have hok : ∀ v ∈ r', xok σ.1 v := fun w hw => hpt.2.2.1 w (List.mem_cons_of_mem _ (List.mem_cons_of_mem _ hw))
          have hmm := hm _ _ _ _ h
          have hn0' := hpt.2.2.2.1
          have hs0' := hpt.2.2.2.2.1
          dsimp only at hmm
          obtain ⟨cy, hcy, hcy2⟩ := xcyI (hts _ xarI)
          have hcy2' : s.vm.findClass (FieldType.array FieldType.int).toString = some cy := hcy2
          have hP0 : va_P D vwCl (xws ad ca σ.2.2 σ.1 ++ va_pl [] (fun _ => .inr (0, []))) H := by rw [show va_pl [] (fun _ => (.inr (0, []) : va_E)) = [] from rfl, List.append_nil]; exact hpt.1.1
          have hD0 : va_D A (xws ad ca σ.2.2 σ.1 ++ va_pl [] (fun _ => .inr (0, []))) := by rw [show va_pl [] (fun _ => (.inr (0, []) : va_E)) = [] from rfl, List.append_nil]; exact hpt.1.2.1
          refine va_mna (z := (kk.toNatClampNeg, .inl (fun _ => 0))) (ty := .int) hx hb hown (hts _ (xMN_ok hmn)) (htn (.arrayOver (.array .int)) (List.mem_append_right _ (List.mem_cons_of_mem _ (List.mem_cons_of_mem _ List.mem_cons_self)))) (hts _ xarI) hcy2' hpt.K hP0 hD0 hpt.1.2.2.1 hA hn0 hk0 rfl rfl (by omega) (by show _ * 4 ≤ _; omega) (by omega) rfl rfl (by omega) (by omega) (fun c => by rw [vp_cell_i, ← arrV_new]; rfl) hd (fun q r9 cA H1 hinj _ k1 k2 k3 k4 => ?_)
          have hz := hpt.grid (q := q) (r9 := r9) (cA := cA) (cy := cy) (N9 := n.toNatClampNeg) (K9 := kk.toNatClampNeg) hok (k1.2 0 _ rfl) ⟨hcy, hcy2⟩ k2 k3 k4
          have q9 := hk _ _ _ _ H1 locs ls _ _ h hz
          rw [show σ.1 - n0 + 1 + n.toNatClampNeg = σ.1 + 1 + n.toNatClampNeg - n0 by omega, show σ.2.1 - s0 + n.toNatClampNeg + n.toNatClampNeg * kk.toNatClampNeg = σ.2.1 + n.toNatClampNeg + n.toNatClampNeg * kk.toNatClampNeg - s0 by omega]
          rw [List.map_cons, xmap_ext hok (fun i hi => if_pos hi), show xcv (fun i => if i < σ.1 then ad i else if i = σ.1 then q else r9 (i - (σ.1 + 1))) (.ref σ.1) = .ref q from congrArg Value.ref (by simp)] at q9
          exact q9
      · cases h
    · cases h
  all_goals (exact absurd h (by dsimp only [xst]; exact fun q => nomatch q))
end XST
