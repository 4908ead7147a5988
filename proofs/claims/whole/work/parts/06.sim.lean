/-! what the abstract machine's cells are in the heap -/
def xcv (ad : Nat → Nat) (v : Value) : Value := match v with
  | .ref a => .ref (ad a)
  | v => v
def xce (ad : Nat → Nat) (cA : ClassId) (x : XE) : va_E := match x with
  | .inl (ci, fs) => .inr (ci, fs.map (xcv ad))
  | .inr (_, n, .inl g) => .inl (cA, n, .inl g)
  | .inr (_, n, .inr g) => .inl (cA, n, .inr (.inr (.inr (.inr (fun i => (g i).map ad)))))
def xws (ad : Nat → Nat) (ca : Nat → ClassId) (f : Nat → XE) (n : Nat) : va_W := (List.range n).map (fun i => (ad i, xce ad (ca i) (f i)))
theorem xws_at {ad : Nat → Nat} {ca : Nat → ClassId} {f : Nat → XE} {n a : Nat} (h : a < n) : (xws ad ca f n)[a]? = some (ad a, xce ad (ca a) (f a)) := by simp [xws, h]
theorem xws_set {ad : Nat → Nat} {ca : Nat → ClassId} {f : Nat → XE} {n a : Nat} (x : XE) (h : a < n) : (xws ad ca f n).set a (ad a, xce ad (ca a) x) = xws ad ca (va_up f a x) n := by
  apply List.ext_getElem?
  intro i
  rw [List.getElem?_set]
  by_cases hi : a = i
  · subst hi
    rw [xws_at h]
    simp [xws, h, va_up]
  · rw [if_neg hi]
    by_cases hn : i < n
    · rw [xws_at hn, xws_at hn]
      simp [va_up, show ¬ i = a from fun q => hi q.symm]
    · simp [xws, hn]
/-- an int, or a reference to a cell -/
def xok (n : Nat) (v : Value) : Prop := match v with
  | .int _ => True
  | .ref a => a < n
  | _ => False
/-- no cell points out -/
def xclo (n : Nat) (f : Nat → XE) : Prop := ∀ i, i < n → (∀ ci fs, f i = .inl (ci, fs) → ∀ b, Value.ref b ∈ fs → b < n) ∧ (∀ t k g, f i = .inr (t, k, .inr g) → ∀ j b, g j = some b → b < n)
def xFix (p : Program) (s : State) (m : MethodId) (args : Array Value) (meth : Method) (c : Code) (u : Nat) : Prop :=
  p.tables.exec = Jvm.exec ∧ c.code = (xM u).2.2.1 ∧ c.maxLocals = (xM u).2.2.2.1 ∧ s.vm.findClass (xR (xM u).1) = some m.cls ∧ (∀ w ∈ xT, w.before args s = true) ∧ (∀ w ∈ xNx, w.before args s = true) ∧ (xini u = true → meth.name = "<init>")
def xKn (D : va_G) (ca : Nat → ClassId) (σ : XS) (U : State) : Prop := (∀ (c : Nat) (q : vw_C), vwCl[c]? = some q → u_Kn U q.1 q.2.1 q.2.2 (D.1 c) (D.2 c)) ∧ ∀ i, i < σ.1 → ∀ t n b, σ.2.2 i = .inr (t, n, b) → ArrOfT U (ca i) (xty t) ∧ va_RA U (ca i) (xty t)
def xSim (D : va_G) (A : Nat → Prop) (s : State) (H : Heap) (locs : List Loc) (ad : Nat → Nat) (ca : Nat → ClassId) (σ : XS) : Prop :=
  va_P D vwCl (xws ad ca σ.2.2 σ.1) H ∧ va_D A (xws ad ca σ.2.2 σ.1) ∧ va_S A s.heap H locs ∧ xKn D ca σ s ∧ xclo σ.1 σ.2.2
def xLoc (ls : Array Slot) (nL : Nat) (ad : Nat → Nat) (n : Nat) (lo : XL) : Prop := ls.size = nL ∧ lv_wf ls ∧ lo.length = nL ∧ ∀ (i : Nat) (v : Value), lo[i]? = some (some v) → ls[i]? = some (.val (xcv ad v)) ∧ xok n v
def xPt (D : va_G) (A : Nat → Prop) (s : State) (nL n0 s0 : Nat) (ad0 : Nat → Nat) (ca0 : Nat → ClassId) (H : Heap) (locs : List Loc) (ls : Array Slot) (ad : Nat → Nat) (ca : Nat → ClassId) (lo : XL) (st : List Value) (σ : XS) : Prop :=
  xSim D A s H locs ad ca σ ∧ xLoc ls nL ad σ.1 lo ∧ (∀ v ∈ st, xok σ.1 v) ∧ n0 ≤ σ.1 ∧ s0 ≤ σ.2.1 ∧ ∀ i, i < n0 → ad i = ad0 i ∧ ca i = ca0 i
theorem xok_cat {n : Nat} {v : Value} (h : xok n v) : v.category = 1 := by
  cases v <;> first | rfl | exact absurd h (by simp [xok])
theorem xcv_cat {ad : Nat → Nat} (v : Value) : (xcv ad v).category = v.category := by cases v <;> rfl
theorem xcls {ci : Nat} {q : vw_C} (h : vwCl[ci]? = some q) : (∀ w ∈ u_ws q.1 q.2.1 q.2.2, w ∈ xT) ∧ (∀ k, k < q.2.2 → parseFieldDescriptor (q.2.1 k).2.2.1 = some (xFty ci k)) ∧ (∀ a, a < q.2.2 → ∀ b, b < q.2.2 → a ≠ b → (q.2.1 a).2.1 ≠ (q.2.1 b).2.1) := by
  match ci, h with
  | 0, h => cases h; exact ⟨xu_0, tyX0_ok, nmX0⟩
  | 1, h => cases h; exact ⟨xu_1, tyX1_ok, nmX1⟩
  | 2, h => cases h; exact ⟨xu_2, tyX2_ok, nmX2⟩
  | 3, h => cases h; exact ⟨xu_3, tyX3_ok, nmX3⟩
  | 4, h => cases h; exact ⟨xu_4, tyX4_ok, nmX4⟩
  | 5, h => cases h; exact ⟨xu_5, tyX5_ok, nmX5⟩
  | 6, h => cases h; exact ⟨xu_6, tyX6_ok, nmX6⟩
  | 7, h => cases h; exact ⟨xu_7, tyX7_ok, nmX7⟩
  | 8, h => cases h; exact ⟨xu_8, tyX8_ok, nmX8⟩
  | 9, h => cases h; exact ⟨xu_9, tyX9_ok, nmX9⟩
  | 10, h => cases h; exact ⟨xu_10, tyX10_ok, nmX10⟩
  | k + 11, h => simp [vwCl] at h
theorem xfit_ok {ty : FieldType} {v : Value} (ad : Nat → Nat) (h : xfit ty v = true) : narrow ty (xcv ad v) = xcv ad v ∧ fits ty (xcv ad v) = true := by
  unfold xfit at h
  split at h
  · exact ⟨rfl, rfl⟩
  · rename_i x
    rcases of_decide_eq_true h with rfl | rfl
    · exact ⟨rfl, rfl⟩
    · exact ⟨rfl, rfl⟩
  · exact ⟨rfl, rfl⟩
  · exact ⟨rfl, rfl⟩
  · cases h
theorem xF_ok {o j : Nat} {q : Nat × Nat × Bool} (h : xF o j = some q) : xPF ((o, j), q) := by
  have h1 : ((o, j), q) ∈ xFt := by
    unfold xF at h
    generalize xFt = l at h ⊢
    induction l with
    | nil => cases h
    | cons x l ih =>
      rw [List.lookup_cons] at h
      split at h
      · rename_i hb
        cases h
        have : (o, j) = x.1 := by simpa using hb
        rw [this]
        exact List.mem_cons_self
      · exact List.mem_cons_of_mem _ (ih h)
  exact xFt_ok _ h1
theorem xK_ok {o j ci : Nat} (h : xK o j = some ci) : xPK ((o, j), ci) := by
  have h1 : ((o, j), ci) ∈ xKt := by
    unfold xK at h
    generalize xKt = l at h ⊢
    induction l with
    | nil => cases h
    | cons x l ih =>
      rw [List.lookup_cons] at h
      split at h
      · rename_i hb
        cases h
        have : (o, j) = x.1 := by simpa using hb
        rw [this]
        exact List.mem_cons_self
      · exact List.mem_cons_of_mem _ (ih h)
  exact xKt_ok _ h1
