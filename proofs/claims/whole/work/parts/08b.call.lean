/-! the abstract machine's methods are the machine's -/
theorem xst_next {α : Type} {o : Nat} {ini : Bool} {pc : Nat} {i : Instr} {lo : XL} {st : List Value} {σ : XS} {k : Nat → XL → List Value → XS → Option α} {r : α} (h : xst o ini pc i lo st σ k = some r) : ∃ pc' lo' st' σ1, k pc' lo' st' σ1 = some r ∧ σ.1 ≤ σ1.1 ∧ σ.2.1 ≤ σ1.2.1 := by
  cases i <;> dsimp only [xst] at h
  all_goals first
    | contradiction
    | skip
  all_goals repeat' split at h
  all_goals first
    | contradiction
    | exact ⟨_, _, _, _, h, Nat.le_refl _, Nat.le_refl _⟩
    | exact ⟨_, _, _, _, h, Nat.le_succ _, Nat.le_add_right _ _⟩
    | exact ⟨_, _, _, _, h, Nat.le_trans (Nat.le_succ _) (Nat.le_add_right _ _), Nat.le_trans (Nat.le_add_right _ _) (Nat.le_add_right _ _)⟩
    | (obtain ⟨-, h⟩ := xjmp_ok h
       first
         | exact ⟨_, _, _, _, h, Nat.le_refl _, Nat.le_refl _⟩
         | (split at h <;> exact ⟨_, _, _, _, h, Nat.le_refl _, Nat.le_refl _⟩))
theorem xinv_next {α : Type} {call : Nat → List Value → XS → XO} {o j vk : Nat} {st : List Value} {σ : XS} {k : List Value → XS → Option α} {r : α} (hc : ∀ u vs σ rv σ', call u vs σ = some (rv, σ') → σ.1 ≤ σ'.1 ∧ σ.2.1 ≤ σ'.2.1) (h : xinv call o j vk st σ k = some r) : ∃ st' σ1, k st' σ1 = some r ∧ σ.1 ≤ σ1.1 ∧ σ.2.1 ≤ σ1.2.1 := by
  unfold xinv at h
  repeat' split at h
  all_goals first
    | contradiction
    | exact ⟨_, _, h, Nat.le_refl _, Nat.le_refl _⟩
    | exact ⟨_, _, h, hc _ _ _ _ _ (by assumption)⟩
theorem xgo_mono {call : Nat → List Value → XS → XO} (hc : ∀ u vs σ rv σ', call u vs σ = some (rv, σ') → σ.1 ≤ σ'.1 ∧ σ.2.1 ≤ σ'.2.1) {u : Nat} {rv : Option Value} {σ' : XS} : ∀ (n pc : Nat) (lo : XL) (st : List Value) (σ : XS), xgo call u n pc lo st σ = some (rv, σ') → σ.1 ≤ σ'.1 ∧ σ.2.1 ≤ σ'.2.1 := by
  intro n
  induction n with
  | zero => intro pc lo st σ h; cases h
  | succ n ih =>
    intro pc lo st σ h
    unfold xgo at h
    split at h
    · cases h
    · split at h
      · repeat' split at h
        all_goals first
          | contradiction
          | (cases h; exact ⟨Nat.le_refl _, Nat.le_refl _⟩)
      · repeat' split at h
        all_goals first
          | contradiction
          | (cases h; exact ⟨Nat.le_refl _, Nat.le_refl _⟩)
      · repeat' split at h
        all_goals first
          | contradiction
          | (cases h; exact ⟨Nat.le_refl _, Nat.le_refl _⟩)
      · obtain ⟨st', σ1, h1, h2, h3⟩ := xinv_next hc h
        have := ih _ _ _ _ h1
        exact ⟨Nat.le_trans h2 this.1, Nat.le_trans h3 this.2⟩
      · obtain ⟨st', σ1, h1, h2, h3⟩ := xinv_next hc h
        have := ih _ _ _ _ h1
        exact ⟨Nat.le_trans h2 this.1, Nat.le_trans h3 this.2⟩
      · obtain ⟨st', σ1, h1, h2, h3⟩ := xinv_next hc h
        have := ih _ _ _ _ h1
        exact ⟨Nat.le_trans h2 this.1, Nat.le_trans h3 this.2⟩
      · obtain ⟨pc', lo', st', σ1, h1, h2, h3⟩ := xst_next h
        have := ih _ _ _ _ h1
        exact ⟨Nat.le_trans h2 this.1, Nat.le_trans h3 this.2⟩
theorem xcall_mono {N : Nat} : ∀ (d u : Nat) (vs : List Value) (σ : XS) (rv : Option Value) (σ' : XS), xcall N d u vs σ = some (rv, σ') → σ.1 ≤ σ'.1 ∧ σ.2.1 ≤ σ'.2.1 := by
  intro d
  induction d with
  | zero => intro u vs σ rv σ' h; cases h
  | succ d ih =>
    intro u vs σ rv σ' h
    unfold xcall at h
    split at h
    · exact xgo_mono ih _ _ _ _ _ h
    · cases h
abbrev XW : Type := (Nat → Nat) × (Nat → ClassId)
def xW (u : Nat) : List Cond := .code (xM u).2.1 (xM u).2.2.1 (xM u).2.2.2.1 (xM u).2.2.2.2 :: xT
def xAg (n : Nat) (ad : Nat → Nat) (ca : Nat → ClassId) (w : XW) : Prop := ∀ i, i < n → w.1 i = ad i ∧ w.2 i = ca i
def xB (D : va_G) (A : Nat → Prop) (w : XW) (σ : XS) (t : State) : Prop := va_P D vwCl (xws w.1 w.2 σ.2.2 σ.1) t.heap ∧ va_D A (xws w.1 w.2 σ.2.2 σ.1) ∧ xKn D w.2 σ t ∧ xclo σ.1 σ.2.2
def xPre (D : va_G) (ad : Nat → Nat) (ca : Nat → ClassId) (σ : XS) (sz : Nat) (vs : List Value) : Array Value → State → Prop := va_Pc (vs.map (xcv ad)) (fun U => U.heap.size = sz ∧ xB D (fun _ => True) (ad, ca) σ U ∧ (∀ w ∈ xNx, va_Nw w U) ∧ ∀ v ∈ vs, xok σ.1 v)
def xPost (D : va_G) (ad : Nat → Nat) (ca : Nat → ClassId) (n0 : Nat) (rv : Option Value) (σ' : XS) (A : Nat → Prop) : Array Value → State → Outcome → State → Prop := match rv with
  | none => va_Qv (fun w : XW => xAg n0 ad ca w) (fun w t => xB D A w σ' t) A
  | some (.int x) => va_Qi (fun (r : Int32) (w : XW) => r = x ∧ xAg n0 ad ca w) (fun w t => xB D A w σ' t) A
  | some (.ref a) => va_Qr (fun w : XW => xAg n0 ad ca w ∧ a < σ'.1) (fun w ra t => ra = w.1 a ∧ xB D A w σ' t) A
  | _ => fun _ _ _ _ => False
def xRoom (d : Nat) (σ σ' : XS) : Room := { frames := d, cells := σ'.1 - σ.1, slots := σ'.2.1 - σ.2.1, locals := d * 40 }
def xMet (l : Launch) (D : va_G) (d u : Nat) (vs : List Value) (σ : XS) (rv : Option Value) (σ' : XS) : Prop := ∀ (ad : Nat → Nat) (ca : Nat → ClassId) (sz : Nat), Met l (xM u).2.1 (xW u) (xRoom d σ σ') (xPre D ad ca σ sz vs) (xPost D ad ca σ.1 rv σ' (va_A (xws ad ca σ.2.2 σ.1) sz)) (σ'.1 - σ.1) (σ'.2.1 - σ.2.1) (va_A (xws ad ca σ.2.2 σ.1) sz)
theorem xKn_moved {D : va_G} {ca : Nat → ClassId} {σ : XS} {u U : State} (hvm : u.vm.Alike U.vm) (h : xKn D ca σ u) : xKn D ca σ U :=
  ⟨fun c q hq => u_Kn_moved hvm (h.1 c q hq), fun i hi t n b hf => ⟨arrOfT_moved hvm (h.2 i hi t n b hf).1, (h.2 i hi t n b hf).2.moved hvm⟩⟩
theorem xgoodT {ws : List Cond} (h : ∀ w ∈ ws, w ∈ xT) : GoodIn xT ws := fun w hw => ⟨h w hw, good_of_word (List.mem_filter.mp (h w hw)).2⟩
theorem xW_in (u : Nat) : ∀ w ∈ xW u, w ∈ xT := fun w hw => (List.mem_cons.mp hw).elim (fun e => e ▸ (xM_ok u).1) id
theorem xAO_moved {ty : FieldType} {s U : State} (hvm : s.vm.Alike U.vm) (h : va_Nw (.arrayOver (.array ty)) s) : va_Nw (.arrayOver (.array ty)) U := Jvm.Stand.arrayOver_alikeB hvm h
theorem xN_warm {s U : State} (hW : s.WarmedH U.vm) {w : Cond} (hn : w ∈ xNx) (h : va_Nw w s) : va_Nw w U := by
  rcases List.mem_append.mp hn with hn | hn
  · have hx := (List.mem_filter.mp hn).2
    cases w <;> first
      | exact va_Nw.warmF hW h
      | exact va_Nw.warmM hW h
      | exact absurd hx Bool.false_ne_true
  · rcases List.mem_cons.mp hn with rfl | hn
    · exact va_AO.moved hW.alike h
    · rcases List.mem_cons.mp hn with rfl | hn
      · exact va_AO.moved hW.alike h
      · rcases List.mem_cons.mp hn with rfl | hn
        · exact xAO_moved hW.alike h
        · cases hn
theorem xN_nest {w : Cond} (hn : w ∈ xN) : w.onTables = true := by
  have hx := (List.mem_filter.mp hn).2
  cases w <;> first
    | rfl
    | exact absurd hx Bool.false_ne_true
theorem xN_of {w : Cond} (hn : w ∈ xNx) {A : Array Value} {U : State} (h : w.before A U = true) : va_Nw w U := by
  rcases List.mem_append.mp hn with hn | hn
  · exact va_Nw.of (xN_nest hn) h
  · rcases List.mem_cons.mp hn with rfl | hn
    · exact h
    · rcases List.mem_cons.mp hn with rfl | hn
      · exact h
      · rcases List.mem_cons.mp hn with rfl | hn
        · exact h
        · cases hn
theorem xN_use {w : Cond} (hn : w ∈ xNx) {A : Array Value} {U : State} (h : va_Nw w U) : w.before A U = true := by
  rcases List.mem_append.mp hn with hn | hn
  · exact va_Nw.use (xN_nest hn) h
  · rcases List.mem_cons.mp hn with rfl | hn
    · exact h
    · rcases List.mem_cons.mp hn with rfl | hn
      · exact h
      · rcases List.mem_cons.mp hn with rfl | hn
        · exact h
        · cases hn
theorem xN_same {w : Cond} (hn : w ∈ xNx) {u U : State} (h : u.vm.Alike U.vm) (hv : u.vm = U.vm) (hz : va_Nw w u) : va_Nw w U := by
  rcases List.mem_append.mp hn with hn | hn
  · exact va_Nw.same (xN_nest hn) hv hz
  · rcases List.mem_cons.mp hn with rfl | hn
    · exact va_AO.moved h hz
    · rcases List.mem_cons.mp hn with rfl | hn
      · exact va_AO.moved h hz
      · rcases List.mem_cons.mp hn with rfl | hn
        · exact xAO_moved h hz
        · cases hn
theorem xPre_blind {D : va_G} {ad : Nat → Nat} {ca : Nat → ClassId} {σ : XS} {sz : Nat} {vs : List Value} : FrameBlind (xPre D ad ca σ sz vs) := by
  intro a U g mk q
  obtain ⟨q0, q1, ⟨b1, b2, b3, b4⟩, q3, q4⟩ := q
  exact ⟨q0, q1, ⟨b1, b2, xKn_moved (u := U) (U := U.calling g mk a) (Vm.Alike.refl U.vm) b3, b4⟩, fun w hw => xN_same hw (u := U) (U := U.calling g mk a) (Vm.Alike.refl U.vm) rfl (q3 w hw), q4⟩
