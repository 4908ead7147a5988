/-! the abstract machine: cells by their numbers; objects (class, fields), arrays (kind of element, length, contents) -/
abbrev XE : Type := (Nat × List Value) ⊕ (Nat × Nat × ((Nat → Int32) ⊕ (Nat → Option Nat)))
abbrev XS : Type := Nat × Nat × (Nat → XE)
abbrev XL : Type := List (Option Value)
abbrev XO : Type := Option (Option Value × XS)
def xjmp {α : Type} (pc : Nat) (off : Int) (k : Nat → Option α) : Option α := if 0 ≤ (pc : Int) + off then k ((pc : Int) + off).toNat else none
def xty (t : Nat) : FieldType := match t with
  | 0 => .int
  | 1 => .boolean
  | 2 => .object RX3
  | 3 => .object RX6
  | _ => .array .int
def xfit (ty : FieldType) (v : Value) : Bool := match ty, v with
  | .int, .int _ => true
  | .boolean, .int x => decide (x = 0 ∨ x = 1)
  | .object _, .ref _ => true
  | .array _, .ref _ => true
  | _, _ => false
/-- an int or a reference -/
def xiv (v : Value) : Bool := match v with
  | .int _ => true
  | .ref _ => true
  | _ => false
/-- the type of a field -/
def xFty (c k : Nat) : FieldType := match c with
  | 0 => tyX0 k
  | 1 => tyX1 k
  | 2 => tyX2 k
  | 3 => tyX3 k
  | 4 => tyX4 k
  | 5 => tyX5 k
  | 6 => tyX6 k
  | 7 => tyX7 k
  | 8 => tyX8 k
  | 9 => tyX9 k
  | _ => tyX10 k
/-- a field may be written: not final, or in its own class's constructor -/
def xput (o : Nat) (ini : Bool) (c k : Nat) (nest : Bool) : Bool := if ((xV c).2.1 k).2.2.2 then ini && decide (o = c) && !nest else true
/-- what a new object holds -/
def xdef (c : Nat) : List Value := (List.range (xV c).2.2).map (fun k => defaultValue (xFty c k))
/-- the kind of an array of references to objects of a class -/
def xtag (c : Nat) : Option Nat := match c with
  | 3 => some 2
  | 6 => some 3
  | _ => none
/-- what an array of a kind may hold -/
def xels (t : Nat) (x : XE) : Bool := match t, x with
  | 2, .inl (c, _) => decide (c = 3)
  | 3, .inl (c, _) => decide (c = 6)
  | 4, .inr (0, _, _) => true
  | _, _ => false
def xst {α : Type} (o : Nat) (ini : Bool) (pc : Nat) (i : Instr) (lo : XL) (st : List Value) (σ : XS) (k : Nat → XL → List Value → XS → Option α) : Option α := match i with
  | .iload_n j => (match lo[j.val]? with | some (some (.int x)) => k (pc + 1) lo (.int x :: st) σ | _ => none)
  | .iload j => (match lo[j]? with | some (some (.int x)) => k (pc + 2) lo (.int x :: st) σ | _ => none)
  | .aload_n j => (match lo[j.val]? with | some (some (.ref x)) => k (pc + 1) lo (.ref x :: st) σ | _ => none)
  | .aload j => (match lo[j]? with | some (some (.ref x)) => k (pc + 2) lo (.ref x :: st) σ | _ => none)
  | .istore_n j => (match st with | .int x :: r => if j.val < lo.length then k (pc + 1) (lo.set j.val (some (.int x))) r σ else none | _ => none)
  | .istore j => (match st with | .int x :: r => if j < lo.length then k (pc + 2) (lo.set j (some (.int x))) r σ else none | _ => none)
  | .astore_n j => (match st with | .ref x :: r => if j.val < lo.length then k (pc + 1) (lo.set j.val (some (.ref x))) r σ else none | _ => none)
  | .astore j => (match st with | .ref x :: r => if j < lo.length then k (pc + 2) (lo.set j (some (.ref x))) r σ else none | _ => none)
  | .iconst n => k (pc + 1) lo (.int (Int32.ofInt n) :: st) σ
  | .bipush n => k (pc + 2) lo (.int (Int8.ofInt n).toInt32 :: st) σ
  | .sipush n => k (pc + 3) lo (.int (Int16.ofInt n).toInt32 :: st) σ
  | .iadd => (match st with | .int y :: .int x :: r => k (pc + 1) lo (.int (x + y) :: r) σ | _ => none)
  | .isub => (match st with | .int y :: .int x :: r => k (pc + 1) lo (.int (x - y) :: r) σ | _ => none)
  | .imul => (match st with | .int y :: .int x :: r => k (pc + 1) lo (.int (x * y) :: r) σ | _ => none)
  | .idiv => (match st with | .int y :: .int x :: r => if y = 0 then none else k (pc + 1) lo (.int (x / y) :: r) σ | _ => none)
  | .irem => (match st with | .int y :: .int x :: r => if y = 0 then none else k (pc + 1) lo (.int (x - x / y * y) :: r) σ | _ => none)
  | .iinc j n => (match lo[j]? with | some (some (.int x)) => k (pc + 3) (lo.set j (some (.int (x + Int32.ofInt n)))) st σ | _ => none)
  | .dup => (match st with | v :: r => k (pc + 1) lo (v :: v :: r) σ | _ => none)
  | .dup2 => (match st with | v :: w :: r => k (pc + 1) lo (v :: w :: v :: w :: r) σ | _ => none)
  | .pop => (match st with | _ :: r => k (pc + 1) lo r σ | _ => none)
  | .goto off => xjmp pc off (fun t => k t lo st σ)
  | .ifCond c off => (match st with
    | .int x :: r => (match c with
      | .eq => xjmp pc off (fun t => if x = 0 then k t lo r σ else k (pc + 3) lo r σ)
      | .ne => xjmp pc off (fun t => if x = 0 then k (pc + 3) lo r σ else k t lo r σ)
      | .lt => xjmp pc off (fun t => if x < 0 then k t lo r σ else k (pc + 3) lo r σ)
      | .ge => xjmp pc off (fun t => if x < 0 then k (pc + 3) lo r σ else k t lo r σ)
      | .gt => xjmp pc off (fun t => if 0 < x then k t lo r σ else k (pc + 3) lo r σ)
      | .le => xjmp pc off (fun t => if 0 < x then k (pc + 3) lo r σ else k t lo r σ))
    | _ => none)
  | .if_icmp c off => (match st with
    | .int y :: .int x :: r => (match c with
      | .eq => xjmp pc off (fun t => if x = y then k t lo r σ else k (pc + 3) lo r σ)
      | .ne => xjmp pc off (fun t => if x = y then k (pc + 3) lo r σ else k t lo r σ)
      | .lt => xjmp pc off (fun t => if x < y then k t lo r σ else k (pc + 3) lo r σ)
      | .ge => xjmp pc off (fun t => if x < y then k (pc + 3) lo r σ else k t lo r σ)
      | .gt => xjmp pc off (fun t => if y < x then k t lo r σ else k (pc + 3) lo r σ)
      | .le => xjmp pc off (fun t => if y < x then k (pc + 3) lo r σ else k t lo r σ))
    | _ => none)
  | .tableswitch d l h offs => (match st with
    | .int x :: r => if x.toInt < l ∨ h < x.toInt then xjmp pc d (fun t => k t lo r σ) else (match offs[(x.toInt - l).toNat]? with | some off => xjmp pc off (fun t => k t lo r σ) | none => none)
    | _ => none)
  | .getfield j => (match xF o j with
    | some (ci, kf, _) => (match st with
      | .ref a :: r => if a < σ.1 then (match σ.2.2 a with | .inl (c, fs) => if c = ci then (match fs[kf]? with | some v => if xiv v = true then k (pc + 3) lo (v :: r) σ else none | none => none) else none | _ => none) else none
      | _ => none)
    | none => none)
  | .putfield j => (match xF o j with
    | some (ci, kf, nest) => (match st with
      | v :: .ref a :: r => if a < σ.1 then (match σ.2.2 a with | .inl (c, fs) => if c = ci ∧ kf < fs.length ∧ xput o ini ci kf nest = true ∧ xfit (xFty ci kf) v = true then k (pc + 3) lo r (σ.1, σ.2.1, va_up σ.2.2 a (.inl (c, fs.set kf v))) else none | _ => none) else none
      | _ => none)
    | none => none)
  | .iaload => (match st with
    | .int i :: .ref a :: r => if a < σ.1 then (match σ.2.2 a with | .inr (0, n, .inl g) => if i < 0 ∨ n ≤ i.toNatClampNeg then none else k (pc + 1) lo (.int (g i.toNatClampNeg) :: r) σ | _ => none) else none
    | _ => none)
  | .baload => (match st with
    | .int i :: .ref a :: r => if a < σ.1 then (match σ.2.2 a with | .inr (1, n, .inl g) => if i < 0 ∨ n ≤ i.toNatClampNeg then none else k (pc + 1) lo (.int (g i.toNatClampNeg) :: r) σ | _ => none) else none
    | _ => none)
  | .aaload => (match st with
    | .int i :: .ref a :: r => if a < σ.1 then (match σ.2.2 a with | .inr (t, n, .inr g) => if t < 2 ∨ i < 0 ∨ n ≤ i.toNatClampNeg then none else (match g i.toNatClampNeg with | some b => k (pc + 1) lo (.ref b :: r) σ | none => none) | _ => none) else none
    | _ => none)
  | .iastore => (match st with
    | .int x :: .int i :: .ref a :: r => if a < σ.1 then (match σ.2.2 a with | .inr (0, n, .inl g) => if i < 0 ∨ n ≤ i.toNatClampNeg then none else k (pc + 1) lo r (σ.1, σ.2.1, va_up σ.2.2 a (.inr (0, n, .inl (upd g i.toNatClampNeg x)))) | _ => none) else none
    | _ => none)
  | .bastore => (match st with
    | .int x :: .int i :: .ref a :: r => if a < σ.1 then (match σ.2.2 a with | .inr (1, n, .inl g) => if i < 0 ∨ n ≤ i.toNatClampNeg then none else k (pc + 1) lo r (σ.1, σ.2.1, va_up σ.2.2 a (.inr (1, n, .inl (upd g i.toNatClampNeg (vp_nar .boolean x))))) | _ => none) else none
    | _ => none)
  | .arraylength => (match st with
    | .ref a :: r => if a < σ.1 then (match σ.2.2 a with | .inr (_, n, _) => k (pc + 1) lo (.int (Int32.ofNat n) :: r) σ | _ => none) else none
    | _ => none)
  | .newarray t => (match st with
    | .int n :: r => if n < 0 ∨ 100000 < n.toNatClampNeg then none else (match t with
      | .int => k (pc + 2) lo (.ref σ.1 :: r) (σ.1 + 1, σ.2.1 + n.toNatClampNeg, va_up σ.2.2 σ.1 (.inr (0, n.toNatClampNeg, .inl (fun _ => 0))))
      | .boolean => k (pc + 2) lo (.ref σ.1 :: r) (σ.1 + 1, σ.2.1 + n.toNatClampNeg, va_up σ.2.2 σ.1 (.inr (1, n.toNatClampNeg, .inl (fun _ => 0))))
      | _ => none)
    | _ => none)
  | .new j => (match xK o j with
    | some ci => k (pc + 3) lo (.ref σ.1 :: st) (σ.1 + 1, σ.2.1 + (xV ci).2.2, va_up σ.2.2 σ.1 (.inl (ci, xdef ci)))
    | none => none)
  | .anewarray j => (match xK o j with
    | some ci => (match xtag ci with
      | some t => (match st with
        | .int n :: r => if n < 0 ∨ 100000 < n.toNatClampNeg then none else k (pc + 3) lo (.ref σ.1 :: r) (σ.1 + 1, σ.2.1 + n.toNatClampNeg, va_up σ.2.2 σ.1 (.inr (t, n.toNatClampNeg, .inr (fun _ => none))))
        | _ => none)
      | none => none)
    | none => none)
  | .aastore => (match st with
    | .ref v :: .int i :: .ref a :: r => if a < σ.1 ∧ v < σ.1 then (match σ.2.2 a with | .inr (t, n, .inr g) => if xels t (σ.2.2 v) = false ∨ i < 0 ∨ n ≤ i.toNatClampNeg then none else k (pc + 1) lo r (σ.1, σ.2.1, va_up σ.2.2 a (.inr (t, n, .inr (va_up g i.toNatClampNeg (some v))))) | _ => none) else none
    | _ => none)
  | .multianewarray j dm => if xMN o j = true ∧ dm = 2 then (match st with
    | .int kk :: .int n :: r => if kk < 0 ∨ n < 0 ∨ 10000 < n.toNatClampNeg ∨ 10000 < kk.toNatClampNeg then none else k (pc + 4) lo (.ref σ.1 :: r) (σ.1 + 1 + n.toNatClampNeg, σ.2.1 + n.toNatClampNeg + n.toNatClampNeg * kk.toNatClampNeg, fun q => if q < σ.1 then σ.2.2 q else if q = σ.1 then .inr (4, n.toNatClampNeg, .inr (fun i => if i < n.toNatClampNeg then some (σ.1 + 1 + i) else none)) else .inr (0, kk.toNatClampNeg, .inl (fun _ => 0)))
    | _ => none) else none
  | _ => none
/-- how many parameters a method has -/
def xA (u : Nat) : Nat := xAt.getD u 0
def xini (u : Nat) : Bool := decide ((xM u).2.1.name = "<init>")
def xinv {α : Type} (call : Nat → List Value → XS → XO) (o j vk : Nat) (st : List Value) (σ : XS) (k : List Value → XS → Option α) : Option α := match xC o j with
  | some (kd, u') =>
    if kd = 0 ∧ vk = 0 then (match st.drop (xA u') with
      | .ref b :: rest => if (rest.map Value.category).sum ≤ 8 ∧ b < σ.1 then (match σ.2.2 b with
        | .inl (c, _) => if c = (xM u').1 then (match call u' (.ref b :: (st.take (xA u')).reverse) σ with | some (rv, σ') => k (rv.toList ++ rest) σ' | none => none) else none
        | _ => none) else none
      | _ => none)
    else if (kd = 1 ∨ kd = 2) ∧ vk = 1 then (if (st.take (xA u')).length = xA u' ∧ ((st.drop (xA u')).map Value.category).sum ≤ 8 then (match call u' (st.take (xA u')).reverse σ with | some (rv, σ') => k (rv.toList ++ st.drop (xA u')) σ' | none => none) else none)
    else if kd = 7 ∧ vk = 1 then (match st with | .int y :: .int x :: r => if (r.map Value.category).sum ≤ 8 then k (.int (if x < y then y else x) :: r) σ else none | _ => none)
    else if kd = 8 ∧ vk = 1 then (match st with | .int y :: .int x :: r => if (r.map Value.category).sum ≤ 8 then k (.int (if y < x then y else x) :: r) σ else none | _ => none)
    else if kd = 6 ∧ vk = 2 then (match st with | .ref _ :: r => if (r.map Value.category).sum ≤ 8 then k r σ else none | _ => none)
    else if (kd = 4 ∨ kd = 5) ∧ vk = 2 ∧ xini u' = true ∧ (xM u').2.2.2.2 = none then (match st.drop (xA u') with
      | .ref b :: rest => if (rest.map Value.category).sum ≤ 8 then (match call u' (.ref b :: (st.take (xA u')).reverse) σ with | some (rv, σ') => k (rv.toList ++ rest) σ' | none => none) else none
      | _ => none)
    else if kd = 9 ∧ vk = 1 then (match st with
      | .int n :: .int dp :: .ref a1 :: .int sp :: .ref a0 :: r => if (r.map Value.category).sum ≤ 8 ∧ a0 < σ.1 ∧ a1 < σ.1 then (match σ.2.2 a0, σ.2.2 a1 with
        | .inr (0, n0, .inl g0), .inr (0, n1, .inl g1) => if n < 0 ∨ dp < 0 ∨ sp < 0 ∨ n0 < sp.toNatClampNeg + n.toNatClampNeg ∨ n1 < dp.toNatClampNeg + n.toNatClampNeg then none else k r (σ.1, σ.2.1, va_up σ.2.2 a1 (.inr (0, n1, .inl (va_cpy g0 g1 sp.toNatClampNeg dp.toNatClampNeg n.toNatClampNeg))))
        | _, _ => none) else none
      | _ => none)
    else none
  | none => none
def xgo (call : Nat → List Value → XS → XO) (u : Nat) : Nat → Nat → XL → List Value → XS → XO
  | 0, _, _, _, _ => none
  | n + 1, pc, lo, st, σ => match xIn u pc with
    | none => none
    | some (i, _) => match i with
      | .ireturn => (match st with
        | [.int x] => (match (xM u).2.2.2.2 with | some ty => if xfit ty (.int x) = true then some (some (.int x), σ) else none | none => none)
        | _ => none)
      | .areturn => (match st with
        | [.ref a] => (match (xM u).2.2.2.2 with | some ty => if xfit ty (.ref a) = true then some (some (.ref a), σ) else none | none => none)
        | _ => none)
      | .return_ => (match st with
        | [] => if (xM u).2.2.2.2 = none then some (none, σ) else none
        | _ => none)
      | .invokevirtual j => xinv call (xM u).1 j 0 st σ (fun st' σ' => xgo call u n (pc + 3) lo st' σ')
      | .invokestatic j => xinv call (xM u).1 j 1 st σ (fun st' σ' => xgo call u n (pc + 3) lo st' σ')
      | .invokespecial j => xinv call (xM u).1 j 2 st σ (fun st' σ' => xgo call u n (pc + 3) lo st' σ')
      | i => xst (xM u).1 (xini u) pc i lo st σ (fun pc' lo' st' σ' => xgo call u n pc' lo' st' σ')
def xcall (N : Nat) : Nat → Nat → List Value → XS → XO
  | 0, _, _, _ => none
  | d + 1, u, vs, σ => if vs.length ≤ (xM u).2.2.2.1 then xgo (xcall N d) u N 0 (vs.map some ++ List.replicate ((xM u).2.2.2.1 - vs.length) none) [] σ else none
/-- how long an instruction is -/
def xlenok (i : Instr) (n : Nat) : Bool := match i with
  | .iload_n _ | .aload_n _ | .istore_n _ | .astore_n _ | .iconst _ | .iadd | .isub | .imul | .idiv | .irem | .dup | .dup2 | .pop | .iaload | .baload | .aaload | .aastore | .iastore | .bastore | .arraylength | .ireturn | .areturn | .return_ => decide (n = 1)
  | .iload _ | .aload _ | .istore _ | .astore _ | .bipush _ | .newarray _ => decide (n = 2)
  | .sipush _ | .iinc _ _ | .goto _ | .ifCond _ _ | .if_icmp _ _ | .getfield _ | .putfield _ | .invokevirtual _ | .invokestatic _ | .invokespecial _ | .new _ | .anewarray _ => decide (n = 3)
  | .multianewarray _ _ => decide (n = 4)
  | _ => true
set_option maxRecDepth 100000 in
theorem xIt_len : xIt.all (fun q => q.all (fun r => xlenok r.2.1 r.2.2)) = true := by decide +kernel
