/-! what the tables' words say of the instruction tables -/
def xR (o : Nat) : String := (vwCl.getD o (RX0, TX0, 4)).1
def xT : List Cond := lw_tbl.filter goodWord
def xNest (w : Cond) : Bool := match w with
  | .fieldLinkNest _ _ _ _ _ _ => true
  | .methodLinkNest _ _ _ _ => true
  | _ => false
def xN : List Cond := lw_tbl.filter xNest
def xIn (u pc : Nat) : Option (Instr × Nat) := (xIt.getD u []).lookup pc
def xM (u : Nat) : Nat × MethodName × ByteArray × Nat × Option FieldType := xMt.getD u (0, yX0_init, cX0_init, 1, none)
def xF (o i : Nat) : Option (Nat × Nat × Bool) := xFt.lookup (o, i)
def xC (o i : Nat) : Option (Nat × Nat) := xCt.lookup (o, i)
def xK (o i : Nat) : Option Nat := xKt.lookup (o, i)
theorem xtm {w : Cond} (h : w ∈ lw_tbl) (g : goodWord w = true) : w ∈ xT := List.mem_filter.mpr ⟨h, g⟩
theorem xnm {w : Cond} (h : w ∈ lw_tbl) (g : xNest w = true) : w ∈ xN := List.mem_filter.mpr ⟨h, g⟩
theorem xl0 {w : Cond} (h : w ∈ k2_sels lw_privs) : w ∈ lw_tbl := List.mem_append_left _ h
theorem xl1 {w : Cond} (h : w ∈ tables_1_1) : w ∈ lw_tbl := List.mem_append_right _ (List.mem_append_left _ h)
theorem xl2 {w : Cond} (h : w ∈ tables_1_2) : w ∈ lw_tbl := List.mem_append_right _ (List.mem_append_right _ (List.mem_append_left _ h))
theorem xl3 {w : Cond} (h : w ∈ tables_1_3) : w ∈ lw_tbl := List.mem_append_right _ (List.mem_append_right _ (List.mem_append_right _ (List.mem_append_left _ h)))
theorem xl4 {w : Cond} (h : w ∈ tables_1_4) : w ∈ lw_tbl := List.mem_append_right _ (List.mem_append_right _ (List.mem_append_right _ (List.mem_append_right _ (List.mem_append_left _ h))))
theorem xl5 {w : Cond} (h : w ∈ tables_1_5) : w ∈ lw_tbl := List.mem_append_right _ (List.mem_append_right _ (List.mem_append_right _ (List.mem_append_right _ (List.mem_append_right _ h))))
theorem xt0 {w : Cond} (i : Nat) (h : (k2_sels lw_privs)[i]? = some w) (g : goodWord w = true) : w ∈ xT := xtm (xl0 (List.mem_of_getElem? h)) g
theorem xn0 {w : Cond} (i : Nat) (h : (k2_sels lw_privs)[i]? = some w) (g : xNest w = true) : w ∈ xN := xnm (xl0 (List.mem_of_getElem? h)) g
theorem xt1 {w : Cond} (i : Nat) (h : tables_1_1[i]? = some w) (g : goodWord w = true) : w ∈ xT := xtm (xl1 (List.mem_of_getElem? h)) g
theorem xn1 {w : Cond} (i : Nat) (h : tables_1_1[i]? = some w) (g : xNest w = true) : w ∈ xN := xnm (xl1 (List.mem_of_getElem? h)) g
theorem xt2 {w : Cond} (i : Nat) (h : tables_1_2[i]? = some w) (g : goodWord w = true) : w ∈ xT := xtm (xl2 (List.mem_of_getElem? h)) g
theorem xn2 {w : Cond} (i : Nat) (h : tables_1_2[i]? = some w) (g : xNest w = true) : w ∈ xN := xnm (xl2 (List.mem_of_getElem? h)) g
theorem xt3 {w : Cond} (i : Nat) (h : tables_1_3[i]? = some w) (g : goodWord w = true) : w ∈ xT := xtm (xl3 (List.mem_of_getElem? h)) g
theorem xn3 {w : Cond} (i : Nat) (h : tables_1_3[i]? = some w) (g : xNest w = true) : w ∈ xN := xnm (xl3 (List.mem_of_getElem? h)) g
theorem xt4 {w : Cond} (i : Nat) (h : tables_1_4[i]? = some w) (g : goodWord w = true) : w ∈ xT := xtm (xl4 (List.mem_of_getElem? h)) g
theorem xn4 {w : Cond} (i : Nat) (h : tables_1_4[i]? = some w) (g : xNest w = true) : w ∈ xN := xnm (xl4 (List.mem_of_getElem? h)) g
theorem xt5 {w : Cond} (i : Nat) (h : tables_1_5[i]? = some w) (g : goodWord w = true) : w ∈ xT := xtm (xl5 (List.mem_of_getElem? h)) g
theorem xn5 {w : Cond} (i : Nat) (h : tables_1_5[i]? = some w) (g : xNest w = true) : w ∈ xN := xnm (xl5 (List.mem_of_getElem? h)) g
/-- the class of a field's table row -/
def xV (c : Nat) : vw_C := vwCl.getD c (RX0, TX0, 4)
def xPF (q : (Nat × Nat) × (Nat × Nat × Bool)) : Prop := vwCl[q.2.1]? = some (xV q.2.1) ∧ q.2.2.1 < (xV q.2.1).2.2 ∧
  (q.2.2.2 = false → Cond.fieldLink (xR q.1.1) q.1.2 ((xV q.2.1).2.1 q.2.2.1).1 ((xV q.2.1).2.1 q.2.2.1).2.1 ((xV q.2.1).2.1 q.2.2.1).2.2.1 ∈ xT) ∧
  (q.2.2.2 = true → Cond.fieldLinkNest (xR q.1.1) q.1.2 ((xV q.2.1).2.1 q.2.2.1).1 ((xV q.2.1).2.1 q.2.2.1).2.1 ((xV q.2.1).2.1 q.2.2.1).2.2.1 RX9 ∈ xN)
def xPM (m : Nat × MethodName × ByteArray × Nat × Option FieldType) : Prop := Cond.code m.2.1 m.2.2.1 m.2.2.2.1 m.2.2.2.2 ∈ xT ∧ xR m.1 = m.2.1.cls ∧ plainName m.2.1.cls = true ∧ (m.2.1.cls ≠ "java/lang/invoke/MethodHandle" ∧ m.2.1.cls ≠ "java/lang/invoke/VarHandle") ∧ m.2.2.2.1 ≤ 20 ∧ Cond.initialized m.2.1.cls ∈ xT
def xPC (q : (Nat × Nat) × (Nat × Nat)) : Prop := match q.2.1 with
  | 0 => Cond.methodLink (xR q.1.1) q.1.2 (xM q.2.2).2.1 ∈ xT ∧ Cond.instanceMethod (xM q.2.2).2.1 ∈ xT ∧ Cond.selects (xM q.2.2).2.1.cls (xM q.2.2).2.1 (xM q.2.2).2.1 ∈ xT
  | 1 => Cond.methodLink (xR q.1.1) q.1.2 (xM q.2.2).2.1 ∈ xT ∧ Cond.static (xM q.2.2).2.1 ∈ xT
  | 2 => Cond.methodLinkNest (xR q.1.1) q.1.2 (xM q.2.2).2.1 RX9 ∈ xN ∧ Cond.static (xM q.2.2).2.1 ∈ xT
  | 4 => Cond.methodLink (xR q.1.1) q.1.2 (xM q.2.2).2.1 ∈ xT ∧ Cond.instanceMethod (xM q.2.2).2.1 ∈ xT
  | 5 => Cond.methodLinkNest (xR q.1.1) q.1.2 (xM q.2.2).2.1 RX9 ∈ xN ∧ Cond.instanceMethod (xM q.2.2).2.1 ∈ xT
  | 6 => Cond.methodLink (xR q.1.1) q.1.2 objectInit ∈ xT ∧ Cond.instanceMethod objectInit ∈ xT ∧ Cond.code objectInit ⟨#[0xb1]⟩ 1 none ∈ xT
  | 7 => Cond.methodLink (xR q.1.1) q.1.2 Lib.Math.max.name ∈ xT ∧ Cond.static Lib.Math.max.name ∈ xT ∧ Cond.initialized "java/lang/Math" ∈ xT ∧ Cond.code Lib.Math.max.name Lib.Math.max.code 2 (some .int) ∈ xT
  | 8 => Cond.methodLink (xR q.1.1) q.1.2 Lib.Math.min.name ∈ xT ∧ Cond.static Lib.Math.min.name ∈ xT ∧ Cond.initialized "java/lang/Math" ∈ xT ∧ Cond.code Lib.Math.min.name Lib.Math.min.code 2 (some .int) ∈ xT
  | 9 => Cond.methodLink (xR q.1.1) q.1.2 arraycopyName ∈ xT ∧ Cond.native arraycopyName ∈ xT ∧ Cond.static arraycopyName ∈ xT ∧ Cond.initialized "java/lang/System" ∈ xT
  | _ => False
def xChkI (b : ByteArray) (l : List (Nat × Instr × Nat)) : Bool := l.all fun q => decide (decode b q.1 = .ok (q.2.1, q.2.2))
theorem xf_0 : xPF ((5, 9), (5, 0, false)) := ⟨rfl, by decide, fun _ => (xt1 34 rfl rfl), (fun h => nomatch h)⟩
theorem xf_1 : xPF ((5, 15), (5, 1, false)) := ⟨rfl, by decide, fun _ => (xt1 35 rfl rfl), (fun h => nomatch h)⟩
theorem xf_2 : xPF ((5, 18), (5, 2, false)) := ⟨rfl, by decide, fun _ => (xt1 36 rfl rfl), (fun h => nomatch h)⟩
theorem xf_3 : xPF ((5, 21), (5, 3, false)) := ⟨rfl, by decide, fun _ => (xt1 37 rfl rfl), (fun h => nomatch h)⟩
theorem xf_4 : xPF ((5, 24), (5, 4, false)) := ⟨rfl, by decide, fun _ => (xt1 38 rfl rfl), (fun h => nomatch h)⟩
theorem xf_5 : xPF ((5, 27), (5, 5, false)) := ⟨rfl, by decide, fun _ => (xt1 39 rfl rfl), (fun h => nomatch h)⟩
theorem xf_6 : xPF ((5, 30), (5, 6, false)) := ⟨rfl, by decide, fun _ => (xt1 40 rfl rfl), (fun h => nomatch h)⟩
theorem xf_7 : xPF ((3, 9), (3, 0, false)) := ⟨rfl, by decide, fun _ => (xt1 72 rfl rfl), (fun h => nomatch h)⟩
theorem xf_8 : xPF ((3, 19), (3, 1, false)) := ⟨rfl, by decide, fun _ => (xt1 73 rfl rfl), (fun h => nomatch h)⟩
theorem xf_9 : xPF ((3, 15), (3, 2, false)) := ⟨rfl, by decide, fun _ => (xt1 75 rfl rfl), (fun h => nomatch h)⟩
theorem xf_10 : xPF ((1, 11), (1, 0, false)) := ⟨rfl, by decide, fun _ => (xt1 85 rfl rfl), (fun h => nomatch h)⟩
theorem xf_11 : xPF ((1, 17), (1, 1, false)) := ⟨rfl, by decide, fun _ => (xt1 86 rfl rfl), (fun h => nomatch h)⟩
theorem xf_12 : xPF ((1, 23), (1, 2, false)) := ⟨rfl, by decide, fun _ => (xt1 87 rfl rfl), (fun h => nomatch h)⟩
theorem xf_13 : xPF ((1, 26), (1, 3, false)) := ⟨rfl, by decide, fun _ => (xt1 88 rfl rfl), (fun h => nomatch h)⟩
theorem xf_14 : xPF ((0, 9), (0, 0, false)) := ⟨rfl, by decide, fun _ => (xt1 104 rfl rfl), (fun h => nomatch h)⟩
theorem xf_15 : xPF ((0, 15), (0, 1, false)) := ⟨rfl, by decide, fun _ => (xt1 105 rfl rfl), (fun h => nomatch h)⟩
theorem xf_16 : xPF ((0, 19), (0, 2, false)) := ⟨rfl, by decide, fun _ => (xt1 106 rfl rfl), (fun h => nomatch h)⟩
theorem xf_17 : xPF ((0, 22), (0, 3, false)) := ⟨rfl, by decide, fun _ => (xt1 107 rfl rfl), (fun h => nomatch h)⟩
theorem xf_18 : xPF ((4, 11), (4, 0, false)) := ⟨rfl, by decide, fun _ => (xt1 130 rfl rfl), (fun h => nomatch h)⟩
theorem xf_19 : xPF ((4, 15), (4, 1, false)) := ⟨rfl, by decide, fun _ => (xt1 131 rfl rfl), (fun h => nomatch h)⟩
theorem xf_20 : xPF ((8, 9), (8, 0, false)) := ⟨rfl, by decide, fun _ => (xt1 143 rfl rfl), (fun h => nomatch h)⟩
theorem xf_21 : xPF ((8, 15), (8, 1, false)) := ⟨rfl, by decide, fun _ => (xt1 144 rfl rfl), (fun h => nomatch h)⟩
theorem xf_22 : xPF ((8, 23), (8, 2, false)) := ⟨rfl, by decide, fun _ => (xt1 145 rfl rfl), (fun h => nomatch h)⟩
theorem xf_23 : xPF ((8, 27), (8, 3, false)) := ⟨rfl, by decide, fun _ => (xt1 146 rfl rfl), (fun h => nomatch h)⟩
theorem xf_24 : xPF ((8, 19), (8, 4, false)) := ⟨rfl, by decide, fun _ => (xt1 148 rfl rfl), (fun h => nomatch h)⟩
theorem xf_25 : xPF ((2, 9), (2, 0, false)) := ⟨rfl, by decide, fun _ => (xt1 167 rfl rfl), (fun h => nomatch h)⟩
theorem xf_26 : xPF ((2, 15), (2, 1, false)) := ⟨rfl, by decide, fun _ => (xt1 169 rfl rfl), (fun h => nomatch h)⟩
theorem xf_27 : xPF ((7, 28), (7, 0, false)) := ⟨rfl, by decide, fun _ => (xt1 182 rfl rfl), (fun h => nomatch h)⟩
theorem xf_28 : xPF ((7, 9), (7, 1, false)) := ⟨rfl, by decide, fun _ => (xt1 183 rfl rfl), (fun h => nomatch h)⟩
theorem xf_29 : xPF ((7, 15), (7, 2, false)) := ⟨rfl, by decide, fun _ => (xt1 184 rfl rfl), (fun h => nomatch h)⟩
theorem xf_30 : xPF ((7, 18), (7, 3, false)) := ⟨rfl, by decide, fun _ => (xt1 185 rfl rfl), (fun h => nomatch h)⟩
theorem xf_31 : xPF ((7, 21), (7, 4, false)) := ⟨rfl, by decide, fun _ => (xt1 186 rfl rfl), (fun h => nomatch h)⟩
theorem xf_32 : xPF ((7, 25), (7, 5, false)) := ⟨rfl, by decide, fun _ => (xt1 187 rfl rfl), (fun h => nomatch h)⟩
theorem xf_33 : xPF ((7, 32), (7, 6, false)) := ⟨rfl, by decide, fun _ => (xt1 188 rfl rfl), (fun h => nomatch h)⟩
theorem xf_34 : xPF ((6, 40), (6, 0, false)) := ⟨rfl, by decide, fun _ => (xt1 204 rfl rfl), (fun h => nomatch h)⟩
theorem xf_35 : xPF ((6, 44), (6, 1, false)) := ⟨rfl, by decide, fun _ => (xt1 205 rfl rfl), (fun h => nomatch h)⟩
theorem xf_36 : xPF ((6, 53), (6, 2, false)) := ⟨rfl, by decide, fun _ => (xt1 206 rfl rfl), (fun h => nomatch h)⟩
theorem xf_37 : xPF ((6, 12), (6, 3, false)) := ⟨rfl, by decide, fun _ => (xt1 207 rfl rfl), (fun h => nomatch h)⟩
theorem xf_38 : xPF ((6, 21), (6, 4, false)) := ⟨rfl, by decide, fun _ => (xt1 208 rfl rfl), (fun h => nomatch h)⟩
theorem xf_39 : xPF ((6, 28), (6, 5, false)) := ⟨rfl, by decide, fun _ => (xt1 209 rfl rfl), (fun h => nomatch h)⟩
theorem xf_40 : xPF ((6, 32), (6, 6, false)) := ⟨rfl, by decide, fun _ => (xt1 210 rfl rfl), (fun h => nomatch h)⟩
theorem xf_41 : xPF ((6, 57), (6, 7, false)) := ⟨rfl, by decide, fun _ => (xt1 211 rfl rfl), (fun h => nomatch h)⟩
theorem xf_42 : xPF ((6, 36), (6, 8, false)) := ⟨rfl, by decide, fun _ => (xt1 212 rfl rfl), (fun h => nomatch h)⟩
theorem xf_43 : xPF ((6, 60), (6, 9, false)) := ⟨rfl, by decide, fun _ => (xt1 213 rfl rfl), (fun h => nomatch h)⟩
theorem xf_44 : xPF ((9, 12), (9, 0, false)) := ⟨rfl, by decide, fun _ => (xt1 235 rfl rfl), (fun h => nomatch h)⟩
theorem xf_45 : xPF ((9, 19), (9, 1, false)) := ⟨rfl, by decide, fun _ => (xt1 236 rfl rfl), (fun h => nomatch h)⟩
theorem xf_46 : xPF ((9, 26), (9, 2, false)) := ⟨rfl, by decide, fun _ => (xt1 237 rfl rfl), (fun h => nomatch h)⟩
theorem xf_47 : xPF ((9, 32), (9, 3, false)) := ⟨rfl, by decide, fun _ => (xt1 238 rfl rfl), (fun h => nomatch h)⟩
theorem xf_48 : xPF ((10, 119), (10, 0, false)) := ⟨rfl, by decide, fun _ => (xt4 92 rfl rfl), (fun h => nomatch h)⟩
theorem xf_49 : xPF ((10, 9), (10, 1, false)) := ⟨rfl, by decide, fun _ => (xt4 93 rfl rfl), (fun h => nomatch h)⟩
theorem xf_50 : xPF ((10, 13), (10, 2, false)) := ⟨rfl, by decide, fun _ => (xt4 94 rfl rfl), (fun h => nomatch h)⟩
theorem xf_51 : xPF ((10, 16), (10, 3, false)) := ⟨rfl, by decide, fun _ => (xt4 95 rfl rfl), (fun h => nomatch h)⟩
theorem xf_52 : xPF ((10, 19), (10, 4, false)) := ⟨rfl, by decide, fun _ => (xt4 96 rfl rfl), (fun h => nomatch h)⟩
theorem xf_53 : xPF ((10, 22), (10, 5, false)) := ⟨rfl, by decide, fun _ => (xt4 97 rfl rfl), (fun h => nomatch h)⟩
theorem xf_54 : xPF ((10, 25), (10, 6, false)) := ⟨rfl, by decide, fun _ => (xt4 98 rfl rfl), (fun h => nomatch h)⟩
theorem xf_55 : xPF ((10, 29), (10, 7, false)) := ⟨rfl, by decide, fun _ => (xt4 99 rfl rfl), (fun h => nomatch h)⟩
theorem xf_56 : xPF ((10, 123), (10, 8, false)) := ⟨rfl, by decide, fun _ => (xt4 100 rfl rfl), (fun h => nomatch h)⟩
theorem xf_57 : xPF ((10, 32), (10, 9, false)) := ⟨rfl, by decide, fun _ => (xt4 101 rfl rfl), (fun h => nomatch h)⟩
theorem xf_58 : xPF ((10, 35), (10, 10, false)) := ⟨rfl, by decide, fun _ => (xt4 102 rfl rfl), (fun h => nomatch h)⟩
theorem xf_59 : xPF ((10, 38), (10, 11, false)) := ⟨rfl, by decide, fun _ => (xt4 103 rfl rfl), (fun h => nomatch h)⟩
theorem xf_60 : xPF ((10, 41), (10, 12, false)) := ⟨rfl, by decide, fun _ => (xt4 104 rfl rfl), (fun h => nomatch h)⟩
theorem xf_61 : xPF ((10, 44), (10, 13, false)) := ⟨rfl, by decide, fun _ => (xt4 105 rfl rfl), (fun h => nomatch h)⟩
theorem xf_62 : xPF ((10, 47), (10, 14, false)) := ⟨rfl, by decide, fun _ => (xt4 106 rfl rfl), (fun h => nomatch h)⟩
theorem xf_63 : xPF ((10, 174), (10, 15, false)) := ⟨rfl, by decide, fun _ => (xt4 107 rfl rfl), (fun h => nomatch h)⟩
theorem xf_64 : xPF ((10, 50), (10, 16, false)) := ⟨rfl, by decide, fun _ => (xt4 108 rfl rfl), (fun h => nomatch h)⟩
theorem xf_65 : xPF ((10, 164), (10, 17, false)) := ⟨rfl, by decide, fun _ => (xt4 109 rfl rfl), (fun h => nomatch h)⟩
theorem xf_66 : xPF ((10, 53), (10, 18, false)) := ⟨rfl, by decide, fun _ => (xt4 110 rfl rfl), (fun h => nomatch h)⟩
theorem xf_67 : xPF ((10, 56), (10, 19, false)) := ⟨rfl, by decide, fun _ => (xt4 111 rfl rfl), (fun h => nomatch h)⟩
theorem xf_68 : xPF ((10, 59), (10, 20, false)) := ⟨rfl, by decide, fun _ => (xt4 112 rfl rfl), (fun h => nomatch h)⟩
theorem xf_69 : xPF ((10, 62), (10, 21, false)) := ⟨rfl, by decide, fun _ => (xt4 113 rfl rfl), (fun h => nomatch h)⟩
theorem xf_70 : xPF ((10, 65), (10, 22, false)) := ⟨rfl, by decide, fun _ => (xt4 114 rfl rfl), (fun h => nomatch h)⟩
theorem xf_71 : xPF ((10, 68), (10, 23, false)) := ⟨rfl, by decide, fun _ => (xt4 115 rfl rfl), (fun h => nomatch h)⟩
theorem xf_72 : xPF ((10, 71), (10, 24, false)) := ⟨rfl, by decide, fun _ => (xt4 116 rfl rfl), (fun h => nomatch h)⟩
theorem xf_73 : xPF ((10, 74), (10, 25, false)) := ⟨rfl, by decide, fun _ => (xt4 117 rfl rfl), (fun h => nomatch h)⟩
theorem xf_74 : xPF ((10, 77), (10, 26, false)) := ⟨rfl, by decide, fun _ => (xt4 118 rfl rfl), (fun h => nomatch h)⟩
theorem xf_75 : xPF ((10, 80), (10, 27, false)) := ⟨rfl, by decide, fun _ => (xt4 119 rfl rfl), (fun h => nomatch h)⟩
theorem xf_76 : xPF ((10, 83), (10, 28, false)) := ⟨rfl, by decide, fun _ => (xt4 120 rfl rfl), (fun h => nomatch h)⟩
theorem xf_77 : xPF ((10, 86), (10, 29, false)) := ⟨rfl, by decide, fun _ => (xt4 121 rfl rfl), (fun h => nomatch h)⟩
theorem xf_78 : xPF ((10, 89), (10, 30, false)) := ⟨rfl, by decide, fun _ => (xt4 122 rfl rfl), (fun h => nomatch h)⟩
theorem xf_79 : xPF ((10, 92), (10, 31, false)) := ⟨rfl, by decide, fun _ => (xt4 123 rfl rfl), (fun h => nomatch h)⟩
theorem xf_80 : xPF ((10, 95), (10, 32, false)) := ⟨rfl, by decide, fun _ => (xt4 124 rfl rfl), (fun h => nomatch h)⟩
theorem xf_81 : xPF ((10, 98), (10, 33, false)) := ⟨rfl, by decide, fun _ => (xt4 125 rfl rfl), (fun h => nomatch h)⟩
theorem xf_82 : xPF ((10, 101), (10, 34, false)) := ⟨rfl, by decide, fun _ => (xt4 126 rfl rfl), (fun h => nomatch h)⟩
theorem xf_83 : xPF ((10, 104), (10, 35, false)) := ⟨rfl, by decide, fun _ => (xt4 127 rfl rfl), (fun h => nomatch h)⟩
theorem xf_84 : xPF ((10, 107), (10, 36, false)) := ⟨rfl, by decide, fun _ => (xt4 128 rfl rfl), (fun h => nomatch h)⟩
theorem xf_85 : xPF ((10, 110), (10, 37, false)) := ⟨rfl, by decide, fun _ => (xt4 129 rfl rfl), (fun h => nomatch h)⟩
theorem xf_86 : xPF ((10, 113), (10, 38, false)) := ⟨rfl, by decide, fun _ => (xt4 130 rfl rfl), (fun h => nomatch h)⟩
theorem xf_87 : xPF ((10, 116), (10, 39, false)) := ⟨rfl, by decide, fun _ => (xt4 131 rfl rfl), (fun h => nomatch h)⟩
theorem xf_88 : xPF ((10, 203), (10, 40, false)) := ⟨rfl, by decide, fun _ => (xt4 132 rfl rfl), (fun h => nomatch h)⟩
theorem xf_89 : xPF ((1, 35), (3, 1, true)) := ⟨rfl, by decide, (fun h => nomatch h), fun _ => (xn1 74 rfl rfl)⟩
theorem xf_90 : xPF ((1, 63), (3, 2, true)) := ⟨rfl, by decide, (fun h => nomatch h), fun _ => (xn1 76 rfl rfl)⟩
theorem xf_91 : xPF ((6, 171), (8, 3, true)) := ⟨rfl, by decide, (fun h => nomatch h), fun _ => (xn1 147 rfl rfl)⟩
theorem xf_92 : xPF ((6, 149), (8, 4, true)) := ⟨rfl, by decide, (fun h => nomatch h), fun _ => (xn1 149 rfl rfl)⟩
theorem xf_93 : xPF ((6, 140), (2, 0, true)) := ⟨rfl, by decide, (fun h => nomatch h), fun _ => (xn1 168 rfl rfl)⟩
theorem xf_94 : xPF ((6, 143), (2, 1, true)) := ⟨rfl, by decide, (fun h => nomatch h), fun _ => (xn1 170 rfl rfl)⟩
set_option maxRecDepth 100000 in
theorem xFt_ok : ∀ q ∈ xFt, xPF q := List.forall_mem_cons.mpr ⟨xf_0, List.forall_mem_cons.mpr ⟨xf_1, List.forall_mem_cons.mpr ⟨xf_2, List.forall_mem_cons.mpr ⟨xf_3, List.forall_mem_cons.mpr ⟨xf_4, List.forall_mem_cons.mpr ⟨xf_5, List.forall_mem_cons.mpr ⟨xf_6, List.forall_mem_cons.mpr ⟨xf_7, List.forall_mem_cons.mpr ⟨xf_8, List.forall_mem_cons.mpr ⟨xf_9, List.forall_mem_cons.mpr ⟨xf_10, List.forall_mem_cons.mpr ⟨xf_11, List.forall_mem_cons.mpr ⟨xf_12, List.forall_mem_cons.mpr ⟨xf_13, List.forall_mem_cons.mpr ⟨xf_14, List.forall_mem_cons.mpr ⟨xf_15, List.forall_mem_cons.mpr ⟨xf_16, List.forall_mem_cons.mpr ⟨xf_17, List.forall_mem_cons.mpr ⟨xf_18, List.forall_mem_cons.mpr ⟨xf_19, List.forall_mem_cons.mpr ⟨xf_20, List.forall_mem_cons.mpr ⟨xf_21, List.forall_mem_cons.mpr ⟨xf_22, List.forall_mem_cons.mpr ⟨xf_23, List.forall_mem_cons.mpr ⟨xf_24, List.forall_mem_cons.mpr ⟨xf_25, List.forall_mem_cons.mpr ⟨xf_26, List.forall_mem_cons.mpr ⟨xf_27, List.forall_mem_cons.mpr ⟨xf_28, List.forall_mem_cons.mpr ⟨xf_29, List.forall_mem_cons.mpr ⟨xf_30, List.forall_mem_cons.mpr ⟨xf_31, List.forall_mem_cons.mpr ⟨xf_32, List.forall_mem_cons.mpr ⟨xf_33, List.forall_mem_cons.mpr ⟨xf_34, List.forall_mem_cons.mpr ⟨xf_35, List.forall_mem_cons.mpr ⟨xf_36, List.forall_mem_cons.mpr ⟨xf_37, List.forall_mem_cons.mpr ⟨xf_38, List.forall_mem_cons.mpr ⟨xf_39, List.forall_mem_cons.mpr ⟨xf_40, List.forall_mem_cons.mpr ⟨xf_41, List.forall_mem_cons.mpr ⟨xf_42, List.forall_mem_cons.mpr ⟨xf_43, List.forall_mem_cons.mpr ⟨xf_44, List.forall_mem_cons.mpr ⟨xf_45, List.forall_mem_cons.mpr ⟨xf_46, List.forall_mem_cons.mpr ⟨xf_47, List.forall_mem_cons.mpr ⟨xf_48, List.forall_mem_cons.mpr ⟨xf_49, List.forall_mem_cons.mpr ⟨xf_50, List.forall_mem_cons.mpr ⟨xf_51, List.forall_mem_cons.mpr ⟨xf_52, List.forall_mem_cons.mpr ⟨xf_53, List.forall_mem_cons.mpr ⟨xf_54, List.forall_mem_cons.mpr ⟨xf_55, List.forall_mem_cons.mpr ⟨xf_56, List.forall_mem_cons.mpr ⟨xf_57, List.forall_mem_cons.mpr ⟨xf_58, List.forall_mem_cons.mpr ⟨xf_59, List.forall_mem_cons.mpr ⟨xf_60, List.forall_mem_cons.mpr ⟨xf_61, List.forall_mem_cons.mpr ⟨xf_62, List.forall_mem_cons.mpr ⟨xf_63, List.forall_mem_cons.mpr ⟨xf_64, List.forall_mem_cons.mpr ⟨xf_65, List.forall_mem_cons.mpr ⟨xf_66, List.forall_mem_cons.mpr ⟨xf_67, List.forall_mem_cons.mpr ⟨xf_68, List.forall_mem_cons.mpr ⟨xf_69, List.forall_mem_cons.mpr ⟨xf_70, List.forall_mem_cons.mpr ⟨xf_71, List.forall_mem_cons.mpr ⟨xf_72, List.forall_mem_cons.mpr ⟨xf_73, List.forall_mem_cons.mpr ⟨xf_74, List.forall_mem_cons.mpr ⟨xf_75, List.forall_mem_cons.mpr ⟨xf_76, List.forall_mem_cons.mpr ⟨xf_77, List.forall_mem_cons.mpr ⟨xf_78, List.forall_mem_cons.mpr ⟨xf_79, List.forall_mem_cons.mpr ⟨xf_80, List.forall_mem_cons.mpr ⟨xf_81, List.forall_mem_cons.mpr ⟨xf_82, List.forall_mem_cons.mpr ⟨xf_83, List.forall_mem_cons.mpr ⟨xf_84, List.forall_mem_cons.mpr ⟨xf_85, List.forall_mem_cons.mpr ⟨xf_86, List.forall_mem_cons.mpr ⟨xf_87, List.forall_mem_cons.mpr ⟨xf_88, List.forall_mem_cons.mpr ⟨xf_89, List.forall_mem_cons.mpr ⟨xf_90, List.forall_mem_cons.mpr ⟨xf_91, List.forall_mem_cons.mpr ⟨xf_92, List.forall_mem_cons.mpr ⟨xf_93, List.forall_mem_cons.mpr ⟨xf_94, fun _ h => nomatch h⟩⟩⟩⟩⟩⟩⟩⟩⟩⟩⟩⟩⟩⟩⟩⟩⟩⟩⟩⟩⟩⟩⟩⟩⟩⟩⟩⟩⟩⟩⟩⟩⟩⟩⟩⟩⟩⟩⟩⟩⟩⟩⟩⟩⟩⟩⟩⟩⟩⟩⟩⟩⟩⟩⟩⟩⟩⟩⟩⟩⟩⟩⟩⟩⟩⟩⟩⟩⟩⟩⟩⟩⟩⟩⟩⟩⟩⟩⟩⟩⟩⟩⟩⟩⟩⟩⟩⟩⟩⟩⟩⟩⟩⟩⟩
theorem xc_0 : xPC ((9, 3), (6, 0)) := ⟨(xt1 25 rfl rfl), (xt1 26 rfl rfl), (xt1 27 rfl rfl)⟩
theorem xc_1 : xPC ((5, 3), (6, 0)) := ⟨(xt1 33 rfl rfl), (xt1 26 rfl rfl), (xt1 27 rfl rfl)⟩
theorem xc_2 : xPC ((9, 18), (4, 4)) := ⟨(xt1 59 rfl rfl), (xt1 60 rfl rfl)⟩
theorem xc_3 : xPC ((1, 3), (6, 0)) := ⟨(xt1 62 rfl rfl), (xt1 26 rfl rfl), (xt1 27 rfl rfl)⟩
theorem xc_4 : xPC ((3, 3), (6, 0)) := ⟨(xt1 71 rfl rfl), (xt1 26 rfl rfl), (xt1 27 rfl rfl)⟩
theorem xc_5 : xPC ((0, 3), (6, 0)) := ⟨(xt1 103 rfl rfl), (xt1 26 rfl rfl), (xt1 27 rfl rfl)⟩
theorem xc_6 : xPC ((9, 36), (4, 42)) := ⟨(xt1 120 rfl rfl), (xt1 121 rfl rfl)⟩
theorem xc_7 : xPC ((6, 3), (6, 0)) := ⟨(xt1 123 rfl rfl), (xt1 26 rfl rfl), (xt1 27 rfl rfl)⟩
theorem xc_8 : xPC ((6, 11), (4, 28)) := ⟨(xt1 126 rfl rfl), (xt1 127 rfl rfl)⟩
theorem xc_9 : xPC ((4, 3), (6, 0)) := ⟨(xt1 129 rfl rfl), (xt1 26 rfl rfl), (xt1 27 rfl rfl)⟩
theorem xc_10 : xPC ((8, 3), (6, 0)) := ⟨(xt1 142 rfl rfl), (xt1 26 rfl rfl), (xt1 27 rfl rfl)⟩
theorem xc_11 : xPC ((2, 3), (6, 0)) := ⟨(xt1 166 rfl rfl), (xt1 26 rfl rfl), (xt1 27 rfl rfl)⟩
theorem xc_12 : xPC ((6, 50), (4, 61)) := ⟨(xt1 178 rfl rfl), (xt1 179 rfl rfl)⟩
theorem xc_13 : xPC ((7, 3), (6, 0)) := ⟨(xt1 181 rfl rfl), (xt1 26 rfl rfl), (xt1 27 rfl rfl)⟩
theorem xc_14 : xPC ((9, 50), (0, 34)) := ⟨(xt2 87 rfl rfl), (xt2 88 rfl rfl), (xt2 89 rfl rfl)⟩
theorem xc_15 : xPC ((9, 59), (0, 36)) := ⟨(xt2 107 rfl rfl), (xt2 108 rfl rfl), (xt2 109 rfl rfl)⟩
theorem xc_16 : xPC ((5, 34), (0, 34)) := ⟨(xt2 111 rfl rfl), (xt2 88 rfl rfl), (xt2 89 rfl rfl)⟩
theorem xc_17 : xPC ((9, 63), (0, 93)) := ⟨(xt2 120 rfl rfl), (xt2 122 rfl rfl), (xt0 1 rfl rfl)⟩
theorem xc_18 : xPC ((9, 196), (0, 35)) := ⟨(xt2 124 rfl rfl), (xt2 125 rfl rfl), (xt2 126 rfl rfl)⟩
theorem xc_19 : xPC ((9, 67), (1, 92)) := ⟨(xt2 144 rfl rfl), (xt2 145 rfl rfl)⟩
theorem xc_20 : xPC ((9, 70), (0, 53)) := ⟨(xt2 148 rfl rfl), (xt2 149 rfl rfl), (xt2 150 rfl rfl)⟩
theorem xc_21 : xPC ((6, 89), (0, 10)) := ⟨(xt2 155 rfl rfl), (xt2 156 rfl rfl), (xt2 157 rfl rfl)⟩
theorem xc_22 : xPC ((1, 43), (0, 23)) := ⟨(xt2 159 rfl rfl), (xt2 160 rfl rfl), (xt2 161 rfl rfl)⟩
theorem xc_23 : xPC ((3, 36), (0, 21)) := ⟨(xt2 163 rfl rfl), (xt2 164 rfl rfl), (xt2 165 rfl rfl)⟩
theorem xc_24 : xPC ((6, 80), (0, 11)) := ⟨(xt2 167 rfl rfl), (xt2 168 rfl rfl), (xt2 169 rfl rfl)⟩
theorem xc_25 : xPC ((1, 47), (0, 18)) := ⟨(xt2 171 rfl rfl), (xt2 172 rfl rfl), (xt2 173 rfl rfl)⟩
theorem xc_26 : xPC ((1, 51), (0, 12)) := ⟨(xt2 175 rfl rfl), (xt2 177 rfl rfl), (xt0 2 rfl rfl)⟩
theorem xc_27 : xPC ((1, 70), (0, 21)) := ⟨(xt2 180 rfl rfl), (xt2 164 rfl rfl), (xt2 165 rfl rfl)⟩
theorem xc_28 : xPC ((1, 39), (0, 20)) := ⟨(xt2 181 rfl rfl), (xt2 182 rfl rfl), (xt2 183 rfl rfl)⟩
theorem xc_29 : xPC ((3, 22), (0, 19)) := ⟨(xt2 185 rfl rfl), (xt2 186 rfl rfl), (xt2 187 rfl rfl)⟩
theorem xc_30 : xPC ((1, 55), (0, 22)) := ⟨(xt2 195 rfl rfl), (xt2 196 rfl rfl), (xt2 197 rfl rfl)⟩
theorem xc_31 : xPC ((3, 26), (0, 18)) := ⟨(xt2 199 rfl rfl), (xt2 172 rfl rfl), (xt2 173 rfl rfl)⟩
theorem xc_32 : xPC ((3, 30), (7, 0)) := ⟨(xt2 200 rfl rfl), (xt2 201 rfl rfl), (xt1 18 rfl rfl), (xt2 202 rfl rfl)⟩
theorem xc_33 : xPC ((1, 59), (0, 13)) := ⟨(xt2 203 rfl rfl), (xt2 205 rfl rfl), (xt0 3 rfl rfl)⟩
theorem xc_34 : xPC ((1, 80), (0, 25)) := ⟨(xt2 207 rfl rfl), (xt2 208 rfl rfl), (xt2 209 rfl rfl)⟩
theorem xc_35 : xPC ((3, 40), (0, 24)) := ⟨(xt2 211 rfl rfl), (xt2 213 rfl rfl), (xt0 4 rfl rfl)⟩
theorem xc_36 : xPC ((1, 83), (7, 0)) := ⟨(xt2 215 rfl rfl), (xt2 201 rfl rfl), (xt1 18 rfl rfl), (xt2 202 rfl rfl)⟩
theorem xc_37 : xPC ((1, 88), (0, 26)) := ⟨(xt2 216 rfl rfl), (xt2 217 rfl rfl), (xt2 218 rfl rfl)⟩
theorem xc_38 : xPC ((1, 92), (0, 27)) := ⟨(xt2 220 rfl rfl), (xt2 221 rfl rfl), (xt2 222 rfl rfl)⟩
theorem xc_39 : xPC ((3, 43), (9, 0)) := ⟨(xt2 224 rfl rfl), (xt2 226 rfl rfl), (xt2 225 rfl rfl), (xt1 19 rfl rfl)⟩
theorem xc_40 : xPC ((9, 74), (0, 55)) := ⟨(xt2 227 rfl rfl), (xt2 228 rfl rfl), (xt2 229 rfl rfl)⟩
theorem xc_41 : xPC ((6, 97), (0, 56)) := ⟨(xt2 231 rfl rfl), (xt2 233 rfl rfl), (xt0 5 rfl rfl)⟩
theorem xc_42 : xPC ((6, 63), (0, 31)) := ⟨(xt2 235 rfl rfl), (xt2 236 rfl rfl), (xt2 237 rfl rfl)⟩
theorem xc_43 : xPC ((6, 111), (0, 6)) := ⟨(xt2 239 rfl rfl), (xt3 0 rfl rfl), (xt3 1 rfl rfl)⟩
theorem xc_44 : xPC ((6, 114), (0, 30)) := ⟨(xt3 3 rfl rfl), (xt3 4 rfl rfl), (xt3 5 rfl rfl)⟩
theorem xc_45 : xPC ((6, 118), (0, 57)) := ⟨(xt3 7 rfl rfl), (xt3 9 rfl rfl), (xt0 6 rfl rfl)⟩
theorem xc_46 : xPC ((6, 122), (0, 7)) := ⟨(xt3 11 rfl rfl), (xt3 12 rfl rfl), (xt3 13 rfl rfl)⟩
theorem xc_47 : xPC ((6, 101), (0, 32)) := ⟨(xt3 15 rfl rfl), (xt3 16 rfl rfl), (xt3 17 rfl rfl)⟩
theorem xc_48 : xPC ((6, 105), (0, 58)) := ⟨(xt3 19 rfl rfl), (xt3 21 rfl rfl), (xt0 7 rfl rfl)⟩
theorem xc_49 : xPC ((6, 126), (0, 71)) := ⟨(xt3 23 rfl rfl), (xt3 24 rfl rfl), (xt3 25 rfl rfl)⟩
theorem xc_50 : xPC ((6, 128), (0, 72)) := ⟨(xt3 27 rfl rfl), (xt3 28 rfl rfl), (xt3 29 rfl rfl)⟩
theorem xc_51 : xPC ((6, 134), (0, 15)) := ⟨(xt3 34 rfl rfl), (xt3 35 rfl rfl), (xt3 36 rfl rfl)⟩
theorem xc_52 : xPC ((6, 137), (0, 16)) := ⟨(xt3 39 rfl rfl), (xt3 40 rfl rfl), (xt3 41 rfl rfl)⟩
theorem xc_53 : xPC ((6, 76), (0, 59)) := ⟨(xt3 43 rfl rfl), (xt3 45 rfl rfl), (xt0 8 rfl rfl)⟩
theorem xc_54 : xPC ((6, 146), (0, 70)) := ⟨(xt3 47 rfl rfl), (xt3 48 rfl rfl), (xt3 49 rfl rfl)⟩
theorem xc_55 : xPC ((6, 108), (0, 60)) := ⟨(xt3 51 rfl rfl), (xt3 53 rfl rfl), (xt0 9 rfl rfl)⟩
theorem xc_56 : xPC ((6, 152), (0, 8)) := ⟨(xt3 55 rfl rfl), (xt3 56 rfl rfl), (xt3 57 rfl rfl)⟩
theorem xc_57 : xPC ((6, 155), (0, 73)) := ⟨(xt3 59 rfl rfl), (xt3 60 rfl rfl), (xt3 61 rfl rfl)⟩
theorem xc_58 : xPC ((6, 158), (0, 9)) := ⟨(xt3 63 rfl rfl), (xt3 64 rfl rfl), (xt3 65 rfl rfl)⟩
theorem xc_59 : xPC ((6, 162), (0, 62)) := ⟨(xt3 67 rfl rfl), (xt3 68 rfl rfl), (xt3 69 rfl rfl)⟩
theorem xc_60 : xPC ((6, 165), (0, 68)) := ⟨(xt3 71 rfl rfl), (xt3 72 rfl rfl), (xt3 73 rfl rfl)⟩
theorem xc_61 : xPC ((7, 40), (0, 35)) := ⟨(xt3 75 rfl rfl), (xt2 125 rfl rfl), (xt2 126 rfl rfl)⟩
theorem xc_62 : xPC ((7, 45), (0, 37)) := ⟨(xt3 76 rfl rfl), (xt3 77 rfl rfl), (xt3 78 rfl rfl)⟩
theorem xc_63 : xPC ((5, 38), (0, 35)) := ⟨(xt3 80 rfl rfl), (xt2 125 rfl rfl), (xt2 126 rfl rfl)⟩
theorem xc_64 : xPC ((7, 49), (0, 38)) := ⟨(xt3 81 rfl rfl), (xt3 82 rfl rfl), (xt3 83 rfl rfl)⟩
theorem xc_65 : xPC ((7, 52), (0, 39)) := ⟨(xt3 85 rfl rfl), (xt3 86 rfl rfl), (xt3 87 rfl rfl)⟩
theorem xc_66 : xPC ((7, 55), (0, 40)) := ⟨(xt3 89 rfl rfl), (xt3 90 rfl rfl), (xt3 91 rfl rfl)⟩
theorem xc_67 : xPC ((7, 59), (0, 41)) := ⟨(xt3 93 rfl rfl), (xt3 94 rfl rfl), (xt3 95 rfl rfl)⟩
theorem xc_68 : xPC ((7, 62), (0, 67)) := ⟨(xt3 97 rfl rfl), (xt3 98 rfl rfl), (xt3 99 rfl rfl)⟩
theorem xc_69 : xPC ((6, 168), (0, 74)) := ⟨(xt3 101 rfl rfl), (xt3 102 rfl rfl), (xt3 103 rfl rfl)⟩
theorem xc_70 : xPC ((8, 30), (0, 73)) := ⟨(xt3 105 rfl rfl), (xt3 60 rfl rfl), (xt3 61 rfl rfl)⟩
theorem xc_71 : xPC ((9, 78), (0, 94)) := ⟨(xt3 113 rfl rfl), (xt3 115 rfl rfl), (xt0 10 rfl rfl)⟩
theorem xc_72 : xPC ((9, 201), (0, 5)) := ⟨(xt3 117 rfl rfl), (xt3 118 rfl rfl), (xt3 119 rfl rfl)⟩
theorem xc_73 : xPC ((1, 31), (0, 19)) := ⟨(xt3 121 rfl rfl), (xt2 186 rfl rfl), (xt2 187 rfl rfl)⟩
theorem xc_74 : xPC ((9, 82), (1, 95)) := ⟨(xt3 123 rfl rfl), (xt3 124 rfl rfl)⟩
theorem xc_75 : xPC ((9, 85), (0, 45)) := ⟨(xt3 127 rfl rfl), (xt3 128 rfl rfl), (xt3 129 rfl rfl)⟩
theorem xc_76 : xPC ((9, 88), (0, 54)) := ⟨(xt3 131 rfl rfl), (xt3 132 rfl rfl), (xt3 133 rfl rfl)⟩
theorem xc_77 : xPC ((6, 93), (0, 29)) := ⟨(xt3 135 rfl rfl), (xt3 136 rfl rfl), (xt3 137 rfl rfl)⟩
theorem xc_78 : xPC ((9, 91), (0, 43)) := ⟨(xt3 146 rfl rfl), (xt3 147 rfl rfl), (xt3 148 rfl rfl)⟩
theorem xc_79 : xPC ((9, 94), (0, 51)) := ⟨(xt3 150 rfl rfl), (xt3 151 rfl rfl), (xt3 152 rfl rfl)⟩
theorem xc_80 : xPC ((6, 67), (7, 0)) := ⟨(xt3 154 rfl rfl), (xt2 201 rfl rfl), (xt1 18 rfl rfl), (xt2 202 rfl rfl)⟩
theorem xc_81 : xPC ((9, 97), (0, 52)) := ⟨(xt3 155 rfl rfl), (xt3 156 rfl rfl), (xt3 157 rfl rfl)⟩
theorem xc_82 : xPC ((6, 73), (8, 0)) := ⟨(xt3 159 rfl rfl), (xt3 160 rfl rfl), (xt1 18 rfl rfl), (xt3 161 rfl rfl)⟩
theorem xc_83 : xPC ((9, 100), (0, 47)) := ⟨(xt3 169 rfl rfl), (xt3 170 rfl rfl), (xt3 171 rfl rfl)⟩
theorem xc_84 : xPC ((9, 103), (0, 46)) := ⟨(xt3 180 rfl rfl), (xt3 181 rfl rfl), (xt3 182 rfl rfl)⟩
theorem xc_85 : xPC ((9, 107), (0, 65)) := ⟨(xt3 184 rfl rfl), (xt3 185 rfl rfl), (xt3 186 rfl rfl)⟩
theorem xc_86 : xPC ((9, 112), (0, 66)) := ⟨(xt3 188 rfl rfl), (xt3 189 rfl rfl), (xt3 190 rfl rfl)⟩
theorem xc_87 : xPC ((7, 36), (0, 65)) := ⟨(xt3 192 rfl rfl), (xt3 185 rfl rfl), (xt3 186 rfl rfl)⟩
theorem xc_88 : xPC ((9, 116), (0, 1)) := ⟨(xt3 193 rfl rfl), (xt3 194 rfl rfl), (xt3 195 rfl rfl)⟩
theorem xc_89 : xPC ((9, 120), (0, 2)) := ⟨(xt3 197 rfl rfl), (xt3 198 rfl rfl), (xt3 199 rfl rfl)⟩
theorem xc_90 : xPC ((9, 123), (0, 49)) := ⟨(xt3 208 rfl rfl), (xt3 209 rfl rfl), (xt3 210 rfl rfl)⟩
theorem xc_91 : xPC ((9, 126), (0, 97)) := ⟨(xt3 219 rfl rfl), (xt3 221 rfl rfl), (xt0 11 rfl rfl)⟩
theorem xc_92 : xPC ((9, 129), (1, 96)) := ⟨(xt3 224 rfl rfl), (xt3 225 rfl rfl)⟩
theorem xc_93 : xPC ((9, 132), (0, 98)) := ⟨(xt3 228 rfl rfl), (xt3 230 rfl rfl), (xt0 12 rfl rfl)⟩
theorem xc_94 : xPC ((9, 140), (0, 11)) := ⟨(xt3 234 rfl rfl), (xt2 168 rfl rfl), (xt2 169 rfl rfl)⟩
theorem xc_95 : xPC ((9, 144), (0, 50)) := ⟨(xt4 2 rfl rfl), (xt4 3 rfl rfl), (xt4 4 rfl rfl)⟩
theorem xc_96 : xPC ((9, 147), (0, 67)) := ⟨(xt4 13 rfl rfl), (xt3 98 rfl rfl), (xt3 99 rfl rfl)⟩
theorem xc_97 : xPC ((9, 150), (0, 44)) := ⟨(xt4 21 rfl rfl), (xt4 22 rfl rfl), (xt4 23 rfl rfl)⟩
theorem xc_98 : xPC ((9, 153), (0, 6)) := ⟨(xt4 25 rfl rfl), (xt3 0 rfl rfl), (xt3 1 rfl rfl)⟩
theorem xc_99 : xPC ((9, 156), (0, 62)) := ⟨(xt4 26 rfl rfl), (xt3 68 rfl rfl), (xt3 69 rfl rfl)⟩
theorem xc_100 : xPC ((9, 159), (0, 48)) := ⟨(xt4 27 rfl rfl), (xt4 28 rfl rfl), (xt4 29 rfl rfl)⟩
theorem xc_101 : xPC ((9, 162), (0, 64)) := ⟨(xt4 31 rfl rfl), (xt4 32 rfl rfl), (xt4 33 rfl rfl)⟩
theorem xc_102 : xPC ((9, 167), (0, 63)) := ⟨(xt4 43 rfl rfl), (xt4 44 rfl rfl), (xt4 45 rfl rfl)⟩
theorem xc_103 : xPC ((9, 172), (0, 7)) := ⟨(xt4 55 rfl rfl), (xt3 12 rfl rfl), (xt3 13 rfl rfl)⟩
theorem xc_104 : xPC ((9, 176), (0, 9)) := ⟨(xt4 63 rfl rfl), (xt3 64 rfl rfl), (xt3 65 rfl rfl)⟩
theorem xc_105 : xPC ((9, 180), (0, 37)) := ⟨(xt4 71 rfl rfl), (xt3 77 rfl rfl), (xt3 78 rfl rfl)⟩
theorem xc_106 : xPC ((9, 183), (0, 38)) := ⟨(xt4 72 rfl rfl), (xt3 82 rfl rfl), (xt3 83 rfl rfl)⟩
theorem xc_107 : xPC ((9, 186), (0, 3)) := ⟨(xt4 73 rfl rfl), (xt4 74 rfl rfl), (xt4 75 rfl rfl)⟩
theorem xc_108 : xPC ((0, 25), (0, 2)) := ⟨(xt4 77 rfl rfl), (xt3 198 rfl rfl), (xt3 199 rfl rfl)⟩
theorem xc_109 : xPC ((10, 1), (6, 0)) := ⟨(xt4 91 rfl rfl), (xt1 26 rfl rfl), (xt1 27 rfl rfl)⟩
theorem xc_110 : xPC ((10, 215), (0, 131)) := ⟨(xt4 228 rfl rfl), (xt4 230 rfl rfl), (xt0 13 rfl rfl)⟩
theorem xc_111 : xPC ((10, 219), (1, 130)) := ⟨(xt4 232 rfl rfl), (xt4 233 rfl rfl)⟩
theorem xc_112 : xPC ((10, 222), (0, 132)) := ⟨(xt4 235 rfl rfl), (xt4 237 rfl rfl), (xt0 14 rfl rfl)⟩
theorem xc_113 : xPC ((10, 126), (1, 106)) := ⟨(xt4 239 rfl rfl), (xt5 0 rfl rfl)⟩
theorem xc_114 : xPC ((10, 195), (0, 121)) := ⟨(xt5 2 rfl rfl), (xt5 4 rfl rfl), (xt0 15 rfl rfl)⟩
theorem xc_115 : xPC ((10, 177), (0, 122)) := ⟨(xt5 6 rfl rfl), (xt5 8 rfl rfl), (xt0 16 rfl rfl)⟩
theorem xc_116 : xPC ((10, 154), (0, 114)) := ⟨(xt5 10 rfl rfl), (xt5 12 rfl rfl), (xt0 17 rfl rfl)⟩
theorem xc_117 : xPC ((10, 148), (0, 112)) := ⟨(xt5 14 rfl rfl), (xt5 16 rfl rfl), (xt0 18 rfl rfl)⟩
theorem xc_118 : xPC ((10, 144), (0, 111)) := ⟨(xt5 18 rfl rfl), (xt5 20 rfl rfl), (xt0 19 rfl rfl)⟩
theorem xc_119 : xPC ((10, 141), (0, 110)) := ⟨(xt5 22 rfl rfl), (xt5 24 rfl rfl), (xt0 20 rfl rfl)⟩
theorem xc_120 : xPC ((10, 134), (0, 109)) := ⟨(xt5 26 rfl rfl), (xt5 28 rfl rfl), (xt0 21 rfl rfl)⟩
theorem xc_121 : xPC ((10, 130), (0, 107)) := ⟨(xt5 30 rfl rfl), (xt5 32 rfl rfl), (xt0 22 rfl rfl)⟩
theorem xc_122 : xPC ((10, 138), (0, 108)) := ⟨(xt5 34 rfl rfl), (xt5 36 rfl rfl), (xt0 23 rfl rfl)⟩
theorem xc_123 : xPC ((10, 151), (0, 113)) := ⟨(xt5 38 rfl rfl), (xt5 40 rfl rfl), (xt0 24 rfl rfl)⟩
theorem xc_124 : xPC ((10, 181), (0, 123)) := ⟨(xt5 42 rfl rfl), (xt5 44 rfl rfl), (xt0 25 rfl rfl)⟩
theorem xc_125 : xPC ((10, 184), (0, 125)) := ⟨(xt5 46 rfl rfl), (xt5 48 rfl rfl), (xt0 26 rfl rfl)⟩
theorem xc_126 : xPC ((10, 188), (0, 124)) := ⟨(xt5 50 rfl rfl), (xt5 52 rfl rfl), (xt0 27 rfl rfl)⟩
theorem xc_127 : xPC ((10, 199), (0, 120)) := ⟨(xt5 54 rfl rfl), (xt5 56 rfl rfl), (xt0 28 rfl rfl)⟩
theorem xc_128 : xPC ((10, 191), (0, 126)) := ⟨(xt5 58 rfl rfl), (xt5 60 rfl rfl), (xt0 29 rfl rfl)⟩
theorem xc_129 : xPC ((10, 206), (0, 119)) := ⟨(xt5 62 rfl rfl), (xt5 64 rfl rfl), (xt0 30 rfl rfl)⟩
theorem xc_130 : xPC ((10, 167), (0, 117)) := ⟨(xt5 66 rfl rfl), (xt5 68 rfl rfl), (xt0 31 rfl rfl)⟩
theorem xc_131 : xPC ((10, 157), (0, 115)) := ⟨(xt5 70 rfl rfl), (xt5 72 rfl rfl), (xt0 32 rfl rfl)⟩
theorem xc_132 : xPC ((10, 170), (0, 118)) := ⟨(xt5 74 rfl rfl), (xt5 76 rfl rfl), (xt0 33 rfl rfl)⟩
theorem xc_133 : xPC ((10, 160), (0, 116)) := ⟨(xt5 78 rfl rfl), (xt5 80 rfl rfl), (xt0 34 rfl rfl)⟩
theorem xc_134 : xPC ((10, 209), (0, 127)) := ⟨(xt5 82 rfl rfl), (xt5 84 rfl rfl), (xt0 35 rfl rfl)⟩
theorem xc_135 : xPC ((10, 226), (0, 128)) := ⟨(xt5 86 rfl rfl), (xt5 88 rfl rfl), (xt0 36 rfl rfl)⟩
theorem xc_136 : xPC ((10, 212), (0, 129)) := ⟨(xt5 90 rfl rfl), (xt5 92 rfl rfl), (xt0 37 rfl rfl)⟩
theorem xc_137 : xPC ((10, 229), (0, 135)) := ⟨(xt5 102 rfl rfl), (xt5 104 rfl rfl), (xt0 38 rfl rfl)⟩
theorem xc_138 : xPC ((9, 11), (5, 33)) := ⟨(xn1 30 rfl rfl), (xt1 31 rfl rfl)⟩
theorem xc_139 : xPC ((1, 30), (5, 17)) := ⟨(xn1 68 rfl rfl), (xt1 69 rfl rfl)⟩
theorem xc_140 : xPC ((9, 25), (5, 0)) := ⟨(xn1 100 rfl rfl), (xt1 101 rfl rfl)⟩
theorem xc_141 : xPC ((6, 20), (5, 69)) := ⟨(xn1 139 rfl rfl), (xt1 140 rfl rfl)⟩
theorem xc_142 : xPC ((6, 27), (5, 14)) := ⟨(xn1 163 rfl rfl), (xt1 164 rfl rfl)⟩
theorem xc_143 : xPC ((6, 86), (2, 99)) := ⟨(xn2 152 rfl rfl), (xt2 153 rfl rfl)⟩
theorem xc_144 : xPC ((1, 66), (2, 99)) := ⟨(xn2 179 rfl rfl), (xt2 153 rfl rfl)⟩
theorem xc_145 : xPC ((1, 74), (2, 101)) := ⟨(xn2 189 rfl rfl), (xt2 190 rfl rfl)⟩
theorem xc_146 : xPC ((1, 77), (2, 102)) := ⟨(xn2 192 rfl rfl), (xt2 193 rfl rfl)⟩
theorem xc_147 : xPC ((6, 131), (2, 100)) := ⟨(xn3 31 rfl rfl), (xt3 32 rfl rfl)⟩
theorem xc_148 : xPC ((2, 18), (2, 101)) := ⟨(xn3 38 rfl rfl), (xt2 190 rfl rfl)⟩
set_option maxRecDepth 100000 in
theorem xCt_ok : ∀ q ∈ xCt, xPC q := List.forall_mem_cons.mpr ⟨xc_0, List.forall_mem_cons.mpr ⟨xc_1, List.forall_mem_cons.mpr ⟨xc_2, List.forall_mem_cons.mpr ⟨xc_3, List.forall_mem_cons.mpr ⟨xc_4, List.forall_mem_cons.mpr ⟨xc_5, List.forall_mem_cons.mpr ⟨xc_6, List.forall_mem_cons.mpr ⟨xc_7, List.forall_mem_cons.mpr ⟨xc_8, List.forall_mem_cons.mpr ⟨xc_9, List.forall_mem_cons.mpr ⟨xc_10, List.forall_mem_cons.mpr ⟨xc_11, List.forall_mem_cons.mpr ⟨xc_12, List.forall_mem_cons.mpr ⟨xc_13, List.forall_mem_cons.mpr ⟨xc_14, List.forall_mem_cons.mpr ⟨xc_15, List.forall_mem_cons.mpr ⟨xc_16, List.forall_mem_cons.mpr ⟨xc_17, List.forall_mem_cons.mpr ⟨xc_18, List.forall_mem_cons.mpr ⟨xc_19, List.forall_mem_cons.mpr ⟨xc_20, List.forall_mem_cons.mpr ⟨xc_21, List.forall_mem_cons.mpr ⟨xc_22, List.forall_mem_cons.mpr ⟨xc_23, List.forall_mem_cons.mpr ⟨xc_24, List.forall_mem_cons.mpr ⟨xc_25, List.forall_mem_cons.mpr ⟨xc_26, List.forall_mem_cons.mpr ⟨xc_27, List.forall_mem_cons.mpr ⟨xc_28, List.forall_mem_cons.mpr ⟨xc_29, List.forall_mem_cons.mpr ⟨xc_30, List.forall_mem_cons.mpr ⟨xc_31, List.forall_mem_cons.mpr ⟨xc_32, List.forall_mem_cons.mpr ⟨xc_33, List.forall_mem_cons.mpr ⟨xc_34, List.forall_mem_cons.mpr ⟨xc_35, List.forall_mem_cons.mpr ⟨xc_36, List.forall_mem_cons.mpr ⟨xc_37, List.forall_mem_cons.mpr ⟨xc_38, List.forall_mem_cons.mpr ⟨xc_39, List.forall_mem_cons.mpr ⟨xc_40, List.forall_mem_cons.mpr ⟨xc_41, List.forall_mem_cons.mpr ⟨xc_42, List.forall_mem_cons.mpr ⟨xc_43, List.forall_mem_cons.mpr ⟨xc_44, List.forall_mem_cons.mpr ⟨xc_45, List.forall_mem_cons.mpr ⟨xc_46, List.forall_mem_cons.mpr ⟨xc_47, List.forall_mem_cons.mpr ⟨xc_48, List.forall_mem_cons.mpr ⟨xc_49, List.forall_mem_cons.mpr ⟨xc_50, List.forall_mem_cons.mpr ⟨xc_51, List.forall_mem_cons.mpr ⟨xc_52, List.forall_mem_cons.mpr ⟨xc_53, List.forall_mem_cons.mpr ⟨xc_54, List.forall_mem_cons.mpr ⟨xc_55, List.forall_mem_cons.mpr ⟨xc_56, List.forall_mem_cons.mpr ⟨xc_57, List.forall_mem_cons.mpr ⟨xc_58, List.forall_mem_cons.mpr ⟨xc_59, List.forall_mem_cons.mpr ⟨xc_60, List.forall_mem_cons.mpr ⟨xc_61, List.forall_mem_cons.mpr ⟨xc_62, List.forall_mem_cons.mpr ⟨xc_63, List.forall_mem_cons.mpr ⟨xc_64, List.forall_mem_cons.mpr ⟨xc_65, List.forall_mem_cons.mpr ⟨xc_66, List.forall_mem_cons.mpr ⟨xc_67, List.forall_mem_cons.mpr ⟨xc_68, List.forall_mem_cons.mpr ⟨xc_69, List.forall_mem_cons.mpr ⟨xc_70, List.forall_mem_cons.mpr ⟨xc_71, List.forall_mem_cons.mpr ⟨xc_72, List.forall_mem_cons.mpr ⟨xc_73, List.forall_mem_cons.mpr ⟨xc_74, List.forall_mem_cons.mpr ⟨xc_75, List.forall_mem_cons.mpr ⟨xc_76, List.forall_mem_cons.mpr ⟨xc_77, List.forall_mem_cons.mpr ⟨xc_78, List.forall_mem_cons.mpr ⟨xc_79, List.forall_mem_cons.mpr ⟨xc_80, List.forall_mem_cons.mpr ⟨xc_81, List.forall_mem_cons.mpr ⟨xc_82, List.forall_mem_cons.mpr ⟨xc_83, List.forall_mem_cons.mpr ⟨xc_84, List.forall_mem_cons.mpr ⟨xc_85, List.forall_mem_cons.mpr ⟨xc_86, List.forall_mem_cons.mpr ⟨xc_87, List.forall_mem_cons.mpr ⟨xc_88, List.forall_mem_cons.mpr ⟨xc_89, List.forall_mem_cons.mpr ⟨xc_90, List.forall_mem_cons.mpr ⟨xc_91, List.forall_mem_cons.mpr ⟨xc_92, List.forall_mem_cons.mpr ⟨xc_93, List.forall_mem_cons.mpr ⟨xc_94, List.forall_mem_cons.mpr ⟨xc_95, List.forall_mem_cons.mpr ⟨xc_96, List.forall_mem_cons.mpr ⟨xc_97, List.forall_mem_cons.mpr ⟨xc_98, List.forall_mem_cons.mpr ⟨xc_99, List.forall_mem_cons.mpr ⟨xc_100, List.forall_mem_cons.mpr ⟨xc_101, List.forall_mem_cons.mpr ⟨xc_102, List.forall_mem_cons.mpr ⟨xc_103, List.forall_mem_cons.mpr ⟨xc_104, List.forall_mem_cons.mpr ⟨xc_105, List.forall_mem_cons.mpr ⟨xc_106, List.forall_mem_cons.mpr ⟨xc_107, List.forall_mem_cons.mpr ⟨xc_108, List.forall_mem_cons.mpr ⟨xc_109, List.forall_mem_cons.mpr ⟨xc_110, List.forall_mem_cons.mpr ⟨xc_111, List.forall_mem_cons.mpr ⟨xc_112, List.forall_mem_cons.mpr ⟨xc_113, List.forall_mem_cons.mpr ⟨xc_114, List.forall_mem_cons.mpr ⟨xc_115, List.forall_mem_cons.mpr ⟨xc_116, List.forall_mem_cons.mpr ⟨xc_117, List.forall_mem_cons.mpr ⟨xc_118, List.forall_mem_cons.mpr ⟨xc_119, List.forall_mem_cons.mpr ⟨xc_120, List.forall_mem_cons.mpr ⟨xc_121, List.forall_mem_cons.mpr ⟨xc_122, List.forall_mem_cons.mpr ⟨xc_123, List.forall_mem_cons.mpr ⟨xc_124, List.forall_mem_cons.mpr ⟨xc_125, List.forall_mem_cons.mpr ⟨xc_126, List.forall_mem_cons.mpr ⟨xc_127, List.forall_mem_cons.mpr ⟨xc_128, List.forall_mem_cons.mpr ⟨xc_129, List.forall_mem_cons.mpr ⟨xc_130, List.forall_mem_cons.mpr ⟨xc_131, List.forall_mem_cons.mpr ⟨xc_132, List.forall_mem_cons.mpr ⟨xc_133, List.forall_mem_cons.mpr ⟨xc_134, List.forall_mem_cons.mpr ⟨xc_135, List.forall_mem_cons.mpr ⟨xc_136, List.forall_mem_cons.mpr ⟨xc_137, List.forall_mem_cons.mpr ⟨xc_138, List.forall_mem_cons.mpr ⟨xc_139, List.forall_mem_cons.mpr ⟨xc_140, List.forall_mem_cons.mpr ⟨xc_141, List.forall_mem_cons.mpr ⟨xc_142, List.forall_mem_cons.mpr ⟨xc_143, List.forall_mem_cons.mpr ⟨xc_144, List.forall_mem_cons.mpr ⟨xc_145, List.forall_mem_cons.mpr ⟨xc_146, List.forall_mem_cons.mpr ⟨xc_147, List.forall_mem_cons.mpr ⟨xc_148, fun _ h => nomatch h⟩⟩⟩⟩⟩⟩⟩⟩⟩⟩⟩⟩⟩⟩⟩⟩⟩⟩⟩⟩⟩⟩⟩⟩⟩⟩⟩⟩⟩⟩⟩⟩⟩⟩⟩⟩⟩⟩⟩⟩⟩⟩⟩⟩⟩⟩⟩⟩⟩⟩⟩⟩⟩⟩⟩⟩⟩⟩⟩⟩⟩⟩⟩⟩⟩⟩⟩⟩⟩⟩⟩⟩⟩⟩⟩⟩⟩⟩⟩⟩⟩⟩⟩⟩⟩⟩⟩⟩⟩⟩⟩⟩⟩⟩⟩⟩⟩⟩⟩⟩⟩⟩⟩⟩⟩⟩⟩⟩⟩⟩⟩⟩⟩⟩⟩⟩⟩⟩⟩⟩⟩⟩⟩⟩⟩⟩⟩⟩⟩⟩⟩⟩⟩⟩⟩⟩⟩⟩⟩⟩⟩⟩⟩⟩⟩⟩⟩⟩⟩
theorem xm_0 : xPM (0, yX0_init, cX0_init, 1, none) := ⟨(xt1 102 rfl rfl), rfl, by decide +kernel, ⟨by decide +kernel, by decide +kernel⟩, by decide, (xt1 5 rfl rfl)⟩
theorem xm_1 : xPM (0, yX0_take, cX0_take, 6, none) := ⟨(xt3 196 rfl rfl), rfl, by decide +kernel, ⟨by decide +kernel, by decide +kernel⟩, by decide, (xt1 5 rfl rfl)⟩
theorem xm_2 : xPM (0, yX0_isAnswered, cX0_isAnswered, 2, (some .boolean)) := ⟨(xt3 200 rfl rfl), rfl, by decide +kernel, ⟨by decide +kernel, by decide +kernel⟩, by decide, (xt1 5 rfl rfl)⟩
theorem xm_3 : xPM (0, yX0_answerTo, cX0_answerTo, 2, (some .int)) := ⟨(xt4 76 rfl rfl), rfl, by decide +kernel, ⟨by decide +kernel, by decide +kernel⟩, by decide, (xt1 5 rfl rfl)⟩
theorem xm_4 : xPM (1, yX1_init, cX1_init, 2, none) := ⟨(xt1 61 rfl rfl), rfl, by decide +kernel, ⟨by decide +kernel, by decide +kernel⟩, by decide, (xt1 3 rfl rfl)⟩
theorem xm_5 : xPM (1, yX1_has, cX1_has, 3, (some .boolean)) := ⟨(xt3 120 rfl rfl), rfl, by decide +kernel, ⟨by decide +kernel, by decide +kernel⟩, by decide, (xt1 3 rfl rfl)⟩
theorem xm_6 : xPM (1, yX1_countOf, cX1_countOf, 2, (some .int)) := ⟨(xt3 2 rfl rfl), rfl, by decide +kernel, ⟨by decide +kernel, by decide +kernel⟩, by decide, (xt1 3 rfl rfl)⟩
theorem xm_7 : xPM (1, yX1_tell, cX1_tell, 4, (some .int)) := ⟨(xt3 14 rfl rfl), rfl, by decide +kernel, ⟨by decide +kernel, by decide +kernel⟩, by decide, (xt1 3 rfl rfl)⟩
theorem xm_8 : xPM (1, yX1_openingOf, cX1_openingOf, 2, (some .int)) := ⟨(xt3 58 rfl rfl), rfl, by decide +kernel, ⟨by decide +kernel, by decide +kernel⟩, by decide, (xt1 3 rfl rfl)⟩
theorem xm_9 : xPM (1, yX1_rowOf, cX1_rowOf, 2, (some (.array .int))) := ⟨(xt3 66 rfl rfl), rfl, by decide +kernel, ⟨by decide +kernel, by decide +kernel⟩, by decide, (xt1 3 rfl rfl)⟩
theorem xm_10 : xPM (1, yX1_hasPrepared, cX1_hasPrepared, 4, (some .boolean)) := ⟨(xt2 158 rfl rfl), rfl, by decide +kernel, ⟨by decide +kernel, by decide +kernel⟩, by decide, (xt1 3 rfl rfl)⟩
theorem xm_11 : xPM (1, yX1_enter, cX1_enter, 9, (some .int)) := ⟨(xt2 170 rfl rfl), rfl, by decide +kernel, ⟨by decide +kernel, by decide +kernel⟩, by decide, (xt1 3 rfl rfl)⟩
theorem xm_12 : xPM (1, yX1_isVoid, cX1_isVoid, 10, (some .boolean)) := ⟨(xt2 178 rfl rfl), rfl, by decide +kernel, ⟨by decide +kernel, by decide +kernel⟩, by decide, (xt1 3 rfl rfl)⟩
theorem xm_13 : xPM (1, yX1_makeRow, cX1_makeRow, 8, none) := ⟨(xt2 206 rfl rfl), rfl, by decide +kernel, ⟨by decide +kernel, by decide +kernel⟩, by decide, (xt1 3 rfl rfl)⟩
theorem xm_14 : xPM (2, yX2_init, cX2_init, 1, none) := ⟨(xt1 165 rfl rfl), rfl, by decide +kernel, ⟨by decide +kernel, by decide +kernel⟩, by decide, (xt1 9 rfl rfl)⟩
theorem xm_15 : xPM (2, yX2_note, cX2_note, 3, none) := ⟨(xt3 37 rfl rfl), rfl, by decide +kernel, ⟨by decide +kernel, by decide +kernel⟩, by decide, (xt1 9 rfl rfl)⟩
theorem xm_16 : xPM (2, yX2_areOfTwo, cX2_areOfTwo, 2, (some .boolean)) := ⟨(xt3 42 rfl rfl), rfl, by decide +kernel, ⟨by decide +kernel, by decide +kernel⟩, by decide, (xt1 9 rfl rfl)⟩
theorem xm_17 : xPM (3, yX3_init, cX3_init, 1, none) := ⟨(xt1 70 rfl rfl), rfl, by decide +kernel, ⟨by decide +kernel, by decide +kernel⟩, by decide, (xt1 4 rfl rfl)⟩
theorem xm_18 : xPM (3, yX3_isFull, cX3_isFull, 1, (some .boolean)) := ⟨(xt2 174 rfl rfl), rfl, by decide +kernel, ⟨by decide +kernel, by decide +kernel⟩, by decide, (xt1 4 rfl rfl)⟩
theorem xm_19 : xPM (3, yX3_has, cX3_has, 2, (some .boolean)) := ⟨(xt2 188 rfl rfl), rfl, by decide +kernel, ⟨by decide +kernel, by decide +kernel⟩, by decide, (xt1 4 rfl rfl)⟩
theorem xm_20 : xPM (3, yX3_get, cX3_get, 3, (some .int)) := ⟨(xt2 184 rfl rfl), rfl, by decide +kernel, ⟨by decide +kernel, by decide +kernel⟩, by decide, (xt1 4 rfl rfl)⟩
theorem xm_21 : xPM (3, yX3_isOf, cX3_isOf, 4, (some .boolean)) := ⟨(xt2 166 rfl rfl), rfl, by decide +kernel, ⟨by decide +kernel, by decide +kernel⟩, by decide, (xt1 4 rfl rfl)⟩
theorem xm_22 : xPM (3, yX3_add, cX3_add, 7, (some .int)) := ⟨(xt2 198 rfl rfl), rfl, by decide +kernel, ⟨by decide +kernel, by decide +kernel⟩, by decide, (xt1 4 rfl rfl)⟩
theorem xm_23 : xPM (3, yX3_hasPrepared, cX3_hasPrepared, 4, (some .boolean)) := ⟨(xt2 162 rfl rfl), rfl, by decide +kernel, ⟨by decide +kernel, by decide +kernel⟩, by decide, (xt1 4 rfl rfl)⟩
theorem xm_24 : xPM (3, yX3_isBinding, cX3_isBinding, 2, (some .boolean)) := ⟨(xt2 214 rfl rfl), rfl, by decide +kernel, ⟨by decide +kernel, by decide +kernel⟩, by decide, (xt1 4 rfl rfl)⟩
theorem xm_25 : xPM (3, yX3_lastViewBelow, cX3_lastViewBelow, 6, (some .int)) := ⟨(xt2 210 rfl rfl), rfl, by decide +kernel, ⟨by decide +kernel, by decide +kernel⟩, by decide, (xt1 4 rfl rfl)⟩
theorem xm_26 : xPM (3, yX3_markTold, cX3_markTold, 6, none) := ⟨(xt2 219 rfl rfl), rfl, by decide +kernel, ⟨by decide +kernel, by decide +kernel⟩, by decide, (xt1 4 rfl rfl)⟩
theorem xm_27 : xPM (3, yX3_rowBehind, cX3_rowBehind, 8, (some (.array .int))) := ⟨(xt2 223 rfl rfl), rfl, by decide +kernel, ⟨by decide +kernel, by decide +kernel⟩, by decide, (xt1 4 rfl rfl)⟩
theorem xm_28 : xPM (4, yX4_init, cX4_init, 2, none) := ⟨(xt1 128 rfl rfl), rfl, by decide +kernel, ⟨by decide +kernel, by decide +kernel⟩, by decide, (xt1 7 rfl rfl)⟩
theorem xm_29 : xPM (4, yX4_put, cX4_put, 3, none) := ⟨(xt3 138 rfl rfl), rfl, by decide +kernel, ⟨by decide +kernel, by decide +kernel⟩, by decide, (xt1 7 rfl rfl)⟩
theorem xm_30 : xPM (4, yX4_holdsNext, cX4_holdsNext, 2, (some .boolean)) := ⟨(xt3 6 rfl rfl), rfl, by decide +kernel, ⟨by decide +kernel, by decide +kernel⟩, by decide, (xt1 7 rfl rfl)⟩
theorem xm_31 : xPM (4, yX4_nextOf, cX4_nextOf, 2, (some .int)) := ⟨(xt2 238 rfl rfl), rfl, by decide +kernel, ⟨by decide +kernel, by decide +kernel⟩, by decide, (xt1 7 rfl rfl)⟩
theorem xm_32 : xPM (4, yX4_pass, cX4_pass, 2, none) := ⟨(xt3 18 rfl rfl), rfl, by decide +kernel, ⟨by decide +kernel, by decide +kernel⟩, by decide, (xt1 7 rfl rfl)⟩
theorem xm_33 : xPM (5, yX5_init, cX5_init, 1, none) := ⟨(xt1 32 rfl rfl), rfl, by decide +kernel, ⟨by decide +kernel, by decide +kernel⟩, by decide, (xt1 2 rfl rfl)⟩
theorem xm_34 : xPM (5, yX5_isFull, cX5_isFull, 1, (some .boolean)) := ⟨(xt2 90 rfl rfl), rfl, by decide +kernel, ⟨by decide +kernel, by decide +kernel⟩, by decide, (xt1 2 rfl rfl)⟩
theorem xm_35 : xPM (5, yX5_has, cX5_has, 2, (some .boolean)) := ⟨(xt2 127 rfl rfl), rfl, by decide +kernel, ⟨by decide +kernel, by decide +kernel⟩, by decide, (xt1 2 rfl rfl)⟩
theorem xm_36 : xPM (5, yX5_add, cX5_add, 5, (some .int)) := ⟨(xt2 110 rfl rfl), rfl, by decide +kernel, ⟨by decide +kernel, by decide +kernel⟩, by decide, (xt1 2 rfl rfl)⟩
theorem xm_37 : xPM (5, yX5_clientOf, cX5_clientOf, 2, (some .int)) := ⟨(xt3 79 rfl rfl), rfl, by decide +kernel, ⟨by decide +kernel, by decide +kernel⟩, by decide, (xt1 2 rfl rfl)⟩
theorem xm_38 : xPM (5, yX5_ownNumberOf, cX5_ownNumberOf, 2, (some .int)) := ⟨(xt3 84 rfl rfl), rfl, by decide +kernel, ⟨by decide +kernel, by decide +kernel⟩, by decide, (xt1 2 rfl rfl)⟩
theorem xm_39 : xPM (5, yX5_keyOf, cX5_keyOf, 2, (some .int)) := ⟨(xt3 88 rfl rfl), rfl, by decide +kernel, ⟨by decide +kernel, by decide +kernel⟩, by decide, (xt1 2 rfl rfl)⟩
theorem xm_40 : xPM (5, yX5_valueAfter, cX5_valueAfter, 3, (some .int)) := ⟨(xt3 92 rfl rfl), rfl, by decide +kernel, ⟨by decide +kernel, by decide +kernel⟩, by decide, (xt1 2 rfl rfl)⟩
theorem xm_41 : xPM (5, yX5_resultOf, cX5_resultOf, 3, (some .int)) := ⟨(xt3 96 rfl rfl), rfl, by decide +kernel, ⟨by decide +kernel, by decide +kernel⟩, by decide, (xt1 2 rfl rfl)⟩
theorem xm_42 : xPM (6, yX6_init, cX6_init, 5, none) := ⟨(xt1 122 rfl rfl), rfl, by decide +kernel, ⟨by decide +kernel, by decide +kernel⟩, by decide, (xt1 6 rfl rfl)⟩
theorem xm_43 : xPM (6, yX6_viewNow, cX6_viewNow, 1, (some .int)) := ⟨(xt3 149 rfl rfl), rfl, by decide +kernel, ⟨by decide +kernel, by decide +kernel⟩, by decide, (xt1 6 rfl rfl)⟩
theorem xm_44 : xPM (6, yX6_isActive, cX6_isActive, 1, (some .boolean)) := ⟨(xt4 24 rfl rfl), rfl, by decide +kernel, ⟨by decide +kernel, by decide +kernel⟩, by decide, (xt1 6 rfl rfl)⟩
theorem xm_45 : xPM (6, yX6_hasLied, cX6_hasLied, 1, (some .boolean)) := ⟨(xt3 130 rfl rfl), rfl, by decide +kernel, ⟨by decide +kernel, by decide +kernel⟩, by decide, (xt1 6 rfl rfl)⟩
theorem xm_46 : xPM (6, yX6_storeOf, cX6_storeOf, 1, (some (.object "CountedHouse$Store"))) := ⟨(xt3 183 rfl rfl), rfl, by decide +kernel, ⟨by decide +kernel, by decide +kernel⟩, by decide, (xt1 6 rfl rfl)⟩
theorem xm_47 : xPM (6, yX6_greatestAsked, cX6_greatestAsked, 1, (some .int)) := ⟨(xt3 172 rfl rfl), rfl, by decide +kernel, ⟨by decide +kernel, by decide +kernel⟩, by decide, (xt1 6 rfl rfl)⟩
theorem xm_48 : xPM (6, yX6_readsNext, cX6_readsNext, 2, (some .int)) := ⟨(xt4 30 rfl rfl), rfl, by decide +kernel, ⟨by decide +kernel, by decide +kernel⟩, by decide, (xt1 6 rfl rfl)⟩
theorem xm_49 : xPM (6, yX6_startLying, cX6_startLying, 1, none) := ⟨(xt3 211 rfl rfl), rfl, by decide +kernel, ⟨by decide +kernel, by decide +kernel⟩, by decide, (xt1 6 rfl rfl)⟩
theorem xm_50 : xPM (6, yX6_claimAsking, cX6_claimAsking, 2, none) := ⟨(xt4 5 rfl rfl), rfl, by decide +kernel, ⟨by decide +kernel, by decide +kernel⟩, by decide, (xt1 6 rfl rfl)⟩
theorem xm_51 : xPM (6, yX6_hearAsking, cX6_hearAsking, 3, none) := ⟨(xt3 153 rfl rfl), rfl, by decide +kernel, ⟨by decide +kernel, by decide +kernel⟩, by decide, (xt1 6 rfl rfl)⟩
theorem xm_52 : xPM (6, yX6_followsAskings, cX6_followsAskings, 4, (some .boolean)) := ⟨(xt3 158 rfl rfl), rfl, by decide +kernel, ⟨by decide +kernel, by decide +kernel⟩, by decide, (xt1 6 rfl rfl)⟩
theorem xm_53 : xPM (6, yX6_prepares, cX6_prepares, 2, (some .boolean)) := ⟨(xt2 151 rfl rfl), rfl, by decide +kernel, ⟨by decide +kernel, by decide +kernel⟩, by decide, (xt1 6 rfl rfl)⟩
theorem xm_54 : xPM (6, yX6_receive, cX6_receive, 3, none) := ⟨(xt3 134 rfl rfl), rfl, by decide +kernel, ⟨by decide +kernel, by decide +kernel⟩, by decide, (xt1 6 rfl rfl)⟩
theorem xm_55 : xPM (6, yX6_readAll, cX6_readAll, 5, (some .int)) := ⟨(xt2 230 rfl rfl), rfl, by decide +kernel, ⟨by decide +kernel, by decide +kernel⟩, by decide, (xt1 6 rfl rfl)⟩
theorem xm_56 : xPM (6, yX6_nextSender, cX6_nextSender, 2, (some .int)) := ⟨(xt2 234 rfl rfl), rfl, by decide +kernel, ⟨by decide +kernel, by decide +kernel⟩, by decide, (xt1 6 rfl rfl)⟩
theorem xm_57 : xPM (6, yX6_waits, cX6_waits, 5, (some .boolean)) := ⟨(xt3 10 rfl rfl), rfl, by decide +kernel, ⟨by decide +kernel, by decide +kernel⟩, by decide, (xt1 6 rfl rfl)⟩
theorem xm_58 : xPM (6, yX6_take, cX6_take, 4, none) := ⟨(xt3 22 rfl rfl), rfl, by decide +kernel, ⟨by decide +kernel, by decide +kernel⟩, by decide, (xt1 6 rfl rfl)⟩
theorem xm_59 : xPM (6, yX6_enterView, cX6_enterView, 3, none) := ⟨(xt3 46 rfl rfl), rfl, by decide +kernel, ⟨by decide +kernel, by decide +kernel⟩, by decide, (xt1 6 rfl rfl)⟩
theorem xm_60 : xPM (6, yX6_doWhatIsDue, cX6_doWhatIsDue, 3, none) := ⟨(xt3 54 rfl rfl), rfl, by decide +kernel, ⟨by decide +kernel, by decide +kernel⟩, by decide, (xt1 6 rfl rfl)⟩
theorem xm_61 : xPM (7, yX7_init, cX7_init, 2, none) := ⟨(xt1 180 rfl rfl), rfl, by decide +kernel, ⟨by decide +kernel, by decide +kernel⟩, by decide, (xt1 10 rfl rfl)⟩
theorem xm_62 : xPM (7, yX7_length, cX7_length, 1, (some .int)) := ⟨(xt3 70 rfl rfl), rfl, by decide +kernel, ⟨by decide +kernel, by decide +kernel⟩, by decide, (xt1 10 rfl rfl)⟩
theorem xm_63 : xPM (7, yX7_doneAt, cX7_doneAt, 2, (some .int)) := ⟨(xt4 46 rfl rfl), rfl, by decide +kernel, ⟨by decide +kernel, by decide +kernel⟩, by decide, (xt1 10 rfl rfl)⟩
theorem xm_64 : xPM (7, yX7_valueAt, cX7_valueAt, 2, (some .int)) := ⟨(xt4 34 rfl rfl), rfl, by decide +kernel, ⟨by decide +kernel, by decide +kernel⟩, by decide, (xt1 10 rfl rfl)⟩
theorem xm_65 : xPM (7, yX7_hasReply, cX7_hasReply, 2, (some .boolean)) := ⟨(xt3 187 rfl rfl), rfl, by decide +kernel, ⟨by decide +kernel, by decide +kernel⟩, by decide, (xt1 10 rfl rfl)⟩
theorem xm_66 : xPM (7, yX7_replyTo, cX7_replyTo, 2, (some .int)) := ⟨(xt3 191 rfl rfl), rfl, by decide +kernel, ⟨by decide +kernel, by decide +kernel⟩, by decide, (xt1 10 rfl rfl)⟩
theorem xm_67 : xPM (7, yX7_setReply, cX7_setReply, 3, none) := ⟨(xt3 100 rfl rfl), rfl, by decide +kernel, ⟨by decide +kernel, by decide +kernel⟩, by decide, (xt1 10 rfl rfl)⟩
theorem xm_68 : xPM (7, yX7_perform, cX7_perform, 6, none) := ⟨(xt3 74 rfl rfl), rfl, by decide +kernel, ⟨by decide +kernel, by decide +kernel⟩, by decide, (xt1 10 rfl rfl)⟩
theorem xm_69 : xPM (8, yX8_init, cX8_init, 1, none) := ⟨(xt1 141 rfl rfl), rfl, by decide +kernel, ⟨by decide +kernel, by decide +kernel⟩, by decide, (xt1 8 rfl rfl)⟩
theorem xm_70 : xPM (8, yX8_begin, cX8_begin, 2, none) := ⟨(xt3 50 rfl rfl), rfl, by decide +kernel, ⟨by decide +kernel, by decide +kernel⟩, by decide, (xt1 8 rfl rfl)⟩
theorem xm_71 : xPM (8, yX8_put, cX8_put, 2, none) := ⟨(xt3 26 rfl rfl), rfl, by decide +kernel, ⟨by decide +kernel, by decide +kernel⟩, by decide, (xt1 8 rfl rfl)⟩
theorem xm_72 : xPM (8, yX8_vote, cX8_vote, 2, none) := ⟨(xt3 30 rfl rfl), rfl, by decide +kernel, ⟨by decide +kernel, by decide +kernel⟩, by decide, (xt1 8 rfl rfl)⟩
theorem xm_73 : xPM (8, yX8_hasVote, cX8_hasVote, 2, (some .boolean)) := ⟨(xt3 62 rfl rfl), rfl, by decide +kernel, ⟨by decide +kernel, by decide +kernel⟩, by decide, (xt1 8 rfl rfl)⟩
theorem xm_74 : xPM (8, yX8_nextToDo, cX8_nextToDo, 1, (some .int)) := ⟨(xt3 104 rfl rfl), rfl, by decide +kernel, ⟨by decide +kernel, by decide +kernel⟩, by decide, (xt1 8 rfl rfl)⟩
theorem xm_75 : xPM (9, yX9_init, cX9_init, 2, none) := ⟨(xt1 24 rfl rfl), rfl, by decide +kernel, ⟨by decide +kernel, by decide +kernel⟩, by decide, (xt1 1 rfl rfl)⟩
theorem xm_76 : xPM (9, yX9_request, cX9_request, 5, (some .int)) := ⟨(xt2 16 rfl rfl), rfl, by decide +kernel, ⟨by decide +kernel, by decide +kernel⟩, by decide, (xt1 1 rfl rfl)⟩
theorem xm_77 : xPM (9, yX9_bring, cX9_bring, 4, (some .int)) := ⟨(xt2 119 rfl rfl), rfl, by decide +kernel, ⟨by decide +kernel, by decide +kernel⟩, by decide, (xt1 1 rfl rfl)⟩
theorem xm_78 : xPM (9, yX9_send, cX9_send, 5, (some .int)) := ⟨(xt3 112 rfl rfl), rfl, by decide +kernel, ⟨by decide +kernel, by decide +kernel⟩, by decide, (xt1 1 rfl rfl)⟩
theorem xm_79 : xPM (9, yX9_late, cX9_late, 4, (some .int)) := ⟨(xt3 145 rfl rfl), rfl, by decide +kernel, ⟨by decide +kernel, by decide +kernel⟩, by decide, (xt1 1 rfl rfl)⟩
theorem xm_80 : xPM (9, yX9_ask, cX9_ask, 4, (some .int)) := ⟨(xt3 168 rfl rfl), rfl, by decide +kernel, ⟨by decide +kernel, by decide +kernel⟩, by decide, (xt1 1 rfl rfl)⟩
theorem xm_81 : xPM (9, yX9_reply, cX9_reply, 4, (some .int)) := ⟨(xt3 179 rfl rfl), rfl, by decide +kernel, ⟨by decide +kernel, by decide +kernel⟩, by decide, (xt1 1 rfl rfl)⟩
theorem xm_82 : xPM (9, yX9_lie, cX9_lie, 3, (some .boolean)) := ⟨(xt3 207 rfl rfl), rfl, by decide +kernel, ⟨by decide +kernel, by decide +kernel⟩, by decide, (xt1 1 rfl rfl)⟩
theorem xm_83 : xPM (9, yX9_certify, cX9_certify, 6, (some .int)) := ⟨(xt3 218 rfl rfl), rfl, by decide +kernel, ⟨by decide +kernel, by decide +kernel⟩, by decide, (xt1 1 rfl rfl)⟩
theorem xm_84 : xPM (9, yX9_askFor, cX9_askFor, 3, none) := ⟨(xt4 1 rfl rfl), rfl, by decide +kernel, ⟨by decide +kernel, by decide +kernel⟩, by decide, (xt1 1 rfl rfl)⟩
theorem xm_85 : xPM (9, yX9_replyWith, cX9_replyWith, 4, none) := ⟨(xt4 12 rfl rfl), rfl, by decide +kernel, ⟨by decide +kernel, by decide +kernel⟩, by decide, (xt1 1 rfl rfl)⟩
theorem xm_86 : xPM (9, yX9_state, cX9_state, 4, (some .int)) := ⟨(xt4 20 rfl rfl), rfl, by decide +kernel, ⟨by decide +kernel, by decide +kernel⟩, by decide, (xt1 1 rfl rfl)⟩
theorem xm_87 : xPM (9, yX9_history, cX9_history, 3, (some .int)) := ⟨(xt4 42 rfl rfl), rfl, by decide +kernel, ⟨by decide +kernel, by decide +kernel⟩, by decide, (xt1 1 rfl rfl)⟩
theorem xm_88 : xPM (9, yX9_message, cX9_message, 4, (some .int)) := ⟨(xt4 53 rfl rfl), rfl, by decide +kernel, ⟨by decide +kernel, by decide +kernel⟩, by decide, (xt1 1 rfl rfl)⟩
theorem xm_89 : xPM (9, yX9_row, cX9_row, 4, (some .int)) := ⟨(xt4 62 rfl rfl), rfl, by decide +kernel, ⟨by decide +kernel, by decide +kernel⟩, by decide, (xt1 1 rfl rfl)⟩
theorem xm_90 : xPM (9, yX9_told, cX9_told, 3, (some .int)) := ⟨(xt4 70 rfl rfl), rfl, by decide +kernel, ⟨by decide +kernel, by decide +kernel⟩, by decide, (xt1 1 rfl rfl)⟩
theorem xm_91 : xPM (9, yX9_result, cX9_result, 3, (some .int)) := ⟨(xt4 85 rfl rfl), rfl, by decide +kernel, ⟨by decide +kernel, by decide +kernel⟩, by decide, (xt1 1 rfl rfl)⟩
theorem xm_92 : xPM (9, yX9_checkServer, cX9_checkServer, 1, none) := ⟨(xt2 146 rfl rfl), rfl, by decide +kernel, ⟨by decide +kernel, by decide +kernel⟩, by decide, (xt1 1 rfl rfl)⟩
theorem xm_93 : xPM (9, yX9_checkRequest, cX9_checkRequest, 2, none) := ⟨(xt2 123 rfl rfl), rfl, by decide +kernel, ⟨by decide +kernel, by decide +kernel⟩, by decide, (xt1 1 rfl rfl)⟩
theorem xm_94 : xPM (9, yX9_checkMessage, cX9_checkMessage, 3, none) := ⟨(xt3 116 rfl rfl), rfl, by decide +kernel, ⟨by decide +kernel, by decide +kernel⟩, by decide, (xt1 1 rfl rfl)⟩
theorem xm_95 : xPM (9, yX9_checkNotSame, cX9_checkNotSame, 2, none) := ⟨(xt3 125 rfl rfl), rfl, by decide +kernel, ⟨by decide +kernel, by decide +kernel⟩, by decide, (xt1 1 rfl rfl)⟩
theorem xm_96 : xPM (9, yX9_checkView, cX9_checkView, 1, none) := ⟨(xt3 226 rfl rfl), rfl, by decide +kernel, ⟨by decide +kernel, by decide +kernel⟩, by decide, (xt1 1 rfl rfl)⟩
theorem xm_97 : xPM (9, yX9_checkLiar, cX9_checkLiar, 2, none) := ⟨(xt3 222 rfl rfl), rfl, by decide +kernel, ⟨by decide +kernel, by decide +kernel⟩, by decide, (xt1 1 rfl rfl)⟩
theorem xm_98 : xPM (9, yX9_canStandIn, cX9_canStandIn, 3, (some .boolean)) := ⟨(xt3 231 rfl rfl), rfl, by decide +kernel, ⟨by decide +kernel, by decide +kernel⟩, by decide, (xt1 1 rfl rfl)⟩
theorem xm_99 : xPM (9, yX9_leaderOf, cX9_leaderOf, 1, (some .int)) := ⟨(xt2 154 rfl rfl), rfl, by decide +kernel, ⟨by decide +kernel, by decide +kernel⟩, by decide, (xt1 1 rfl rfl)⟩
theorem xm_100 : xPM (9, yX9_pairOf, cX9_pairOf, 2, (some .int)) := ⟨(xt3 33 rfl rfl), rfl, by decide +kernel, ⟨by decide +kernel, by decide +kernel⟩, by decide, (xt1 1 rfl rfl)⟩
theorem xm_101 : xPM (9, yX9_serverOf, cX9_serverOf, 1, (some .int)) := ⟨(xt2 191 rfl rfl), rfl, by decide +kernel, ⟨by decide +kernel, by decide +kernel⟩, by decide, (xt1 1 rfl rfl)⟩
theorem xm_102 : xPM (9, yX9_numberOf, cX9_numberOf, 1, (some .int)) := ⟨(xt2 194 rfl rfl), rfl, by decide +kernel, ⟨by decide +kernel, by decide +kernel⟩, by decide, (xt1 1 rfl rfl)⟩
theorem xm_103 : xPM (10, yX10_init, cX10_init, 3, none) := ⟨(xt4 90 rfl rfl), rfl, by decide +kernel, ⟨by decide +kernel, by decide +kernel⟩, by decide, (xt1 11 rfl rfl)⟩
theorem xm_104 : xPM (10, yX10_thrown, cX10_thrown, 1, (some .int)) := ⟨(xt4 219 rfl rfl), rfl, by decide +kernel, ⟨by decide +kernel, by decide +kernel⟩, by decide, (xt1 11 rfl rfl)⟩
theorem xm_105 : xPM (10, yX10_request, cX10_request, 7, (some .int)) := ⟨(xt4 223 rfl rfl), rfl, by decide +kernel, ⟨by decide +kernel, by decide +kernel⟩, by decide, (xt1 11 rfl rfl)⟩
theorem xm_106 : xPM (10, yX10_at, cX10_at, 2, (some .int)) := ⟨(xt5 1 rfl rfl), rfl, by decide +kernel, ⟨by decide +kernel, by decide +kernel⟩, by decide, (xt1 11 rfl rfl)⟩
theorem xm_107 : xPM (10, yX10_isThere, cX10_isThere, 3, (some .boolean)) := ⟨(xt5 33 rfl rfl), rfl, by decide +kernel, ⟨by decide +kernel, by decide +kernel⟩, by decide, (xt1 11 rfl rfl)⟩
theorem xm_108 : xPM (10, yX10_hasLeft, cX10_hasLeft, 6, (some .boolean)) := ⟨(xt5 37 rfl rfl), rfl, by decide +kernel, ⟨by decide +kernel, by decide +kernel⟩, by decide, (xt1 11 rfl rfl)⟩
theorem xm_109 : xPM (10, yX10_isChange, cX10_isChange, 6, (some .boolean)) := ⟨(xt5 29 rfl rfl), rfl, by decide +kernel, ⟨by decide +kernel, by decide +kernel⟩, by decide, (xt1 11 rfl rfl)⟩
theorem xm_110 : xPM (10, yX10_isVoidNew, cX10_isVoidNew, 5, (some .boolean)) := ⟨(xt5 25 rfl rfl), rfl, by decide +kernel, ⟨by decide +kernel, by decide +kernel⟩, by decide, (xt1 11 rfl rfl)⟩
theorem xm_111 : xPM (10, yX10_opening, cX10_opening, 4, (some .int)) := ⟨(xt5 21 rfl rfl), rfl, by decide +kernel, ⟨by decide +kernel, by decide +kernel⟩, by decide, (xt1 11 rfl rfl)⟩
theorem xm_112 : xPM (10, yX10_isVoidPrepare, cX10_isVoidPrepare, 5, (some .boolean)) := ⟨(xt5 17 rfl rfl), rfl, by decide +kernel, ⟨by decide +kernel, by decide +kernel⟩, by decide, (xt1 11 rfl rfl)⟩
theorem xm_113 : xPM (10, yX10_isVoidCommit, cX10_isVoidCommit, 8, (some .boolean)) := ⟨(xt5 41 rfl rfl), rfl, by decide +kernel, ⟨by decide +kernel, by decide +kernel⟩, by decide, (xt1 11 rfl rfl)⟩
theorem xm_114 : xPM (10, yX10_isVoid, cX10_isVoid, 3, (some .boolean)) := ⟨(xt5 13 rfl rfl), rfl, by decide +kernel, ⟨by decide +kernel, by decide +kernel⟩, by decide, (xt1 11 rfl rfl)⟩
theorem xm_115 : xPM (10, yX10_hasOf, cX10_hasOf, 8, (some .boolean)) := ⟨(xt5 73 rfl rfl), rfl, by decide +kernel, ⟨by decide +kernel, by decide +kernel⟩, by decide, (xt1 11 rfl rfl)⟩
theorem xm_116 : xPM (10, yX10_tells, cX10_tells, 7, (some .boolean)) := ⟨(xt5 81 rfl rfl), rfl, by decide +kernel, ⟨by decide +kernel, by decide +kernel⟩, by decide, (xt1 11 rfl rfl)⟩
theorem xm_117 : xPM (10, yX10_before, cX10_before, 4, (some .int)) := ⟨(xt5 69 rfl rfl), rfl, by decide +kernel, ⟨by decide +kernel, by decide +kernel⟩, by decide, (xt1 11 rfl rfl)⟩
theorem xm_118 : xPM (10, yX10_adds, cX10_adds, 11, none) := ⟨(xt5 77 rfl rfl), rfl, by decide +kernel, ⟨by decide +kernel, by decide +kernel⟩, by decide, (xt1 11 rfl rfl)⟩
theorem xm_119 : xPM (10, yX10_rows, cX10_rows, 4, none) := ⟨(xt5 65 rfl rfl), rfl, by decide +kernel, ⟨by decide +kernel, by decide +kernel⟩, by decide, (xt1 11 rfl rfl)⟩
theorem xm_120 : xPM (10, yX10_turnsTo, cX10_turnsTo, 5, none) := ⟨(xt5 57 rfl rfl), rfl, by decide +kernel, ⟨by decide +kernel, by decide +kernel⟩, by decide, (xt1 11 rfl rfl)⟩
theorem xm_121 : xPM (10, yX10_certifies, cX10_certifies, 8, (some .int)) := ⟨(xt5 5 rfl rfl), rfl, by decide +kernel, ⟨by decide +kernel, by decide +kernel⟩, by decide, (xt1 11 rfl rfl)⟩
theorem xm_122 : xPM (10, yX10_read, cX10_read, 6, none) := ⟨(xt5 9 rfl rfl), rfl, by decide +kernel, ⟨by decide +kernel, by decide +kernel⟩, by decide, (xt1 11 rfl rfl)⟩
theorem xm_123 : xPM (10, yX10_readPrepare, cX10_readPrepare, 3, none) := ⟨(xt5 45 rfl rfl), rfl, by decide +kernel, ⟨by decide +kernel, by decide +kernel⟩, by decide, (xt1 11 rfl rfl)⟩
theorem xm_124 : xPM (10, yX10_readNew, cX10_readNew, 4, none) := ⟨(xt5 53 rfl rfl), rfl, by decide +kernel, ⟨by decide +kernel, by decide +kernel⟩, by decide, (xt1 11 rfl rfl)⟩
theorem xm_125 : xPM (10, yX10_readChange, cX10_readChange, 10, none) := ⟨(xt5 49 rfl rfl), rfl, by decide +kernel, ⟨by decide +kernel, by decide +kernel⟩, by decide, (xt1 11 rfl rfl)⟩
theorem xm_126 : xPM (10, yX10_does, cX10_does, 5, none) := ⟨(xt5 61 rfl rfl), rfl, by decide +kernel, ⟨by decide +kernel, by decide +kernel⟩, by decide, (xt1 11 rfl rfl)⟩
theorem xm_127 : xPM (10, yX10_doOne, cX10_doOne, 6, none) := ⟨(xt5 85 rfl rfl), rfl, by decide +kernel, ⟨by decide +kernel, by decide +kernel⟩, by decide, (xt1 11 rfl rfl)⟩
theorem xm_128 : xPM (10, yX10_readsOn, cX10_readsOn, 5, (some .int)) := ⟨(xt5 89 rfl rfl), rfl, by decide +kernel, ⟨by decide +kernel, by decide +kernel⟩, by decide, (xt1 11 rfl rfl)⟩
theorem xm_129 : xPM (10, yX10_waits, cX10_waits, 5, (some .boolean)) := ⟨(xt5 93 rfl rfl), rfl, by decide +kernel, ⟨by decide +kernel, by decide +kernel⟩, by decide, (xt1 11 rfl rfl)⟩
theorem xm_130 : xPM (10, yX10_isServer, cX10_isServer, 1, (some .boolean)) := ⟨(xt4 234 rfl rfl), rfl, by decide +kernel, ⟨by decide +kernel, by decide +kernel⟩, by decide, (xt1 11 rfl rfl)⟩
theorem xm_131 : xPM (10, yX10_isRequest, cX10_isRequest, 2, (some .boolean)) := ⟨(xt4 231 rfl rfl), rfl, by decide +kernel, ⟨by decide +kernel, by decide +kernel⟩, by decide, (xt1 11 rfl rfl)⟩
theorem xm_132 : xPM (10, yX10_bad, cX10_bad, 3, (some .boolean)) := ⟨(xt4 238 rfl rfl), rfl, by decide +kernel, ⟨by decide +kernel, by decide +kernel⟩, by decide, (xt1 11 rfl rfl)⟩
theorem xm_133 : xPM (10, yX10_bring, cX10_bring, 4, (some .int)) := ⟨(xt4 227 rfl rfl), rfl, by decide +kernel, ⟨by decide +kernel, by decide +kernel⟩, by decide, (xt1 11 rfl rfl)⟩
theorem xm_134 : xPM (10, yX10_send, cX10_send, 4, (some .int)) := ⟨(xt5 97 rfl rfl), rfl, by decide +kernel, ⟨by decide +kernel, by decide +kernel⟩, by decide, (xt1 11 rfl rfl)⟩
theorem xm_135 : xPM (10, yX10_turns, cX10_turns, 6, (some .boolean)) := ⟨(xt5 105 rfl rfl), rfl, by decide +kernel, ⟨by decide +kernel, by decide +kernel⟩, by decide, (xt1 11 rfl rfl)⟩
theorem xm_136 : xPM (10, yX10_late, cX10_late, 3, (some .int)) := ⟨(xt5 101 rfl rfl), rfl, by decide +kernel, ⟨by decide +kernel, by decide +kernel⟩, by decide, (xt1 11 rfl rfl)⟩
theorem xm_137 : xPM (10, yX10_ask, cX10_ask, 4, (some .int)) := ⟨(xt5 109 rfl rfl), rfl, by decide +kernel, ⟨by decide +kernel, by decide +kernel⟩, by decide, (xt1 11 rfl rfl)⟩
theorem xm_138 : xPM (10, yX10_reply, cX10_reply, 5, (some .int)) := ⟨(xt5 113 rfl rfl), rfl, by decide +kernel, ⟨by decide +kernel, by decide +kernel⟩, by decide, (xt1 11 rfl rfl)⟩
theorem xm_139 : xPM (10, yX10_lie, cX10_lie, 3, (some .boolean)) := ⟨(xt5 117 rfl rfl), rfl, by decide +kernel, ⟨by decide +kernel, by decide +kernel⟩, by decide, (xt1 11 rfl rfl)⟩
theorem xm_140 : xPM (10, yX10_certify, cX10_certify, 7, (some .int)) := ⟨(xt5 121 rfl rfl), rfl, by decide +kernel, ⟨by decide +kernel, by decide +kernel⟩, by decide, (xt1 11 rfl rfl)⟩
theorem xm_141 : xPM (10, yX10_askFor, cX10_askFor, 3, none) := ⟨(xt5 125 rfl rfl), rfl, by decide +kernel, ⟨by decide +kernel, by decide +kernel⟩, by decide, (xt1 11 rfl rfl)⟩
theorem xm_142 : xPM (10, yX10_replyWith, cX10_replyWith, 4, none) := ⟨(xt5 129 rfl rfl), rfl, by decide +kernel, ⟨by decide +kernel, by decide +kernel⟩, by decide, (xt1 11 rfl rfl)⟩
theorem xm_143 : xPM (10, yX10_state, cX10_state, 3, (some .int)) := ⟨(xt5 133 rfl rfl), rfl, by decide +kernel, ⟨by decide +kernel, by decide +kernel⟩, by decide, (xt1 11 rfl rfl)⟩
theorem xm_144 : xPM (10, yX10_history, cX10_history, 3, (some .int)) := ⟨(xt5 137 rfl rfl), rfl, by decide +kernel, ⟨by decide +kernel, by decide +kernel⟩, by decide, (xt1 11 rfl rfl)⟩
theorem xm_145 : xPM (10, yX10_message, cX10_message, 5, (some .int)) := ⟨(xt5 141 rfl rfl), rfl, by decide +kernel, ⟨by decide +kernel, by decide +kernel⟩, by decide, (xt1 11 rfl rfl)⟩
theorem xm_146 : xPM (10, yX10_row, cX10_row, 3, (some .int)) := ⟨(xt5 145 rfl rfl), rfl, by decide +kernel, ⟨by decide +kernel, by decide +kernel⟩, by decide, (xt1 11 rfl rfl)⟩
theorem xm_147 : xPM (10, yX10_told, cX10_told, 3, (some .int)) := ⟨(xt5 149 rfl rfl), rfl, by decide +kernel, ⟨by decide +kernel, by decide +kernel⟩, by decide, (xt1 11 rfl rfl)⟩
theorem xm_148 : xPM (10, yX10_result, cX10_result, 3, (some .int)) := ⟨(xt5 153 rfl rfl), rfl, by decide +kernel, ⟨by decide +kernel, by decide +kernel⟩, by decide, (xt1 11 rfl rfl)⟩
set_option maxRecDepth 100000 in
theorem xMt_ok_0 : ∀ q ∈ xMt_0, xPM q := List.forall_mem_cons.mpr ⟨xm_0, List.forall_mem_cons.mpr ⟨xm_1, List.forall_mem_cons.mpr ⟨xm_2, List.forall_mem_cons.mpr ⟨xm_3, List.forall_mem_cons.mpr ⟨xm_4, List.forall_mem_cons.mpr ⟨xm_5, List.forall_mem_cons.mpr ⟨xm_6, List.forall_mem_cons.mpr ⟨xm_7, List.forall_mem_cons.mpr ⟨xm_8, List.forall_mem_cons.mpr ⟨xm_9, List.forall_mem_cons.mpr ⟨xm_10, List.forall_mem_cons.mpr ⟨xm_11, List.forall_mem_cons.mpr ⟨xm_12, List.forall_mem_cons.mpr ⟨xm_13, List.forall_mem_cons.mpr ⟨xm_14, List.forall_mem_cons.mpr ⟨xm_15, fun _ h => nomatch h⟩⟩⟩⟩⟩⟩⟩⟩⟩⟩⟩⟩⟩⟩⟩⟩
set_option maxRecDepth 100000 in
theorem xMt_ok_1 : ∀ q ∈ xMt_1, xPM q := List.forall_mem_cons.mpr ⟨xm_16, List.forall_mem_cons.mpr ⟨xm_17, List.forall_mem_cons.mpr ⟨xm_18, List.forall_mem_cons.mpr ⟨xm_19, List.forall_mem_cons.mpr ⟨xm_20, List.forall_mem_cons.mpr ⟨xm_21, List.forall_mem_cons.mpr ⟨xm_22, List.forall_mem_cons.mpr ⟨xm_23, List.forall_mem_cons.mpr ⟨xm_24, List.forall_mem_cons.mpr ⟨xm_25, List.forall_mem_cons.mpr ⟨xm_26, List.forall_mem_cons.mpr ⟨xm_27, List.forall_mem_cons.mpr ⟨xm_28, List.forall_mem_cons.mpr ⟨xm_29, List.forall_mem_cons.mpr ⟨xm_30, List.forall_mem_cons.mpr ⟨xm_31, fun _ h => nomatch h⟩⟩⟩⟩⟩⟩⟩⟩⟩⟩⟩⟩⟩⟩⟩⟩
set_option maxRecDepth 100000 in
theorem xMt_ok_2 : ∀ q ∈ xMt_2, xPM q := List.forall_mem_cons.mpr ⟨xm_32, List.forall_mem_cons.mpr ⟨xm_33, List.forall_mem_cons.mpr ⟨xm_34, List.forall_mem_cons.mpr ⟨xm_35, List.forall_mem_cons.mpr ⟨xm_36, List.forall_mem_cons.mpr ⟨xm_37, List.forall_mem_cons.mpr ⟨xm_38, List.forall_mem_cons.mpr ⟨xm_39, List.forall_mem_cons.mpr ⟨xm_40, List.forall_mem_cons.mpr ⟨xm_41, List.forall_mem_cons.mpr ⟨xm_42, List.forall_mem_cons.mpr ⟨xm_43, List.forall_mem_cons.mpr ⟨xm_44, List.forall_mem_cons.mpr ⟨xm_45, List.forall_mem_cons.mpr ⟨xm_46, List.forall_mem_cons.mpr ⟨xm_47, fun _ h => nomatch h⟩⟩⟩⟩⟩⟩⟩⟩⟩⟩⟩⟩⟩⟩⟩⟩
set_option maxRecDepth 100000 in
theorem xMt_ok_3 : ∀ q ∈ xMt_3, xPM q := List.forall_mem_cons.mpr ⟨xm_48, List.forall_mem_cons.mpr ⟨xm_49, List.forall_mem_cons.mpr ⟨xm_50, List.forall_mem_cons.mpr ⟨xm_51, List.forall_mem_cons.mpr ⟨xm_52, List.forall_mem_cons.mpr ⟨xm_53, List.forall_mem_cons.mpr ⟨xm_54, List.forall_mem_cons.mpr ⟨xm_55, List.forall_mem_cons.mpr ⟨xm_56, List.forall_mem_cons.mpr ⟨xm_57, List.forall_mem_cons.mpr ⟨xm_58, List.forall_mem_cons.mpr ⟨xm_59, List.forall_mem_cons.mpr ⟨xm_60, List.forall_mem_cons.mpr ⟨xm_61, List.forall_mem_cons.mpr ⟨xm_62, List.forall_mem_cons.mpr ⟨xm_63, fun _ h => nomatch h⟩⟩⟩⟩⟩⟩⟩⟩⟩⟩⟩⟩⟩⟩⟩⟩
set_option maxRecDepth 100000 in
theorem xMt_ok_4 : ∀ q ∈ xMt_4, xPM q := List.forall_mem_cons.mpr ⟨xm_64, List.forall_mem_cons.mpr ⟨xm_65, List.forall_mem_cons.mpr ⟨xm_66, List.forall_mem_cons.mpr ⟨xm_67, List.forall_mem_cons.mpr ⟨xm_68, List.forall_mem_cons.mpr ⟨xm_69, List.forall_mem_cons.mpr ⟨xm_70, List.forall_mem_cons.mpr ⟨xm_71, List.forall_mem_cons.mpr ⟨xm_72, List.forall_mem_cons.mpr ⟨xm_73, List.forall_mem_cons.mpr ⟨xm_74, List.forall_mem_cons.mpr ⟨xm_75, List.forall_mem_cons.mpr ⟨xm_76, List.forall_mem_cons.mpr ⟨xm_77, List.forall_mem_cons.mpr ⟨xm_78, List.forall_mem_cons.mpr ⟨xm_79, fun _ h => nomatch h⟩⟩⟩⟩⟩⟩⟩⟩⟩⟩⟩⟩⟩⟩⟩⟩
set_option maxRecDepth 100000 in
theorem xMt_ok_5 : ∀ q ∈ xMt_5, xPM q := List.forall_mem_cons.mpr ⟨xm_80, List.forall_mem_cons.mpr ⟨xm_81, List.forall_mem_cons.mpr ⟨xm_82, List.forall_mem_cons.mpr ⟨xm_83, List.forall_mem_cons.mpr ⟨xm_84, List.forall_mem_cons.mpr ⟨xm_85, List.forall_mem_cons.mpr ⟨xm_86, List.forall_mem_cons.mpr ⟨xm_87, List.forall_mem_cons.mpr ⟨xm_88, List.forall_mem_cons.mpr ⟨xm_89, List.forall_mem_cons.mpr ⟨xm_90, List.forall_mem_cons.mpr ⟨xm_91, List.forall_mem_cons.mpr ⟨xm_92, List.forall_mem_cons.mpr ⟨xm_93, List.forall_mem_cons.mpr ⟨xm_94, List.forall_mem_cons.mpr ⟨xm_95, fun _ h => nomatch h⟩⟩⟩⟩⟩⟩⟩⟩⟩⟩⟩⟩⟩⟩⟩⟩
set_option maxRecDepth 100000 in
theorem xMt_ok_6 : ∀ q ∈ xMt_6, xPM q := List.forall_mem_cons.mpr ⟨xm_96, List.forall_mem_cons.mpr ⟨xm_97, List.forall_mem_cons.mpr ⟨xm_98, List.forall_mem_cons.mpr ⟨xm_99, List.forall_mem_cons.mpr ⟨xm_100, List.forall_mem_cons.mpr ⟨xm_101, List.forall_mem_cons.mpr ⟨xm_102, List.forall_mem_cons.mpr ⟨xm_103, List.forall_mem_cons.mpr ⟨xm_104, List.forall_mem_cons.mpr ⟨xm_105, List.forall_mem_cons.mpr ⟨xm_106, List.forall_mem_cons.mpr ⟨xm_107, List.forall_mem_cons.mpr ⟨xm_108, List.forall_mem_cons.mpr ⟨xm_109, List.forall_mem_cons.mpr ⟨xm_110, List.forall_mem_cons.mpr ⟨xm_111, fun _ h => nomatch h⟩⟩⟩⟩⟩⟩⟩⟩⟩⟩⟩⟩⟩⟩⟩⟩
set_option maxRecDepth 100000 in
theorem xMt_ok_7 : ∀ q ∈ xMt_7, xPM q := List.forall_mem_cons.mpr ⟨xm_112, List.forall_mem_cons.mpr ⟨xm_113, List.forall_mem_cons.mpr ⟨xm_114, List.forall_mem_cons.mpr ⟨xm_115, List.forall_mem_cons.mpr ⟨xm_116, List.forall_mem_cons.mpr ⟨xm_117, List.forall_mem_cons.mpr ⟨xm_118, List.forall_mem_cons.mpr ⟨xm_119, List.forall_mem_cons.mpr ⟨xm_120, List.forall_mem_cons.mpr ⟨xm_121, List.forall_mem_cons.mpr ⟨xm_122, List.forall_mem_cons.mpr ⟨xm_123, List.forall_mem_cons.mpr ⟨xm_124, List.forall_mem_cons.mpr ⟨xm_125, List.forall_mem_cons.mpr ⟨xm_126, List.forall_mem_cons.mpr ⟨xm_127, fun _ h => nomatch h⟩⟩⟩⟩⟩⟩⟩⟩⟩⟩⟩⟩⟩⟩⟩⟩
set_option maxRecDepth 100000 in
theorem xMt_ok_8 : ∀ q ∈ xMt_8, xPM q := List.forall_mem_cons.mpr ⟨xm_128, List.forall_mem_cons.mpr ⟨xm_129, List.forall_mem_cons.mpr ⟨xm_130, List.forall_mem_cons.mpr ⟨xm_131, List.forall_mem_cons.mpr ⟨xm_132, List.forall_mem_cons.mpr ⟨xm_133, List.forall_mem_cons.mpr ⟨xm_134, List.forall_mem_cons.mpr ⟨xm_135, List.forall_mem_cons.mpr ⟨xm_136, List.forall_mem_cons.mpr ⟨xm_137, List.forall_mem_cons.mpr ⟨xm_138, List.forall_mem_cons.mpr ⟨xm_139, List.forall_mem_cons.mpr ⟨xm_140, List.forall_mem_cons.mpr ⟨xm_141, List.forall_mem_cons.mpr ⟨xm_142, List.forall_mem_cons.mpr ⟨xm_143, fun _ h => nomatch h⟩⟩⟩⟩⟩⟩⟩⟩⟩⟩⟩⟩⟩⟩⟩⟩
set_option maxRecDepth 100000 in
theorem xMt_ok_9 : ∀ q ∈ xMt_9, xPM q := List.forall_mem_cons.mpr ⟨xm_144, List.forall_mem_cons.mpr ⟨xm_145, List.forall_mem_cons.mpr ⟨xm_146, List.forall_mem_cons.mpr ⟨xm_147, List.forall_mem_cons.mpr ⟨xm_148, fun _ h => nomatch h⟩⟩⟩⟩⟩
theorem xapp {α : Type} {P : α → Prop} {a b : List α} (h1 : ∀ q ∈ a, P q) (h2 : ∀ q ∈ b, P q) : ∀ q ∈ a ++ b, P q := fun q h => (List.mem_append.mp h).elim (h1 q) (h2 q)
theorem xMt_ok : ∀ q ∈ xMt, xPM q := xapp (xapp (xapp (xapp (xapp (xapp (xapp (xapp (xapp (xMt_ok_0) xMt_ok_1) xMt_ok_2) xMt_ok_3) xMt_ok_4) xMt_ok_5) xMt_ok_6) xMt_ok_7) xMt_ok_8) xMt_ok_9
set_option maxRecDepth 100000 in
theorem xIt_ok_0 : (xMt_0.zip xIt_0).all (fun q => xChkI q.1.2.2.1 q.2) = true := by decide +kernel
set_option maxRecDepth 100000 in
theorem xIt_ok_1 : (xMt_1.zip xIt_1).all (fun q => xChkI q.1.2.2.1 q.2) = true := by decide +kernel
set_option maxRecDepth 100000 in
theorem xIt_ok_2 : (xMt_2.zip xIt_2).all (fun q => xChkI q.1.2.2.1 q.2) = true := by decide +kernel
set_option maxRecDepth 100000 in
theorem xIt_ok_3 : (xMt_3.zip xIt_3).all (fun q => xChkI q.1.2.2.1 q.2) = true := by decide +kernel
set_option maxRecDepth 100000 in
theorem xIt_ok_4 : (xMt_4.zip xIt_4).all (fun q => xChkI q.1.2.2.1 q.2) = true := by decide +kernel
set_option maxRecDepth 100000 in
theorem xIt_ok_5 : (xMt_5.zip xIt_5).all (fun q => xChkI q.1.2.2.1 q.2) = true := by decide +kernel
set_option maxRecDepth 100000 in
theorem xIt_ok_6 : (xMt_6.zip xIt_6).all (fun q => xChkI q.1.2.2.1 q.2) = true := by decide +kernel
set_option maxRecDepth 100000 in
theorem xIt_ok_7 : (xMt_7.zip xIt_7).all (fun q => xChkI q.1.2.2.1 q.2) = true := by decide +kernel
set_option maxRecDepth 100000 in
theorem xIt_ok_8 : (xMt_8.zip xIt_8).all (fun q => xChkI q.1.2.2.1 q.2) = true := by decide +kernel
set_option maxRecDepth 100000 in
theorem xIt_ok_9 : (xMt_9.zip xIt_9).all (fun q => xChkI q.1.2.2.1 q.2) = true := by decide +kernel
set_option maxRecDepth 100000 in
theorem xu_0 : ∀ w ∈ u_ws RX0 TX0 4, w ∈ xT := List.forall_mem_cons.mpr ⟨(xt1 108 rfl rfl), List.forall_mem_cons.mpr ⟨(xt1 110 rfl rfl), List.forall_mem_cons.mpr ⟨(xt1 112 rfl rfl), List.forall_mem_cons.mpr ⟨(xt1 114 rfl rfl), fun _ h => nomatch h⟩⟩⟩⟩
set_option maxRecDepth 100000 in
theorem xu_1 : ∀ w ∈ u_ws RX1 TX1 4, w ∈ xT := List.forall_mem_cons.mpr ⟨(xt1 89 rfl rfl), List.forall_mem_cons.mpr ⟨(xt1 91 rfl rfl), List.forall_mem_cons.mpr ⟨(xt1 93 rfl rfl), List.forall_mem_cons.mpr ⟨(xt1 95 rfl rfl), fun _ h => nomatch h⟩⟩⟩⟩
set_option maxRecDepth 100000 in
theorem xu_2 : ∀ w ∈ u_ws RX2 TX2 2, w ∈ xT := List.forall_mem_cons.mpr ⟨(xt1 171 rfl rfl), List.forall_mem_cons.mpr ⟨(xt1 173 rfl rfl), fun _ h => nomatch h⟩⟩
set_option maxRecDepth 100000 in
theorem xu_3 : ∀ w ∈ u_ws RX3 TX3 3, w ∈ xT := List.forall_mem_cons.mpr ⟨(xt1 77 rfl rfl), List.forall_mem_cons.mpr ⟨(xt1 79 rfl rfl), List.forall_mem_cons.mpr ⟨(xt1 81 rfl rfl), fun _ h => nomatch h⟩⟩⟩
set_option maxRecDepth 100000 in
theorem xu_4 : ∀ w ∈ u_ws RX4 TX4 2, w ∈ xT := List.forall_mem_cons.mpr ⟨(xt1 132 rfl rfl), List.forall_mem_cons.mpr ⟨(xt1 134 rfl rfl), fun _ h => nomatch h⟩⟩
set_option maxRecDepth 100000 in
theorem xu_5 : ∀ w ∈ u_ws RX5 TX5 7, w ∈ xT := List.forall_mem_cons.mpr ⟨(xt1 41 rfl rfl), List.forall_mem_cons.mpr ⟨(xt1 43 rfl rfl), List.forall_mem_cons.mpr ⟨(xt1 45 rfl rfl), List.forall_mem_cons.mpr ⟨(xt1 47 rfl rfl), List.forall_mem_cons.mpr ⟨(xt1 49 rfl rfl), List.forall_mem_cons.mpr ⟨(xt1 51 rfl rfl), List.forall_mem_cons.mpr ⟨(xt1 53 rfl rfl), fun _ h => nomatch h⟩⟩⟩⟩⟩⟩⟩
set_option maxRecDepth 100000 in
theorem xu_6 : ∀ w ∈ u_ws RX6 TX6 10, w ∈ xT := List.forall_mem_cons.mpr ⟨(xt1 214 rfl rfl), List.forall_mem_cons.mpr ⟨(xt1 216 rfl rfl), List.forall_mem_cons.mpr ⟨(xt1 218 rfl rfl), List.forall_mem_cons.mpr ⟨(xt1 220 rfl rfl), List.forall_mem_cons.mpr ⟨(xt1 222 rfl rfl), List.forall_mem_cons.mpr ⟨(xt1 224 rfl rfl), List.forall_mem_cons.mpr ⟨(xt1 226 rfl rfl), List.forall_mem_cons.mpr ⟨(xt1 228 rfl rfl), List.forall_mem_cons.mpr ⟨(xt1 230 rfl rfl), List.forall_mem_cons.mpr ⟨(xt1 232 rfl rfl), fun _ h => nomatch h⟩⟩⟩⟩⟩⟩⟩⟩⟩⟩
set_option maxRecDepth 100000 in
theorem xu_7 : ∀ w ∈ u_ws RX7 TX7 7, w ∈ xT := List.forall_mem_cons.mpr ⟨(xt1 189 rfl rfl), List.forall_mem_cons.mpr ⟨(xt1 191 rfl rfl), List.forall_mem_cons.mpr ⟨(xt1 193 rfl rfl), List.forall_mem_cons.mpr ⟨(xt1 195 rfl rfl), List.forall_mem_cons.mpr ⟨(xt1 197 rfl rfl), List.forall_mem_cons.mpr ⟨(xt1 199 rfl rfl), List.forall_mem_cons.mpr ⟨(xt1 201 rfl rfl), fun _ h => nomatch h⟩⟩⟩⟩⟩⟩⟩
set_option maxRecDepth 100000 in
theorem xu_8 : ∀ w ∈ u_ws RX8 TX8 5, w ∈ xT := List.forall_mem_cons.mpr ⟨(xt1 150 rfl rfl), List.forall_mem_cons.mpr ⟨(xt1 152 rfl rfl), List.forall_mem_cons.mpr ⟨(xt1 154 rfl rfl), List.forall_mem_cons.mpr ⟨(xt1 156 rfl rfl), List.forall_mem_cons.mpr ⟨(xt1 158 rfl rfl), fun _ h => nomatch h⟩⟩⟩⟩⟩
set_option maxRecDepth 100000 in
theorem xu_9 : ∀ w ∈ u_ws RX9 TX9 4, w ∈ xT := List.forall_mem_cons.mpr ⟨(xt1 239 rfl rfl), List.forall_mem_cons.mpr ⟨(xt2 1 rfl rfl), List.forall_mem_cons.mpr ⟨(xt2 3 rfl rfl), List.forall_mem_cons.mpr ⟨(xt2 5 rfl rfl), fun _ h => nomatch h⟩⟩⟩⟩
set_option maxRecDepth 100000 in
theorem xu_10 : ∀ w ∈ u_ws RX10 TX10 41, w ∈ xT := List.forall_mem_cons.mpr ⟨(xt4 133 rfl rfl), List.forall_mem_cons.mpr ⟨(xt4 135 rfl rfl), List.forall_mem_cons.mpr ⟨(xt4 137 rfl rfl), List.forall_mem_cons.mpr ⟨(xt4 139 rfl rfl), List.forall_mem_cons.mpr ⟨(xt4 141 rfl rfl), List.forall_mem_cons.mpr ⟨(xt4 143 rfl rfl), List.forall_mem_cons.mpr ⟨(xt4 145 rfl rfl), List.forall_mem_cons.mpr ⟨(xt4 147 rfl rfl), List.forall_mem_cons.mpr ⟨(xt4 149 rfl rfl), List.forall_mem_cons.mpr ⟨(xt4 151 rfl rfl), List.forall_mem_cons.mpr ⟨(xt4 153 rfl rfl), List.forall_mem_cons.mpr ⟨(xt4 155 rfl rfl), List.forall_mem_cons.mpr ⟨(xt4 157 rfl rfl), List.forall_mem_cons.mpr ⟨(xt4 159 rfl rfl), List.forall_mem_cons.mpr ⟨(xt4 161 rfl rfl), List.forall_mem_cons.mpr ⟨(xt4 163 rfl rfl), List.forall_mem_cons.mpr ⟨(xt4 165 rfl rfl), List.forall_mem_cons.mpr ⟨(xt4 167 rfl rfl), List.forall_mem_cons.mpr ⟨(xt4 169 rfl rfl), List.forall_mem_cons.mpr ⟨(xt4 171 rfl rfl), List.forall_mem_cons.mpr ⟨(xt4 173 rfl rfl), List.forall_mem_cons.mpr ⟨(xt4 175 rfl rfl), List.forall_mem_cons.mpr ⟨(xt4 177 rfl rfl), List.forall_mem_cons.mpr ⟨(xt4 179 rfl rfl), List.forall_mem_cons.mpr ⟨(xt4 181 rfl rfl), List.forall_mem_cons.mpr ⟨(xt4 183 rfl rfl), List.forall_mem_cons.mpr ⟨(xt4 185 rfl rfl), List.forall_mem_cons.mpr ⟨(xt4 187 rfl rfl), List.forall_mem_cons.mpr ⟨(xt4 189 rfl rfl), List.forall_mem_cons.mpr ⟨(xt4 191 rfl rfl), List.forall_mem_cons.mpr ⟨(xt4 193 rfl rfl), List.forall_mem_cons.mpr ⟨(xt4 195 rfl rfl), List.forall_mem_cons.mpr ⟨(xt4 197 rfl rfl), List.forall_mem_cons.mpr ⟨(xt4 199 rfl rfl), List.forall_mem_cons.mpr ⟨(xt4 201 rfl rfl), List.forall_mem_cons.mpr ⟨(xt4 203 rfl rfl), List.forall_mem_cons.mpr ⟨(xt4 205 rfl rfl), List.forall_mem_cons.mpr ⟨(xt4 207 rfl rfl), List.forall_mem_cons.mpr ⟨(xt4 209 rfl rfl), List.forall_mem_cons.mpr ⟨(xt4 211 rfl rfl), List.forall_mem_cons.mpr ⟨(xt4 213 rfl rfl), fun _ h => nomatch h⟩⟩⟩⟩⟩⟩⟩⟩⟩⟩⟩⟩⟩⟩⟩⟩⟩⟩⟩⟩⟩⟩⟩⟩⟩⟩⟩⟩⟩⟩⟩⟩⟩⟩⟩⟩⟩⟩⟩⟩⟩
