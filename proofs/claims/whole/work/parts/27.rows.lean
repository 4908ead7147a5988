/-! rows of runs over whole numbers -/
def zrg (x : Int) : Prop := -2147483648 ≤ x ∧ x < 2147483648
def zb2 (p : Prop) [Decidable p] : Int := if p then 1 else 0
theorem zb2_t {p : Prop} [Decidable p] (h : p) : zb2 p = 1 := if_pos h
theorem zb2_f {p : Prop} [Decidable p] (h : ¬ p) : zb2 p = 0 := if_neg h
theorem zrt {x : Int} (h : zrg x) : (Int32.ofInt x).toInt = x := Int32.toInt_ofInt_of_le h.1 h.2
theorem zlt {x y : Int} (hx : zrg x) (hy : zrg y) : Int32.ofInt x < Int32.ofInt y ↔ x < y := by
  rw [Int32.lt_iff_toInt_lt, zrt hx, zrt hy]
theorem zeq {x y : Int} (hx : zrg x) (hy : zrg y) : Int32.ofInt x = Int32.ofInt y ↔ x = y := by
  rw [← Int32.toInt_inj, zrt hx, zrt hy]
theorem zcl {i : Int} (h0 : 0 ≤ i) (h : i < 2147483648) : (Int32.ofInt i).toNatClampNeg = i.toNat := by
  show (Int32.ofInt i).toInt.toNat = i.toNat
  rw [zrt ⟨by omega, h⟩]
theorem zcln {i : Int} {n : Nat} (h0 : 0 ≤ i) (h : i < n) (hn : n < 2147483648) : ¬ (Int32.ofInt i < 0 ∨ n ≤ (Int32.ofInt i).toNatClampNeg) := by
  rw [zcl h0 (by omega), show (0 : Int32) = Int32.ofInt 0 from rfl, zlt ⟨by omega, by omega⟩ ⟨by decide, by decide⟩]
  omega
theorem zdiv {x : Int} (h0 : 0 ≤ x) (h : x < 2147483648) : Int32.ofInt x / Int32.ofInt 3 = Int32.ofInt (x / 3) := by
  have h1 : Int32.minValue.toInt = -2147483648 := by decide
  have h2 : Int32.maxValue.toInt = 2147483647 := by decide
  rw [← Int32.ofInt_tdiv (by omega) (by omega) (by omega) (by omega), Int.tdiv_eq_ediv_of_nonneg h0]
theorem zrem {x : Int} (h0 : 0 ≤ x) (h : x < 2147483648) : Int32.ofInt x - Int32.ofInt x / Int32.ofInt 3 * Int32.ofInt 3 = Int32.ofInt (x % 3) := by
  rw [zdiv h0 h, ← Int32.ofInt_mul, ← Int32.ofInt_sub]
  congr 1
  omega
theorem zar_at {g : Int → Int} {i : Int} (h0 : 0 ≤ i) (h : i < 2147483648) : zar g (Int32.ofInt i).toNatClampNeg = Int32.ofInt (g i) := by
  rw [zcl h0 h]
  simp only [zar, Int.toNat_of_nonneg h0]
theorem zar_st {g : Int → Int} {i x : Int} (h0 : 0 ≤ i) (h : i < 2147483648) : upd (zar g) (Int32.ofInt i).toNatClampNeg (Int32.ofInt x) = zar (zst g i x) := by
  rw [zcl h0 h]
  funext p
  simp only [upd, zar, zst]
  by_cases hp : p = i.toNat
  · rw [if_pos hp, if_pos (by omega)]
  · rw [if_neg hp, if_neg (by omega)]
theorem znar {x : Int} (h : x = 0 ∨ x = 1) : vp_nar .boolean (Int32.ofInt x) = Int32.ofInt x := by
  rcases h with rfl | rfl <;> decide
theorem zfitI {x : Int32} : xfit .int (.int x) = true := rfl
theorem zfitZ {x : Int} (h : x = 0 ∨ x = 1) : xfit .boolean (zci x) = true := by
  rcases h with rfl | rfl <;> decide
section ZGH
variable {d u pc len a : Nat} {lo : XL} {st : List Value} {σ : XS} {r : Option Value × XS}
theorem zg_bi {n : Int} (hi : xIn u pc = some (.bipush n, len)) (hn : (Int8.ofInt n).toInt32 = Int32.ofInt n) (h : XG d u (pc + 2) lo (zci n :: st) σ r) : XG d u pc lo st σ r := by
  refine xg_step hi rfl (fun k => ?_) h
  simp only [xst, hn]
theorem zg_si {n : Int} (hi : xIn u pc = some (.sipush n, len)) (hn : (Int16.ofInt n).toInt32 = Int32.ofInt n) (h : XG d u (pc + 3) lo (zci n :: st) σ r) : XG d u pc lo st σ r := by
  refine xg_step hi rfl (fun k => ?_) h
  simp only [xst, hn]
theorem zg_add {x y : Int} (hi : xIn u pc = some (.iadd, len)) (h : XG d u (pc + 1) lo (zci (x + y) :: st) σ r) : XG d u pc lo (zci y :: zci x :: st) σ r := by
  refine xg_step hi rfl (fun k => ?_) h
  simp only [xst, zci, Int32.ofInt_add]
theorem zg_sub {x y : Int} (hi : xIn u pc = some (.isub, len)) (h : XG d u (pc + 1) lo (zci (x - y) :: st) σ r) : XG d u pc lo (zci y :: zci x :: st) σ r := by
  refine xg_step hi rfl (fun k => ?_) h
  simp only [xst, zci, Int32.ofInt_sub]
theorem zg_mul {x y : Int} (hi : xIn u pc = some (.imul, len)) (h : XG d u (pc + 1) lo (zci (x * y) :: st) σ r) : XG d u pc lo (zci y :: zci x :: st) σ r := by
  refine xg_step hi rfl (fun k => ?_) h
  simp only [xst, zci, Int32.ofInt_mul]
theorem zg_div {x : Int} (hi : xIn u pc = some (.idiv, len)) (h0 : 0 ≤ x ∧ x < 2147483648) (h : XG d u (pc + 1) lo (zci (x / 3) :: st) σ r) : XG d u pc lo (zci 3 :: zci x :: st) σ r := by
  refine xg_step hi rfl (fun k => ?_) h
  simp only [xst, zdiv h0.1 h0.2]
  rfl
theorem zg_rem {x : Int} (hi : xIn u pc = some (.irem, len)) (h0 : 0 ≤ x ∧ x < 2147483648) (h : XG d u (pc + 1) lo (zci (x % 3) :: st) σ r) : XG d u pc lo (zci 3 :: zci x :: st) σ r := by
  refine xg_step hi rfl (fun k => ?_) h
  simp only [xst, zrem h0.1 h0.2]
  rfl
theorem zg_inc {j : Nat} {n x y : Int} {lo' : XL} (hi : xIn u pc = some (.iinc j n, len)) (hl : lo[j]? = some (some (zci x))) (hy : x + n = y) (hl' : lo.set j (some (zci y)) = lo') (h : XG d u (pc + 3) lo' st σ r) : XG d u pc lo st σ r := by
  subst hy
  refine xg_step hi rfl (fun k => ?_) h
  simp only [xst, hl, ← Int32.ofInt_add, hl']
theorem zg_eq {x y : Int} {pc1 pc2 : Nat} {i : Instr} (hi : xIn u pc = some (i, len)) (hp : xpl i = true) (he : ∀ (x y : Int32) (k : Nat → XL → List Value → XS → XO), xst (xM u).1 (xini u) pc i lo (.int y :: .int x :: st) σ k = if x = y then k pc1 lo st σ else k pc2 lo st σ) (hx : zrg x) (hy : zrg y) (h1 : x = y → XG d u pc1 lo st σ r) (h2 : ¬ x = y → XG d u pc2 lo st σ r) : XG d u pc lo (zci y :: zci x :: st) σ r :=
  xg_if (c := Int32.ofInt x = Int32.ofInt y) hi hp (he _ _) (fun q => h1 ((zeq hx hy).mp q)) (fun q => h2 (fun e => q ((zeq hx hy).mpr e)))
theorem zg_lt {x y : Int} {pc1 pc2 : Nat} {i : Instr} (hi : xIn u pc = some (i, len)) (hp : xpl i = true) (he : ∀ (x y : Int32) (k : Nat → XL → List Value → XS → XO), xst (xM u).1 (xini u) pc i lo (.int y :: .int x :: st) σ k = if x < y then k pc1 lo st σ else k pc2 lo st σ) (hx : zrg x) (hy : zrg y) (h1 : x < y → XG d u pc1 lo st σ r) (h2 : ¬ x < y → XG d u pc2 lo st σ r) : XG d u pc lo (zci y :: zci x :: st) σ r :=
  xg_if (c := Int32.ofInt x < Int32.ofInt y) hi hp (he _ _) (fun q => h1 ((zlt hx hy).mp q)) (fun q => h2 (fun e => q ((zlt hx hy).mpr e)))
theorem zg_gt {x y : Int} {pc1 pc2 : Nat} {i : Instr} (hi : xIn u pc = some (i, len)) (hp : xpl i = true) (he : ∀ (x y : Int32) (k : Nat → XL → List Value → XS → XO), xst (xM u).1 (xini u) pc i lo (.int y :: .int x :: st) σ k = if y < x then k pc1 lo st σ else k pc2 lo st σ) (hx : zrg x) (hy : zrg y) (h1 : y < x → XG d u pc1 lo st σ r) (h2 : ¬ y < x → XG d u pc2 lo st σ r) : XG d u pc lo (zci y :: zci x :: st) σ r :=
  xg_if (c := Int32.ofInt y < Int32.ofInt x) hi hp (he _ _) (fun q => h1 ((zlt hy hx).mp q)) (fun q => h2 (fun e => q ((zlt hy hx).mpr e)))
theorem zg_eq0 {x : Int} {pc1 pc2 : Nat} {i : Instr} (hi : xIn u pc = some (i, len)) (hp : xpl i = true) (he : ∀ (x : Int32) (k : Nat → XL → List Value → XS → XO), xst (xM u).1 (xini u) pc i lo (.int x :: st) σ k = if x = 0 then k pc1 lo st σ else k pc2 lo st σ) (hx : zrg x) (h1 : x = 0 → XG d u pc1 lo st σ r) (h2 : ¬ x = 0 → XG d u pc2 lo st σ r) : XG d u pc lo (zci x :: st) σ r :=
  xg_if (c := Int32.ofInt x = 0) hi hp (he _) (fun q => h1 ((zeq hx ⟨by decide, by decide⟩).mp q)) (fun q => h2 (fun e => q ((zeq hx ⟨by decide, by decide⟩).mpr e)))
theorem zg_lt0 {x : Int} {pc1 pc2 : Nat} {i : Instr} (hi : xIn u pc = some (i, len)) (hp : xpl i = true) (he : ∀ (x : Int32) (k : Nat → XL → List Value → XS → XO), xst (xM u).1 (xini u) pc i lo (.int x :: st) σ k = if x < 0 then k pc1 lo st σ else k pc2 lo st σ) (hx : zrg x) (h1 : x < 0 → XG d u pc1 lo st σ r) (h2 : ¬ x < 0 → XG d u pc2 lo st σ r) : XG d u pc lo (zci x :: st) σ r :=
  xg_if (c := Int32.ofInt x < 0) hi hp (he _) (fun q => h1 ((zlt hx ⟨by decide, by decide⟩).mp q)) (fun q => h2 (fun e => q ((zlt hx ⟨by decide, by decide⟩).mpr e)))
theorem zg_gt0 {x : Int} {pc1 pc2 : Nat} {i : Instr} (hi : xIn u pc = some (i, len)) (hp : xpl i = true) (he : ∀ (x : Int32) (k : Nat → XL → List Value → XS → XO), xst (xM u).1 (xini u) pc i lo (.int x :: st) σ k = if 0 < x then k pc1 lo st σ else k pc2 lo st σ) (hx : zrg x) (h1 : 0 < x → XG d u pc1 lo st σ r) (h2 : ¬ 0 < x → XG d u pc2 lo st σ r) : XG d u pc lo (zci x :: st) σ r :=
  xg_if (c := 0 < Int32.ofInt x) hi hp (he _) (fun q => h1 ((zlt ⟨by decide, by decide⟩ hx).mp q)) (fun q => h2 (fun e => q ((zlt ⟨by decide, by decide⟩ hx).mpr e)))
/-- a table of ways -/
theorem zg_ts {x : Int} {pc' : Nat} {i : Instr} (hi : xIn u pc = some (i, len)) (hp : xpl i = true) (he : ∀ (k : Nat → XL → List Value → XS → XO), xst (xM u).1 (xini u) pc i lo (zci x :: st) σ k = k pc' lo st σ) (h : XG d u pc' lo st σ r) : XG d u pc lo (zci x :: st) σ r :=
  xg_step hi hp he h
theorem zg_ald {i x : Int} {t n : Nat} {g : Int → Int} (ht : (t = 0 ∧ xIn u pc = some (.iaload, len)) ∨ (t = 1 ∧ xIn u pc = some (.baload, len))) (ha : a < σ.1) (hf : σ.2.2 a = .inr (t, n, .inl (zar g))) (hn : n < 2147483648) (hin : 0 ≤ i ∧ i < n) (hx : g i = x) (h : XG d u (pc + 1) lo (zci x :: st) σ r) : XG d u pc lo (zci i :: .ref a :: st) σ r := by
  subst hx
  rcases ht with ⟨rfl, hi⟩ | ⟨rfl, hi⟩
  · refine xg_iald hi ha hf (zcln hin.1 hin.2 hn) ?_
    rw [zar_at hin.1 (by omega)]
    exact h
  · refine xg_zald hi ha hf (zcln hin.1 hin.2 hn) ?_
    rw [zar_at hin.1 (by omega)]
    exact h
theorem zg_ast {i x : Int} {t n : Nat} {g : Int → Int} {σ' : XS} (ht : (t = 0 ∧ xIn u pc = some (.iastore, len)) ∨ (t = 1 ∧ xIn u pc = some (.bastore, len) ∧ (x = 0 ∨ x = 1))) (ha : a < σ.1) (hf : σ.2.2 a = .inr (t, n, .inl (zar g))) (hn : n < 2147483648) (hin : 0 ≤ i ∧ i < n) (hw : (σ.1, σ.2.1, va_up σ.2.2 a (.inr (t, n, .inl (zar (zst g i x))))) = σ') (h : XG d u (pc + 1) lo st σ' r) : XG d u pc lo (zci x :: zci i :: .ref a :: st) σ r := by
  subst hw
  rcases ht with ⟨rfl, hi⟩ | ⟨rfl, hi, hb⟩
  · refine xg_iast hi ha hf (zcln hin.1 hin.2 hn) ?_
    rw [zar_st hin.1 (by omega)]
    exact h
  · refine xg_zast hi ha hf (zcln hin.1 hin.2 hn) ?_
    rw [znar hb, zar_st hin.1 (by omega)]
    exact h
theorem zg_put {j ci kf : Nat} {nest : Bool} {fs gs : List Value} {v : Value} {σ' : XS} (hi : xIn u pc = some (.putfield j, len)) (hF : xF (xM u).1 j = some (ci, kf, nest)) (ha : a < σ.1) (hf : σ.2.2 a = .inl (ci, fs)) (hl : kf < fs.length) (hp : xput (xM u).1 (xini u) ci kf nest = true) (hfit : xfit (xFty ci kf) v = true) (hg : fs.set kf v = gs) (hw : (σ.1, σ.2.1, va_up σ.2.2 a (.inl (ci, gs))) = σ') (h : XG d u (pc + 3) lo st σ' r) : XG d u pc lo (v :: .ref a :: st) σ r := by
  subst hw
  subst hg
  exact xg_put hi hF ha hf hl hp hfit h
theorem zg_aald {i : Int} {t n b : Nat} {g : Nat → Option Nat} (hi : xIn u pc = some (.aaload, len)) (ha : a < σ.1) (hf : σ.2.2 a = .inr (t, n, .inr g)) (ht : ¬ t < 2) (hn : n < 2147483648) (hin : 0 ≤ i ∧ i < n) (hg : g i.toNat = some b) (h : XG d u (pc + 1) lo (.ref b :: st) σ r) : XG d u pc lo (zci i :: .ref a :: st) σ r := by
  refine xg_step hi rfl (fun k => ?_) h
  have hq := zcln (n := n) hin.1 hin.2 hn
  have hq' : ¬ (t < 2 ∨ Int32.ofInt i < 0 ∨ n ≤ (Int32.ofInt i).toNatClampNeg) := fun e => e.elim ht hq
  simp only [xst, ha, hf, if_true, if_neg hq']
  rw [zcl hin.1 (by omega), hg]
theorem zg_len {t n : Nat} {x : Int} {e : (Nat → Int32) ⊕ (Nat → Option Nat)} (hi : xIn u pc = some (.arraylength, len)) (ha : a < σ.1) (hf : σ.2.2 a = .inr (t, n, e)) (hx : (n : Int) = x) (h : XG d u (pc + 1) lo (zci x :: st) σ r) : XG d u pc lo (.ref a :: st) σ r := by
  subst hx
  refine xg_step hi rfl (fun k => ?_) h
  simp only [xst, ha, hf, if_true]
  rfl
theorem zg_iret {x : Int} {ty : FieldType} (hi : xIn u pc = some (.ireturn, len)) (ht : (xM u).2.2.2.2 = some ty) (hf : xfit ty (zci x) = true) (hr : r = (some (zci x), σ)) : XG d u pc lo [zci x] σ r := by
  subst hr
  exact xg_ireturn hi ht hf
theorem zg_ret (hi : xIn u pc = some (.return_, len)) (ht : (xM u).2.2.2.2 = none) (hr : r = (none, σ)) : XG d u pc lo [] σ r := by
  subst hr
  exact xg_return hi ht
theorem zg_aret {ty : FieldType} (hi : xIn u pc = some (.areturn, len)) (ht : (xM u).2.2.2.2 = some ty) (hf : xfit ty (.ref a) = true) (hr : r = (some (.ref a), σ)) : XG d u pc lo [.ref a] σ r := by
  subst hr
  exact xg_areturn hi ht hf
theorem zg_cv {j u' b c : Nat} {fs rest vs : List Value} {rv : Option Value} {σ1 : XS} (hi : xIn u pc = some (.invokevirtual j, len)) (hC : xC (xM u).1 j = some (0, u')) (hd : st.drop (xA u') = .ref b :: rest) (hcat : (rest.map Value.category).sum ≤ 8) (hb : b < σ.1) (hf : σ.2.2 b = .inl (c, fs)) (hcm : c = (xM u').1) (hvs : .ref b :: (st.take (xA u')).reverse = vs) (hc : XR d u' vs σ (rv, σ1)) (h : XG d u (pc + 3) lo (rv.toList ++ rest) σ1 r) : XG d u pc lo st σ r := by
  refine xg_call hi (.inl ⟨rfl, rfl⟩) hc (fun call k hq => ?_) h
  unfold xinv
  rw [hC]
  dsimp only
  rw [if_pos ⟨rfl, rfl⟩, hd]
  dsimp only
  rw [if_pos ⟨hcat, hb⟩, hf]
  dsimp only
  rw [if_pos hcm, hvs, hq]
theorem zg_cvi {j u' b c : Nat} {fs rest vs : List Value} {v : Value} {σ1 : XS} (hi : xIn u pc = some (.invokevirtual j, len)) (hC : xC (xM u).1 j = some (0, u')) (hd : st.drop (xA u') = .ref b :: rest) (hcat : (rest.map Value.category).sum ≤ 8) (hb : b < σ.1) (hf : σ.2.2 b = .inl (c, fs)) (hcm : c = (xM u').1) (hvs : .ref b :: (st.take (xA u')).reverse = vs) (hc : XR d u' vs σ (some v, σ1)) (h : XG d u (pc + 3) lo (v :: rest) σ1 r) : XG d u pc lo st σ r :=
  zg_cv hi hC hd hcat hb hf hcm hvs hc h
theorem zg_cvv {j u' b c : Nat} {fs rest vs : List Value} {σ1 : XS} (hi : xIn u pc = some (.invokevirtual j, len)) (hC : xC (xM u).1 j = some (0, u')) (hd : st.drop (xA u') = .ref b :: rest) (hcat : (rest.map Value.category).sum ≤ 8) (hb : b < σ.1) (hf : σ.2.2 b = .inl (c, fs)) (hcm : c = (xM u').1) (hvs : .ref b :: (st.take (xA u')).reverse = vs) (hc : XR d u' vs σ (none, σ1)) (h : XG d u (pc + 3) lo rest σ1 r) : XG d u pc lo st σ r :=
  zg_cv hi hC hd hcat hb hf hcm hvs hc h
theorem zg_cvb {j u' b c : Nat} {fs rest vs : List Value} {p : Prop} [Decidable p] {σ1 : XS} (hi : xIn u pc = some (.invokevirtual j, len)) (hC : xC (xM u).1 j = some (0, u')) (hd : st.drop (xA u') = .ref b :: rest) (hcat : (rest.map Value.category).sum ≤ 8) (hb : b < σ.1) (hf : σ.2.2 b = .inl (c, fs)) (hcm : c = (xM u').1) (hvs : .ref b :: (st.take (xA u')).reverse = vs) (hc : XR d u' vs σ (some (zci (zb2 p)), σ1)) (h1 : p → XG d u (pc + 3) lo (zci 1 :: rest) σ1 r) (h0 : ¬ p → XG d u (pc + 3) lo (zci 0 :: rest) σ1 r) : XG d u pc lo st σ r := by
  refine zg_cvi hi hC hd hcat hb hf hcm hvs hc ?_
  by_cases hp : p
  · rw [zb2_t hp]; exact h1 hp
  · rw [zb2_f hp]; exact h0 hp
theorem zg_cs {j u' kd : Nat} {rest vs : List Value} {rv : Option Value} {σ1 : XS} (hi : xIn u pc = some (.invokestatic j, len)) (hC : xC (xM u).1 j = some (kd, u')) (hkd : kd = 1 ∨ kd = 2) (hl : (st.take (xA u')).length = xA u') (hd : st.drop (xA u') = rest) (hcat : (rest.map Value.category).sum ≤ 8) (hvs : (st.take (xA u')).reverse = vs) (hc : XR d u' vs σ (rv, σ1)) (h : XG d u (pc + 3) lo (rv.toList ++ rest) σ1 r) : XG d u pc lo st σ r := by
  refine xg_call hi (.inr (.inl ⟨rfl, rfl⟩)) hc (fun call k hq => ?_) h
  subst hd
  unfold xinv
  rw [hC]
  dsimp only
  rw [if_neg (by omega), if_pos ⟨hkd, rfl⟩, if_pos ⟨hl, hcat⟩, hvs, hq]
theorem zg_csi {j u' kd : Nat} {rest vs : List Value} {v : Value} {σ1 : XS} (hi : xIn u pc = some (.invokestatic j, len)) (hC : xC (xM u).1 j = some (kd, u')) (hkd : kd = 1 ∨ kd = 2) (hl : (st.take (xA u')).length = xA u') (hd : st.drop (xA u') = rest) (hcat : (rest.map Value.category).sum ≤ 8) (hvs : (st.take (xA u')).reverse = vs) (hc : XR d u' vs σ (some v, σ1)) (h : XG d u (pc + 3) lo (v :: rest) σ1 r) : XG d u pc lo st σ r :=
  zg_cs hi hC hkd hl hd hcat hvs hc h
theorem zg_csv {j u' kd : Nat} {rest vs : List Value} {σ1 : XS} (hi : xIn u pc = some (.invokestatic j, len)) (hC : xC (xM u).1 j = some (kd, u')) (hkd : kd = 1 ∨ kd = 2) (hl : (st.take (xA u')).length = xA u') (hd : st.drop (xA u') = rest) (hcat : (rest.map Value.category).sum ≤ 8) (hvs : (st.take (xA u')).reverse = vs) (hc : XR d u' vs σ (none, σ1)) (h : XG d u (pc + 3) lo rest σ1 r) : XG d u pc lo st σ r :=
  zg_cs hi hC hkd hl hd hcat hvs hc h
theorem zg_csb {j u' kd : Nat} {rest vs : List Value} {p : Prop} [Decidable p] {σ1 : XS} (hi : xIn u pc = some (.invokestatic j, len)) (hC : xC (xM u).1 j = some (kd, u')) (hkd : kd = 1 ∨ kd = 2) (hl : (st.take (xA u')).length = xA u') (hd : st.drop (xA u') = rest) (hcat : (rest.map Value.category).sum ≤ 8) (hvs : (st.take (xA u')).reverse = vs) (hc : XR d u' vs σ (some (zci (zb2 p)), σ1)) (h1 : p → XG d u (pc + 3) lo (zci 1 :: rest) σ1 r) (h0 : ¬ p → XG d u (pc + 3) lo (zci 0 :: rest) σ1 r) : XG d u pc lo st σ r := by
  refine zg_csi hi hC hkd hl hd hcat hvs hc ?_
  by_cases hp : p
  · rw [zb2_t hp]; exact h1 hp
  · rw [zb2_f hp]; exact h0 hp
theorem zg_max {j z : Nat} {x y : Int} (hi : xIn u pc = some (.invokestatic j, len)) (hC : xC (xM u).1 j = some (7, z)) (hcat : (st.map Value.category).sum ≤ 8) (hx : zrg x) (hy : zrg y) (h : XG d u (pc + 3) lo (zci (max x y) :: st) σ r) : XG d u pc lo (zci y :: zci x :: st) σ r := by
  obtain ⟨N, n, h⟩ := h
  refine ⟨N, n + 1, ?_⟩
  unfold xgo
  rw [hi]
  dsimp only
  unfold xinv
  rw [hC]
  dsimp only
  rw [if_neg (by omega), if_neg (by omega), if_pos ⟨rfl, rfl⟩, if_pos hcat]
  have e : (if Int32.ofInt x < Int32.ofInt y then Int32.ofInt y else Int32.ofInt x) = Int32.ofInt (max x y) := by
    by_cases q : x < y
    · rw [if_pos ((zlt hx hy).mpr q)]; congr 1; omega
    · rw [if_neg (fun e => q ((zlt hx hy).mp e))]; congr 1; omega
  rw [e]
  exact h
theorem zg_min {j z : Nat} {x y : Int} (hi : xIn u pc = some (.invokestatic j, len)) (hC : xC (xM u).1 j = some (8, z)) (hcat : (st.map Value.category).sum ≤ 8) (hx : zrg x) (hy : zrg y) (h : XG d u (pc + 3) lo (zci (min x y) :: st) σ r) : XG d u pc lo (zci y :: zci x :: st) σ r := by
  obtain ⟨N, n, h⟩ := h
  refine ⟨N, n + 1, ?_⟩
  unfold xgo
  rw [hi]
  dsimp only
  unfold xinv
  rw [hC]
  dsimp only
  rw [if_neg (by omega), if_neg (by omega), if_neg (by omega), if_pos ⟨rfl, rfl⟩, if_pos hcat]
  have e : (if Int32.ofInt y < Int32.ofInt x then Int32.ofInt y else Int32.ofInt x) = Int32.ofInt (min x y) := by
    by_cases q : y < x
    · rw [if_pos ((zlt hy hx).mpr q)]; congr 1; omega
    · rw [if_neg (fun e => q ((zlt hy hx).mp e))]; congr 1; omega
  rw [e]
  exact h
end ZGH
theorem zha {A B : ZM} {a : Nat} (h : a < 144) : a < (zhp A B).1 := Nat.lt_of_lt_of_le h (Nat.le_add_right _ _)
theorem zhwA {A B : ZM} {b : Nat} {a i x : Int} {X : XE} (ha : a ≠ -2) (h : va_up (zen A B) b X = zen (zup A a i x) B) : ((zhp A B).1, (zhp A B).2.1, va_up (zhp A B).2.2 b X) = zhp (zup A a i x) B := by
  show (_, _, va_up (zen A B) b X) = (_, _, zen (zup A a i x) B)
  rw [h, zup_row (A := A) (a := a) (b := -2) (fun q => ha q.symm)]
  rfl
theorem zhwB {A B B' : ZM} {b : Nat} {X : XE} (h : va_up (zen A B) b X = zen A B') : ((zhp A B).1, (zhp A B).2.1, va_up (zhp A B).2.2 b X) = zhp A B' := by
  show (_, _, va_up (zen A B) b X) = (_, _, zen A B')
  rw [h]
  rfl
theorem zwk {A B : ZM} {b : Nat} {i x a j : Int} {X : XE} (hk : zrk b i = (a, j)) (h : va_up (zen A B) b X = zen A (zup B (zrk b i).1 (zrk b i).2 x)) : va_up (zen A B) b X = zen A (zup B a j x) := by
  rw [h, hk]
theorem zvk {B : ZM} {b : Nat} {i a j : Int} (hk : zrk b i = (a, j)) : zrv B b i = B a j := by
  simp only [zrv, hk]
def zRg (A : ZM) : Prop := ∀ a i, zrg (A a i)
theorem zRg_up {A : ZM} {a i x : Int} (h : zRg A) (hx : zrg x) : zRg (zup A a i x) := fun b j => by
  unfold zup
  split
  · exact hx
  · exact h b j
theorem zrg_max {x y : Int} (hx : zrg x) (hy : zrg y) : zrg (max x y) := ⟨by have := hx.1; omega, by have := hx.2; have := hy.2; omega⟩
theorem zg_geti {d u pc len a : Nat} {lo : XL} {st : List Value} {σ : XS} {r : Option Value × XS} {j ci kf : Nat} {nest : Bool} {fs : List Value} {y x : Int} (hi : xIn u pc = some (.getfield j, len)) (hF : xF (xM u).1 j = some (ci, kf, nest)) (ha : a < σ.1) (hf : σ.2.2 a = .inl (ci, fs)) (hv : fs[kf]? = some (zci y)) (hx : y = x) (h : XG d u (pc + 3) lo (zci x :: st) σ r) : XG d u pc lo (.ref a :: st) σ r := by
  subst hx
  exact xg_get hi hF ha hf hv rfl h
/-- a fold along a row of numbers -/
def zfr {α : Type} (f : Int → α → α) : Nat → Int → α → α
  | 0, _, a => a
  | n + 1, k, a => zfr f n (k + 1) (f k a)
def zfi {α : Type} (f : Int → α → α) (k l : Int) (a : α) : α := zfr f (l + 1 - k).toNat k a
theorem zfi_S {α : Type} {f : Int → α → α} {k l : Int} {a : α} (h : k ≤ l) : zfi f k l a = zfi f (k + 1) l (f k a) := by
  unfold zfi
  rw [show (l + 1 - k).toNat = (l + 1 - (k + 1)).toNat + 1 by omega]
  rfl
theorem zfi_N {α : Type} {f : Int → α → α} {k l : Int} {a : α} (h : l < k) : zfi f k l a = a := by
  unfold zfi
  rw [show (l + 1 - k).toNat = 0 by omega]
  rfl
theorem zfi_s {α : Type} {f : Int → α → α} {k l : Int} {a b : α} (h : k ≤ l) (e : f k a = b) : zfi f k l a = zfi f (k + 1) l b := by
  rw [zfi_S h, e]
def zwr (x : Int) : Int := (Int32.ofInt x).toInt
theorem zci_wr {x : Int} : zci (zwr x) = zci x := by simp only [zci, zwr, Int32.ofInt_toInt]
theorem zwr_rg {x : Int} : zrg (zwr x) := ⟨Int32.le_toInt _, Int32.toInt_lt _⟩
/-- a new row -/
def znew (A : ZM) (n : Int) : ZM := fun b j => if b = 144 + A (-2) 0 then 0 else if b = -1 ∧ j = 144 + A (-2) 0 then n else if b = -2 ∧ j = 0 then A (-2) 0 + 1 else if b = -2 ∧ j = 1 then A (-2) 1 + n else A b j
def zcpy (A : ZM) (q1 q0 l : Int) : ZM := fun b j => if b = q1 ∧ 0 ≤ j ∧ j < l then A q0 j else A b j
theorem znew_row {A : ZM} {n b : Int} (h1 : b ≠ 144 + A (-2) 0) (h2 : b ≠ -1) (h3 : b ≠ -2) : znew A n b = A b := by
  funext j
  simp only [znew, if_neg h1]
  rw [if_neg (fun q => h2 q.1), if_neg (fun q => h3 q.1), if_neg (fun q => h3 q.1)]
theorem zhp_new {A B : ZM} {n : Int} (h0 : 0 ≤ A (-2) 0) (h1 : 0 ≤ A (-2) 1) (hn : 0 ≤ n) : ((zhp A B).1 + 1, (zhp A B).2.1 + n.toNat, va_up (zhp A B).2.2 (zhp A B).1 (.inr (0, n.toNat, .inl (fun _ => 0)))) = zhp (znew A n) B := by
  have e0 : znew A n (-2) 0 = A (-2) 0 + 1 := by unfold znew; rw [if_neg (by omega), if_neg (by omega), if_pos (by omega)]
  have e1 : znew A n (-2) 1 = A (-2) 1 + n := by unfold znew; rw [if_neg (by omega), if_neg (by omega), if_neg (by omega), if_pos (by omega)]
  refine Prod.ext ?_ (Prod.ext ?_ ?_)
  · show 144 + (A (-2) 0).toNat + 1 = 144 + (znew A n (-2) 0).toNat
    rw [e0]; omega
  · show (A (-2) 1).toNat + n.toNat = (znew A n (-2) 1).toNat
    rw [e1]; omega
  · show va_up (zen A B) (144 + (A (-2) 0).toNat) _ = zen (znew A n) B
    have hq : zrow (144 + (A (-2) 0).toNat) = true := by simp only [zrow, Bool.or_eq_true, decide_eq_true_eq]; omega
    have ec : ((144 + (A (-2) 0).toNat : Nat) : Int) = 144 + A (-2) 0 := by omega
    refine va_upE ?_ (fun c hc => ?_)
    · have e2 : znew A n (-1) (144 + A (-2) 0) = n := by unfold znew; rw [if_neg (by omega), if_pos (by omega)]
      have e3 : znew A n (144 + A (-2) 0) = fun _ => 0 := by funext j; simp only [znew, if_true]
      simp only [zen, hq, if_true, ec, e2, e3]
      rfl
    · have hc' : (c : Int) ≠ 144 + A (-2) 0 := by omega
      have e2 : znew A n (-1) (c : Int) = A (-1) c := by unfold znew; rw [if_neg (by omega), if_neg (by omega), if_neg (by omega), if_neg (by omega)]
      have e3 : znew A n 11 = A 11 := znew_row (by omega) (by omega) (by omega)
      have e4 : znew A n (c : Int) = A c := znew_row hc' (by omega) (by omega)
      simp only [zen, e2, e3, e4]
theorem zhb {A B : ZM} {q : Nat} (h : (q : Int) < 144 + A (-2) 0) : q < (zhp A B).1 := by
  show q < 144 + (A (-2) 0).toNat
  omega
section ZGN
variable {d u pc len : Nat} {lo : XL} {st : List Value} {r : Option Value × XS} {A B : ZM}
theorem zg_newi {n : Int} {q : Nat} (hi : xIn u pc = some (.newarray .int, len)) (hn : 0 ≤ n ∧ n ≤ 100000) (h0 : 0 ≤ A (-2) 0) (h1 : 0 ≤ A (-2) 1) (hq : (q : Int) = 144 + A (-2) 0) (h : XG d u (pc + 2) lo (.ref q :: st) (zhp (znew A n) B) r) : XG d u pc lo (zci n :: st) (zhp A B) r := by
  have hq' : q = (zhp A B).1 := by
    show q = 144 + (A (-2) 0).toNat
    omega
  subst hq'
  rw [← zhp_new h0 h1 hn.1] at h
  refine xg_step hi rfl (fun k => ?_) h
  have hc : ¬ (Int32.ofInt n < 0 ∨ 100000 < (Int32.ofInt n).toNatClampNeg) := by
    rw [zcl hn.1 (by omega), show (0 : Int32) = Int32.ofInt 0 from rfl, zlt ⟨by omega, by omega⟩ ⟨by decide, by decide⟩]
    omega
  simp only [xst, if_neg hc]
  rw [zcl hn.1 (by omega)]
theorem zg_cpy {j z q0 q1 : Nat} {l : Int} (hi : xIn u pc = some (.invokestatic j, len)) (hC : xC (xM u).1 j = some (9, z)) (hcat : (st.map Value.category).sum ≤ 8) (hl : 0 ≤ l ∧ l < 2147483648) (h0 : q0 < (zhp A B).1) (h1 : q1 < (zhp A B).1) (hr0 : zrow q0 = true) (hr1 : zrow q1 = true) (hl0 : l ≤ A (-1) q0) (hl1 : l ≤ A (-1) q1) (h : XG d u (pc + 3) lo st (zhp (zcpy A q1 q0 l) B) r) : XG d u pc lo (zci l :: zci 0 :: .ref q1 :: zci 0 :: .ref q0 :: st) (zhp A B) r := by
  obtain ⟨N, n, h⟩ := h
  refine ⟨N, n + 1, ?_⟩
  unfold xgo
  rw [hi]
  dsimp only
  unfold xinv
  rw [hC]
  dsimp only
  rw [if_neg (by omega), if_neg (by omega), if_neg (by omega), if_neg (by omega), if_neg (by omega), if_neg (by omega), if_pos ⟨rfl, rfl⟩, if_pos ⟨hcat, h0, h1⟩, zc_rowcell hr0, zc_rowcell hr1]
  have e0 : (Int32.ofInt 0).toNatClampNeg = 0 := by decide
  rw [zcl hl.1 hl.2, e0]
  have hc : ¬ (Int32.ofInt l < 0 ∨ Int32.ofInt 0 < 0 ∨ Int32.ofInt 0 < 0 ∨ (A (-1) q0).toNat < 0 + l.toNat ∨ (A (-1) q1).toNat < 0 + l.toNat) := by
    have e1 : ¬ Int32.ofInt 0 < 0 := by decide
    have e2 : ¬ Int32.ofInt l < 0 := by
      rw [show (0 : Int32) = Int32.ofInt 0 from rfl, zlt ⟨by omega, by omega⟩ ⟨by decide, by decide⟩]
      omega
    rintro (q | q | q | q | q)
    · exact e2 q
    · exact e1 q
    · exact e1 q
    · omega
    · omega
  refine Eq.trans (if_neg hc) ?_
  have e : ((zhp A B).1, (zhp A B).2.1, va_up (zhp A B).2.2 q1 (.inr (0, (A (-1) q1).toNat, .inl (va_cpy (zar (A q0)) (zar (A q1)) 0 0 l.toNat)))) = zhp (zcpy A q1 q0 l) B := by
    have g2 : zcpy A q1 q0 l (-2) = A (-2) := by
      funext j; simp only [zcpy]; rw [if_neg (by omega)]
    refine Prod.ext ?_ (Prod.ext ?_ ?_)
    · show 144 + (A (-2) 0).toNat = 144 + (zcpy A q1 q0 l (-2) 0).toNat
      rw [g2]
    · show (A (-2) 1).toNat = (zcpy A q1 q0 l (-2) 1).toNat
      rw [g2]
    · show va_up (zen A B) q1 _ = zen (zcpy A q1 q0 l) B
      have g1 : zcpy A q1 q0 l (-1) = A (-1) := by
        funext j; simp only [zcpy]; rw [if_neg (by omega)]
      have g3 : zcpy A q1 q0 l 11 = A 11 := by
        funext j; simp only [zcpy]; rw [if_neg]
        intro q
        have : q1 = 11 := by omega
        subst this
        exact absurd hr1 (by decide)
      refine va_upE ?_ (fun c hc => ?_)
      · simp only [zen, hr1, if_true, g1]
        congr 4
        funext p
        simp only [zar, va_cpy, zcpy]
        by_cases hp : p < l.toNat
        · have c1 : (0 ≤ p ∧ p < 0 + l.toNat) := by omega
          have c2 : (True ∧ 0 ≤ (p : Int) ∧ (p : Int) < l) := ⟨trivial, by omega⟩
          rw [if_pos c1, if_pos c2]
          simp only [Nat.zero_add, Nat.sub_zero]
        · have c1 : ¬ (0 ≤ p ∧ p < 0 + l.toNat) := by omega
          have c2 : ¬ (True ∧ 0 ≤ (p : Int) ∧ (p : Int) < l) := fun q => by have := q.2; omega
          rw [if_neg c1, if_neg c2]
      · have g4 : zcpy A q1 q0 l (c : Int) = A c := by
          funext j; simp only [zcpy]; rw [if_neg (by omega)]
        simp only [zen, g1, g3, g4]
  rw [e]
  exact h
theorem zg_aast {i : Int} {q : Nat} (hi : xIn u pc = some (.aastore, len)) (hin : 0 ≤ i ∧ i < 31) (hq : q < (zhp A B).1) (hr : zrow q = true) (h : XG d u (pc + 1) lo st (zhp (zup A 11 i q) B) r) : XG d u pc lo (.ref q :: zci i :: .ref 11 :: st) (zhp A B) r := by
  have e : ((zhp A B).1, (zhp A B).2.1, va_up (zhp A B).2.2 11 (.inr (4, 31, .inr (va_up (fun w => if w < 31 then some (A 11 w).toNat else none) i.toNat (some q))))) = zhp (zup A 11 i q) B := by
    have g2 : zup A 11 i q (-2) = A (-2) := zup_row (by omega)
    refine Prod.ext ?_ (Prod.ext ?_ ?_)
    · show 144 + (A (-2) 0).toNat = 144 + (zup A 11 i q (-2) 0).toNat
      rw [g2]
    · show (A (-2) 1).toNat = (zup A 11 i q (-2) 1).toNat
      rw [g2]
    · show va_up (zen A B) 11 _ = zen (zup A 11 i q) B
      refine va_upE ?_ (fun c hc => ?_)
      · show (_ : XE) = .inr (4, 31, .inr (va_up (fun w => if w < 31 then some (A 11 w).toNat else none) i.toNat (some q)))
        have : zen (zup A 11 i q) B 11 = .inr (4, 31, .inr (fun w => if w < 31 then some (zup A 11 i q 11 w).toNat else none)) := rfl
        rw [this]
        congr 4
        funext w
        simp only [va_up, zup, true_and]
        by_cases hw : w = i.toNat
        · rw [if_pos hw, if_pos (by omega), if_pos (by omega), Int.toNat_natCast]
        · by_cases hw2 : w < 31
          · rw [if_pos hw2, if_neg hw, if_pos hw2, if_neg (by omega)]
          · rw [if_neg hw2, if_neg hw, if_neg hw2]
      · have g1 : zup A 11 i q (-1) = A (-1) := zup_row (by omega)
        have g4 : zup A 11 i q (c : Int) = A c := zup_row (by omega)
        simp only [zen, g1, g4, if_neg hc]
  rw [← e] at h
  refine xg_step hi rfl (fun k => ?_) h
  have ha : (11 < (zhp A B).1 ∧ q < (zhp A B).1) := ⟨zha (by decide), hq⟩
  have hx : xels 4 ((zhp A B).2.2 q) = true := by rw [zc_rowcell hr]; rfl
  have hc : ¬ (xels 4 ((zhp A B).2.2 q) = false ∨ Int32.ofInt i < 0 ∨ 31 ≤ (Int32.ofInt i).toNatClampNeg) := by
    rintro (q1 | q1)
    · rw [hx] at q1; cases q1
    · exact zcln (n := 31) hin.1 hin.2 (by decide) q1
  simp only [xst, if_pos ha, zc_rows, if_neg hc]
  rw [zcl hin.1 (by omega)]
end ZGN
theorem zg_swi {d u pc len pc' : Nat} {lo : XL} {st : List Value} {σ : XS} {r : Option Value × XS} {i : Instr} {x : Int} (c : Int) (hi : xIn u pc = some (i, len)) (hp : xpl i = true) (he : ∀ k : Nat → XL → List Value → XS → XO, xst (xM u).1 (xini u) pc i lo (zci c :: st) σ k = k pc' lo st σ) (h1 : x = c → XG d u pc' lo st σ r) (h2 : ¬ x = c → XG d u pc lo (zci x :: st) σ r) : XG d u pc lo (zci x :: st) σ r := by
  by_cases hc : x = c
  · have := h1 hc
    subst hc
    exact xg_step hi hp he this
  · exact h2 hc
theorem zg_swd {d u pc len pc' : Nat} {lo : XL} {st : List Value} {σ : XS} {r : Option Value × XS} {x l h df : Int} {offs : Array Int} (hi : xIn u pc = some (.tableswitch df l h offs, len)) (hx : zrg x) (hd : x < l ∨ h < x) (hj : ∀ k : Nat → XL → List Value → XS → XO, xjmp pc df (fun t => k t lo st σ) = k pc' lo st σ) (hh : XG d u pc' lo st σ r) : XG d u pc lo (zci x :: st) σ r := by
  refine xg_step hi rfl (fun k => ?_) hh
  simp only [xst, zrt hx]
  rw [if_pos hd, hj]
