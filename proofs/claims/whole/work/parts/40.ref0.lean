/-! the reference's memory: B what it shares with the class, C its own -/
def zmg (B C : ZM) : ZM := fun b j => if 107 ≤ b ∧ b < 144 then C b j else B b j
theorem zmg_B {B C : ZM} {b j : Int} (h : ¬ (107 ≤ b ∧ b < 144)) : zmg B C b j = B b j := if_neg h
theorem zmg_C {B C : ZM} {b j : Int} (h : 107 ≤ b ∧ b < 144) : zmg B C b j = C b j := if_pos h
theorem zmg_uB {B C : ZM} {a i x : Int} (h : ¬ (107 ≤ a ∧ a < 144)) : zup (zmg B C) a i x = zmg (zup B a i x) C := by
  funext b j
  simp only [zup, zmg]
  by_cases h1 : b = a ∧ j = i
  · rw [if_pos h1, if_pos h1, if_neg (by omega)]
  · rw [if_neg h1, if_neg h1]
theorem zmg_uC {B C : ZM} {a i x : Int} (h : 107 ≤ a ∧ a < 144) : zup (zmg B C) a i x = zmg B (zup C a i x) := by
  funext b j
  simp only [zup, zmg]
  by_cases h1 : b = a ∧ j = i
  · rw [if_pos h1, if_pos h1, if_pos (by omega)]
  · rw [if_neg h1, if_neg h1]
theorem zvB {B C : ZM} {b : Nat} {i a j : Int} (hk : zrk b i = (a, j)) (h : ¬ (107 ≤ a ∧ a < 144)) : zrv (zmg B C) b i = B a j := (zvk hk).trans (zmg_B h)
theorem zvC {B C : ZM} {b : Nat} {i a j : Int} (hk : zrk b i = (a, j)) (h : 107 ≤ a ∧ a < 144) : zrv (zmg B C) b i = C a j := (zvk hk).trans (zmg_C h)
theorem zwB {A B C : ZM} {b : Nat} {i x a j : Int} {X : XE} (hk : zrk b i = (a, j)) (h : va_up (zen A (zmg B C)) b X = zen A (zup (zmg B C) (zrk b i).1 (zrk b i).2 x)) (ha : ¬ (107 ≤ a ∧ a < 144)) : va_up (zen A (zmg B C)) b X = zen A (zmg (zup B a j x) C) := by
  rw [h, hk, zmg_uB ha]
theorem zwC {A B C : ZM} {b : Nat} {i x a j : Int} {X : XE} (hk : zrk b i = (a, j)) (h : va_up (zen A (zmg B C)) b X = zen A (zup (zmg B C) (zrk b i).1 (zrk b i).2 x)) (ha : 107 ≤ a ∧ a < 144) : va_up (zen A (zmg B C)) b X = zen A (zmg B (zup C a j x)) := by
  rw [h, hk, zmg_uC ha]
theorem zc_RefM {A B C : ZM} : (zhp A (zmg B C)).2.2 107 = .inl (10, [zci (C 107 0), .ref 108, .ref 109, .ref 110, .ref 111, .ref 112, .ref 113, .ref 114, zci (B 1 6), .ref 115, .ref 116, .ref 117, .ref 118, .ref 119, .ref 120, zci (C 107 15), .ref 121, zci (C 107 17), .ref 122, .ref 123, .ref 124, .ref 125, .ref 126, .ref 127, .ref 128, .ref 129, .ref 130, .ref 131, .ref 132, .ref 133, .ref 134, .ref 135, .ref 136, .ref 137, .ref 138, .ref 139, .ref 140, .ref 141, .ref 142, .ref 143, zci (C 107 40)]) := zc_Ref
theorem zw_RefM_0 {A B C : ZM} {x : Int} : va_up (zen A (zmg B C)) 107 (.inl (10, [zci x, .ref 108, .ref 109, .ref 110, .ref 111, .ref 112, .ref 113, .ref 114, zci (B 1 6), .ref 115, .ref 116, .ref 117, .ref 118, .ref 119, .ref 120, zci (C 107 15), .ref 121, zci (C 107 17), .ref 122, .ref 123, .ref 124, .ref 125, .ref 126, .ref 127, .ref 128, .ref 129, .ref 130, .ref 131, .ref 132, .ref 133, .ref 134, .ref 135, .ref 136, .ref 137, .ref 138, .ref 139, .ref 140, .ref 141, .ref 142, .ref 143, zci (C 107 40)])) = zen A (zmg B (zup C 107 0 x)) := (zw_Ref_0 (A := A) (B := zmg B C) (x := x)).trans (by rw [zmg_uC (by omega)])
theorem zw_RefM_8 {A B C : ZM} {x : Int} : va_up (zen A (zmg B C)) 107 (.inl (10, [zci (C 107 0), .ref 108, .ref 109, .ref 110, .ref 111, .ref 112, .ref 113, .ref 114, zci x, .ref 115, .ref 116, .ref 117, .ref 118, .ref 119, .ref 120, zci (C 107 15), .ref 121, zci (C 107 17), .ref 122, .ref 123, .ref 124, .ref 125, .ref 126, .ref 127, .ref 128, .ref 129, .ref 130, .ref 131, .ref 132, .ref 133, .ref 134, .ref 135, .ref 136, .ref 137, .ref 138, .ref 139, .ref 140, .ref 141, .ref 142, .ref 143, zci (C 107 40)])) = zen A (zmg (zup B 1 6 x) C) := (zw_Ref_8 (A := A) (B := zmg B C) (x := x)).trans (by rw [zmg_uB (by omega)])
theorem zw_RefM_15 {A B C : ZM} {x : Int} : va_up (zen A (zmg B C)) 107 (.inl (10, [zci (C 107 0), .ref 108, .ref 109, .ref 110, .ref 111, .ref 112, .ref 113, .ref 114, zci (B 1 6), .ref 115, .ref 116, .ref 117, .ref 118, .ref 119, .ref 120, zci x, .ref 121, zci (C 107 17), .ref 122, .ref 123, .ref 124, .ref 125, .ref 126, .ref 127, .ref 128, .ref 129, .ref 130, .ref 131, .ref 132, .ref 133, .ref 134, .ref 135, .ref 136, .ref 137, .ref 138, .ref 139, .ref 140, .ref 141, .ref 142, .ref 143, zci (C 107 40)])) = zen A (zmg B (zup C 107 15 x)) := (zw_Ref_15 (A := A) (B := zmg B C) (x := x)).trans (by rw [zmg_uC (by omega)])
theorem zw_RefM_17 {A B C : ZM} {x : Int} : va_up (zen A (zmg B C)) 107 (.inl (10, [zci (C 107 0), .ref 108, .ref 109, .ref 110, .ref 111, .ref 112, .ref 113, .ref 114, zci (B 1 6), .ref 115, .ref 116, .ref 117, .ref 118, .ref 119, .ref 120, zci (C 107 15), .ref 121, zci x, .ref 122, .ref 123, .ref 124, .ref 125, .ref 126, .ref 127, .ref 128, .ref 129, .ref 130, .ref 131, .ref 132, .ref 133, .ref 134, .ref 135, .ref 136, .ref 137, .ref 138, .ref 139, .ref 140, .ref 141, .ref 142, .ref 143, zci (C 107 40)])) = zen A (zmg B (zup C 107 17 x)) := (zw_Ref_17 (A := A) (B := zmg B C) (x := x)).trans (by rw [zmg_uC (by omega)])
theorem zw_RefM_40 {A B C : ZM} {x : Int} : va_up (zen A (zmg B C)) 107 (.inl (10, [zci (C 107 0), .ref 108, .ref 109, .ref 110, .ref 111, .ref 112, .ref 113, .ref 114, zci (B 1 6), .ref 115, .ref 116, .ref 117, .ref 118, .ref 119, .ref 120, zci (C 107 15), .ref 121, zci (C 107 17), .ref 122, .ref 123, .ref 124, .ref 125, .ref 126, .ref 127, .ref 128, .ref 129, .ref 130, .ref 131, .ref 132, .ref 133, .ref 134, .ref 135, .ref 136, .ref 137, .ref 138, .ref 139, .ref 140, .ref 141, .ref 142, .ref 143, zci x])) = zen A (zmg B (zup C 107 40 x)) := (zw_Ref_40 (A := A) (B := zmg B C) (x := x)).trans (by rw [zmg_uC (by omega)])
/-- what the reference doesn't see may change -/
theorem zgh {A B C : ZM} {a i x : Int} (h : ¬ (107 ≤ a ∧ a < 144)) (hv : zrk (zri a i).1.toNat (zri a i).2 ≠ (a, i)) : zhp A (zmg (zup B a i x) C) = zhp A (zmg B C) := by
  have hz : zen A (zmg (zup B a i x) C) = zen A (zmg B C) := by
    funext b
    by_cases h1 : b < 107
    · simp only [zen, h1, if_true]
    · by_cases h2 : b < 144
      · have e : zrv (zmg (zup B a i x) C) b = zrv (zmg B C) b := by
          funext p
          simp only [zrv]
          rw [← zmg_uB h, zup_ne]
          intro q
          have e1 := zri_ok (b := b) (by omega) h2 p
          rw [q.1, q.2] at e1
          refine hv ?_
          rw [e1]
          exact Prod.ext q.1 q.2
        simp only [zen, e]
      · have : zrow b = true := by simp only [zrow, Bool.or_eq_true, decide_eq_true_eq]; omega
        simp only [zen, this, if_true]
  show (_, _, zen A (zmg (zup B a i x) C)) = (_, _, zen A (zmg B C))
  rw [hz]
