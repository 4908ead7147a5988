/-! the reference's memory: B what it shares with the class, C its own -/
def zmg (B C : ZM) : ZM := fun b j => if 107 ≤ b ∧ b < 144 then C b j else B b j
theorem zmg_B {B C : ZM} {b j : Int} (h : ¬ (107 ≤ b ∧ b < 144)) : zmg B C b j = B b j := if_neg h
theorem zmg_C {B C : ZM} {b j : Int} (h : 107 ≤ b ∧ b < 144) : zmg B C b j = C b j := if_pos h
theorem zmg_uB {B C : ZM} {a i x : Int} (h : ¬ (107 ≤ a ∧ a < 144)) : zup (zmg B C) a i x = zmg (zup B a i x) C := by
  funext b j
  simp only [zup, zmg]
  by_cases h1 : b = a ∧ j = i
  · rw [if_pos h1, if_pos h1, if_neg (by omega)]
  · rw [if_neg h1, if_neg h1]
theorem zmg_uC {B C : ZM} {a i x : Int} (h : 107 ≤ a ∧ a < 144) : zup (zmg B C) a i x = zmg B (zup C a i x) := by
  funext b j
  simp only [zup, zmg]
  by_cases h1 : b = a ∧ j = i
  · rw [if_pos h1, if_pos h1, if_pos (by omega)]
  · rw [if_neg h1, if_neg h1]
theorem zvB {B C : ZM} {b : Nat} {i a j : Int} (hk : zrk b i = (a, j)) (h : ¬ (107 ≤ a ∧ a < 144)) : zrv (zmg B C) b i = B a j := (zvk hk).trans (zmg_B h)
theorem zvC {B C : ZM} {b : Nat} {i a j : Int} (hk : zrk b i = (a, j)) (h : 107 ≤ a ∧ a < 144) : zrv (zmg B C) b i = C a j := (zvk hk).trans (zmg_C h)
theorem zwB {A B C : ZM} {b : Nat} {i x a j : Int} {X : XE} (hk : zrk b i = (a, j)) (h : va_up (zen A (zmg B C)) b X = zen A (zup (zmg B C) (zrk b i).1 (zrk b i).2 x)) (ha : ¬ (107 ≤ a ∧ a < 144)) : va_up (zen A (zmg B C)) b X = zen A (zmg (zup B a j x) C) := by
  rw [h, hk, zmg_uB ha]
theorem zwC {A B C : ZM} {b : Nat} {i x a j : Int} {X : XE} (hk : zrk b i = (a, j)) (h : va_up (zen A (zmg B C)) b X = zen A (zup (zmg B C) (zrk b i).1 (zrk b i).2 x)) (ha : 107 ≤ a ∧ a < 144) : va_up (zen A (zmg B C)) b X = zen A (zmg B (zup C a j x)) := by
  rw [h, hk, zmg_uC ha]
theorem zc_RefM {A B C : ZM} : (zhp A (zmg B C)).2.2 107 = .inl (10, [zci (C 107 0), .ref 108, .ref 109, .ref 110, .ref 111, .ref 112, .ref 113, .ref 114, zci (B 1 6), .ref 115, .ref 116, .ref 117, .ref 118, .ref 119, .ref 120, zci (C 107 15), .ref 121, zci (C 107 17), .ref 122, .ref 123, .ref 124, .ref 125, .ref 126, .ref 127, .ref 128, .ref 129, .ref 130, .ref 131, .ref 132, .ref 133, .ref 134, .ref 135, .ref 136, .ref 137, .ref 138, .ref 139, .ref 140, .ref 141, .ref 142, .ref 143, zci (C 107 40)]) := zc_Ref
theorem zw_RefM_0 {A B C : ZM} {x : Int} : va_up (zen A (zmg B C)) 107 (.inl (10, [zci x, .ref 108, .ref 109, .ref 110, .ref 111, .ref 112, .ref 113, .ref 114, zci (B 1 6), .ref 115, .ref 116, .ref 117, .ref 118, .ref 119, .ref 120, zci (C 107 15), .ref 121, zci (C 107 17), .ref 122, .ref 123, .ref 124, .ref 125, .ref 126, .ref 127, .ref 128, .ref 129, .ref 130, .ref 131, .ref 132, .ref 133, .ref 134, .ref 135, .ref 136, .ref 137, .ref 138, .ref 139, .ref 140, .ref 141, .ref 142, .ref 143, zci (C 107 40)])) = zen A (zmg B (zup C 107 0 x)) := (zw_Ref_0 (A := A) (B := zmg B C) (x := x)).trans (by rw [zmg_uC (by omega)])
theorem zw_RefM_8 {A B C : ZM} {x : Int} : va_up (zen A (zmg B C)) 107 (.inl (10, [zci (C 107 0), .ref 108, .ref 109, .ref 110, .ref 111, .ref 112, .ref 113, .ref 114, zci x, .ref 115, .ref 116, .ref 117, .ref 118, .ref 119, .ref 120, zci (C 107 15), .ref 121, zci (C 107 17), .ref 122, .ref 123, .ref 124, .ref 125, .ref 126, .ref 127, .ref 128, .ref 129, .ref 130, .ref 131, .ref 132, .ref 133, .ref 134, .ref 135, .ref 136, .ref 137, .ref 138, .ref 139, .ref 140, .ref 141, .ref 142, .ref 143, zci (C 107 40)])) = zen A (zmg (zup B 1 6 x) C) := (zw_Ref_8 (A := A) (B := zmg B C) (x := x)).trans (by rw [zmg_uB (by omega)])
theorem zw_RefM_15 {A B C : ZM} {x : Int} : va_up (zen A (zmg B C)) 107 (.inl (10, [zci (C 107 0), .ref 108, .ref 109, .ref 110, .ref 111, .ref 112, .ref 113, .ref 114, zci (B 1 6), .ref 115, .ref 116, .ref 117, .ref 118, .ref 119, .ref 120, zci x, .ref 121, zci (C 107 17), .ref 122, .ref 123, .ref 124, .ref 125, .ref 126, .ref 127, .ref 128, .ref 129, .ref 130, .ref 131, .ref 132, .ref 133, .ref 134, .ref 135, .ref 136, .ref 137, .ref 138, .ref 139, .ref 140, .ref 141, .ref 142, .ref 143, zci (C 107 40)])) = zen A (zmg B (zup C 107 15 x)) := (zw_Ref_15 (A := A) (B := zmg B C) (x := x)).trans (by rw [zmg_uC (by omega)])
theorem zw_RefM_17 {A B C : ZM} {x : Int} : va_up (zen A (zmg B C)) 107 (.inl (10, [zci (C 107 0), .ref 108, .ref 109, .ref 110, .ref 111, .ref 112, .ref 113, .ref 114, zci (B 1 6), .ref 115, .ref 116, .ref 117, .ref 118, .ref 119, .ref 120, zci (C 107 15), .ref 121, zci x, .ref 122, .ref 123, .ref 124, .ref 125, .ref 126, .ref 127, .ref 128, .ref 129, .ref 130, .ref 131, .ref 132, .ref 133, .ref 134, .ref 135, .ref 136, .ref 137, .ref 138, .ref 139, .ref 140, .ref 141, .ref 142, .ref 143, zci (C 107 40)])) = zen A (zmg B (zup C 107 17 x)) := (zw_Ref_17 (A := A) (B := zmg B C) (x := x)).trans (by rw [zmg_uC (by omega)])
theorem zw_RefM_40 {A B C : ZM} {x : Int} : va_up (zen A (zmg B C)) 107 (.inl (10, [zci (C 107 0), .ref 108, .ref 109, .ref 110, .ref 111, .ref 112, .ref 113, .ref 114, zci (B 1 6), .ref 115, .ref 116, .ref 117, .ref 118, .ref 119, .ref 120, zci (C 107 15), .ref 121, zci (C 107 17), .ref 122, .ref 123, .ref 124, .ref 125, .ref 126, .ref 127, .ref 128, .ref 129, .ref 130, .ref 131, .ref 132, .ref 133, .ref 134, .ref 135, .ref 136, .ref 137, .ref 138, .ref 139, .ref 140, .ref 141, .ref 142, .ref 143, zci x])) = zen A (zmg B (zup C 107 40 x)) := (zw_Ref_40 (A := A) (B := zmg B C) (x := x)).trans (by rw [zmg_uC (by omega)])
/-- what the reference sees -/
def zfm2 (x y : Int) : Prop := (107 ≤ x ∧ x < 144) ∨ (x = 1 ∧ y = 6) ∨ (2 ≤ x ∧ x ≤ 6) ∨ ((x = 44 ∨ x = 46 ∨ x = 48) ∧ y = 1) ∨ ((x = 45 ∨ x = 47 ∨ x = 49) ∧ y % 5 ≤ 3) ∨ (51 ≤ x ∧ x ≤ 54) ∨ (56 ≤ x ∧ x < 107 ∧ (((x - 56) % 17 = 0 ∧ 7 ≤ y ∧ y ≤ 9) ∨ ((x - 56) % 17 = 4 ∧ 2 ≤ y ∧ y ≤ 3) ∨ ((x - 56) % 17 = 11 ∧ y = 6) ∨ (x - 56) % 17 = 2 ∨ (x - 56) % 17 = 3 ∨ (x - 56) % 17 = 5 ∨ (x - 56) % 17 = 6 ∨ (x - 56) % 17 = 10 ∨ 12 ≤ (x - 56) % 17))
theorem zrk_form {b : Nat} {p : Int} (h1 : 107 ≤ b) (h2 : b < 144) : zfm2 (zrk b p).1 (zrk b p).2 := by
  have hb : b = 107 ∨ b = 108 ∨ b = 109 ∨ b = 110 ∨ b = 111 ∨ b = 112 ∨ b = 113 ∨ b = 114 ∨ b = 115 ∨ b = 116 ∨ b = 117 ∨ b = 118 ∨ b = 119 ∨ b = 120 ∨ b = 121 ∨ b = 122 ∨ b = 123 ∨ b = 124 ∨ b = 125 ∨ b = 126 ∨ b = 127 ∨ b = 128 ∨ b = 129 ∨ b = 130 ∨ b = 131 ∨ b = 132 ∨ b = 133 ∨ b = 134 ∨ b = 135 ∨ b = 136 ∨ b = 137 ∨ b = 138 ∨ b = 139 ∨ b = 140 ∨ b = 141 ∨ b = 142 ∨ b = 143 := by omega
  rcases hb with rfl | rfl | rfl | rfl | rfl | rfl | rfl | rfl | rfl | rfl | rfl | rfl | rfl | rfl | rfl | rfl | rfl | rfl | rfl | rfl | rfl | rfl | rfl | rfl | rfl | rfl | rfl | rfl | rfl | rfl | rfl | rfl | rfl | rfl | rfl | rfl | rfl
  · by_cases h : p = 8
    · subst h; exact .inr (.inl ⟨rfl, rfl⟩)
    · rw [show zrk 107 p = (107, p) from if_neg h]; exact .inl ⟨by show (107 : Int) ≤ 107; decide, by show (107 : Int) < 144; decide⟩
  · by_cases h : 0 ≤ p ∧ p < 60
    · rw [zk_rClient h]; unfold zfm2; dsimp only; omega
    · rw [show zrk 108 p = (108, p) from if_neg h]; exact .inl ⟨by show (107 : Int) ≤ 108; decide, by show (108 : Int) < 144; decide⟩
  · by_cases h : 0 ≤ p ∧ p < 60
    · rw [zk_rOwn h]; unfold zfm2; dsimp only; omega
    · rw [show zrk 109 p = (109, p) from if_neg h]; exact .inl ⟨by show (107 : Int) ≤ 109; decide, by show (109 : Int) < 144; decide⟩
  · by_cases h : 0 ≤ p ∧ p < 60
    · rw [zk_rKind h]; unfold zfm2; dsimp only; omega
    · rw [show zrk 110 p = (110, p) from if_neg h]; exact .inl ⟨by show (107 : Int) ≤ 110; decide, by show (110 : Int) < 144; decide⟩
  · by_cases h : 0 ≤ p ∧ p < 60
    · rw [zk_rKey h]; unfold zfm2; dsimp only; omega
    · rw [show zrk 111 p = (111, p) from if_neg h]; exact .inl ⟨by show (107 : Int) ≤ 111; decide, by show (111 : Int) < 144; decide⟩
  · by_cases h : 0 ≤ p ∧ p < 60
    · rw [zk_rNumber h]; unfold zfm2; dsimp only; omega
    · rw [show zrk 112 p = (112, p) from if_neg h]; exact .inl ⟨by show (107 : Int) ≤ 112; decide, by show (112 : Int) < 144; decide⟩
  · by_cases h : 0 ≤ p ∧ p < 60
    · rw [zk_answered h]; unfold zfm2; dsimp only; omega
    · rw [show zrk 113 p = (113, p) from if_neg h]; exact .inl ⟨by show (107 : Int) ≤ 113; decide, by show (113 : Int) < 144; decide⟩
  · by_cases h : 0 ≤ p ∧ p < 60
    · rw [zk_answer h]; unfold zfm2; dsimp only; omega
    · rw [show zrk 114 p = (114, p) from if_neg h]; exact .inl ⟨by show (107 : Int) ≤ 114; decide, by show (114 : Int) < 144; decide⟩
  · by_cases h : 0 ≤ p ∧ p < 303
    · rw [show zrk 115 p = zrk 115 (101 * (p / 101) + p % 101) by rw [show 101 * (p / 101) + p % 101 = p by omega], zk_kinds (by omega) (by omega)]; unfold zfm2; dsimp only; omega
    · rw [show zrk 115 p = (115, p) from if_neg h]; exact .inl ⟨by show (107 : Int) ≤ 115; decide, by show (115 : Int) < 144; decide⟩
  · by_cases h : 0 ≤ p ∧ p < 303
    · rw [show zrk 116 p = zrk 116 (101 * (p / 101) + p % 101) by rw [show 101 * (p / 101) + p % 101 = p by omega], zk_views (by omega) (by omega)]; unfold zfm2; dsimp only; omega
    · rw [show zrk 116 p = (116, p) from if_neg h]; exact .inl ⟨by show (107 : Int) ≤ 116; decide, by show (116 : Int) < 144; decide⟩
  · by_cases h : 0 ≤ p ∧ p < 303
    · rw [show zrk 117 p = zrk 117 (101 * (p / 101) + p % 101) by rw [show 101 * (p / 101) + p % 101 = p by omega], zk_as (by omega) (by omega)]; unfold zfm2; dsimp only; omega
    · rw [show zrk 117 p = (117, p) from if_neg h]; exact .inl ⟨by show (107 : Int) ≤ 117; decide, by show (117 : Int) < 144; decide⟩
  · by_cases h : 0 ≤ p ∧ p < 303
    · rw [show zrk 118 p = zrk 118 (101 * (p / 101) + p % 101) by rw [show 101 * (p / 101) + p % 101 = p by omega], zk_bs (by omega) (by omega)]; unfold zfm2; dsimp only; omega
    · rw [show zrk 118 p = (118, p) from if_neg h]; exact .inl ⟨by show (107 : Int) ≤ 118; decide, by show (118 : Int) < 144; decide⟩
  · exact .inl ⟨by show (107 : Int) ≤ 119; decide, by show (119 : Int) < 144; decide⟩
  · by_cases h : 0 ≤ p ∧ p < 3
    · rw [zk_many h]; unfold zfm2; dsimp only; omega
    · rw [show zrk 120 p = (120, p) from if_neg h]; exact .inl ⟨by show (107 : Int) ≤ 120; decide, by show (120 : Int) < 144; decide⟩
  · exact .inl ⟨by show (107 : Int) ≤ 121; decide, by show (121 : Int) < 144; decide⟩
  · exact .inl ⟨by show (107 : Int) ≤ 122; decide, by show (122 : Int) < 144; decide⟩
  · by_cases h : 0 ≤ p ∧ p < 3
    · rw [zk_view h]; unfold zfm2; dsimp only; omega
    · rw [show zrk 123 p = (123, p) from if_neg h]; exact .inl ⟨by show (107 : Int) ≤ 123; decide, by show (123 : Int) < 144; decide⟩
  · by_cases h : 0 ≤ p ∧ p < 3
    · rw [zk_active h]; unfold zfm2; dsimp only; omega
    · rw [show zrk 124 p = (124, p) from if_neg h]; exact .inl ⟨by show (107 : Int) ≤ 124; decide, by show (124 : Int) < 144; decide⟩
  · by_cases h : 0 ≤ p ∧ p < 3
    · rw [zk_lied h]; unfold zfm2; dsimp only; omega
    · rw [show zrk 125 p = (125, p) from if_neg h]; exact .inl ⟨by show (107 : Int) ≤ 125; decide, by show (125 : Int) < 144; decide⟩
  · by_cases h : 0 ≤ p ∧ p < 12
    · rw [show zrk 126 p = zrk 126 (4 * (p / 4) + p % 4) by rw [show 4 * (p / 4) + p % 4 = p by omega], zk_map (by omega) (by omega)]; unfold zfm2; dsimp only; omega
    · rw [show zrk 126 p = (126, p) from if_neg h]; exact .inl ⟨by show (107 : Int) ≤ 126; decide, by show (126 : Int) < 144; decide⟩
  · by_cases h : 0 ≤ p ∧ p < 1200
    · rw [show zrk 127 p = zrk 127 (400 * (p / 400) + p % 400) by rw [show 400 * (p / 400) + p % 400 = p by omega], zk_history (by omega) (by omega)]; unfold zfm2; dsimp only; omega
    · rw [show zrk 127 p = (127, p) from if_neg h]; exact .inl ⟨by show (107 : Int) ≤ 127; decide, by show (127 : Int) < 144; decide⟩
  · by_cases h : 0 ≤ p ∧ p < 3
    · rw [zk_done h]; unfold zfm2; dsimp only; omega
    · rw [show zrk 128 p = (128, p) from if_neg h]; exact .inl ⟨by show (107 : Int) ≤ 128; decide, by show (128 : Int) < 144; decide⟩
  · by_cases h : 0 ≤ p ∧ p < 12
    · rw [show zrk 129 p = zrk 129 (4 * (p / 4) + p % 4) by rw [show 4 * (p / 4) + p % 4 = p by omega], zk_last (by omega) (by omega)]; unfold zfm2; dsimp only; omega
    · rw [show zrk 129 p = (129, p) from if_neg h]; exact .inl ⟨by show (107 : Int) ≤ 129; decide, by show (129 : Int) < 144; decide⟩
  · by_cases h : 0 ≤ p ∧ p < 180
    · rw [show zrk 130 p = zrk 130 (60 * (p / 60) + p % 60) by rw [show 60 * (p / 60) + p % 60 = p by omega], zk_hasReply (by omega) (by omega)]; unfold zfm2; dsimp only; omega
    · rw [show zrk 130 p = (130, p) from if_neg h]; exact .inl ⟨by show (107 : Int) ≤ 130; decide, by show (130 : Int) < 144; decide⟩
  · by_cases h : 0 ≤ p ∧ p < 180
    · rw [show zrk 131 p = zrk 131 (60 * (p / 60) + p % 60) by rw [show 60 * (p / 60) + p % 60 = p by omega], zk_replies (by omega) (by omega)]; unfold zfm2; dsimp only; omega
    · rw [show zrk 131 p = (131, p) from if_neg h]; exact .inl ⟨by show (107 : Int) ≤ 131; decide, by show (131 : Int) < 144; decide⟩
  · by_cases h : 0 ≤ p ∧ p < 180
    · rw [show zrk 132 p = zrk 132 (60 * (p / 60) + p % 60) by rw [show 60 * (p / 60) + p % 60 = p by omega], zk_got (by omega) (by omega)]; unfold zfm2; dsimp only; omega
    · rw [show zrk 132 p = (132, p) from if_neg h]; exact .inl ⟨by show (107 : Int) ≤ 132; decide, by show (132 : Int) < 144; decide⟩
  · by_cases h : 0 ≤ p ∧ p < 180
    · rw [show zrk 133 p = zrk 133 (60 * (p / 60) + p % 60) by rw [show 60 * (p / 60) + p % 60 = p by omega], zk_gave (by omega) (by omega)]; unfold zfm2; dsimp only; omega
    · rw [show zrk 133 p = (133, p) from if_neg h]; exact .inl ⟨by show (107 : Int) ≤ 133; decide, by show (133 : Int) < 144; decide⟩
  · by_cases h : 0 ≤ p ∧ p < 909
    · rw [show zrk 134 p = zrk 134 (303 * (p / 303) + p % 303) by rw [show 303 * (p / 303) + p % 303 = p by omega], zk_brought (by omega) (by omega)]; unfold zfm2; dsimp only; omega
    · rw [show zrk 134 p = (134, p) from if_neg h]; exact .inl ⟨by show (107 : Int) ≤ 134; decide, by show (134 : Int) < 144; decide⟩
  · by_cases h : 0 ≤ p ∧ p < 9
    · rw [show zrk 135 p = zrk 135 (3 * (p / 3) + p % 3) by rw [show 3 * (p / 3) + p % 3 = p by omega], zk_next (by omega) (by omega)]; unfold zfm2; dsimp only; omega
    · rw [show zrk 135 p = (135, p) from if_neg h]; exact .inl ⟨by show (107 : Int) ≤ 135; decide, by show (135 : Int) < 144; decide⟩
  · by_cases h : 0 ≤ p ∧ p < 9
    · rw [show zrk 136 p = zrk 136 (3 * (p / 3) + p % 3) by rw [show 3 * (p / 3) + p % 3 = p by omega], zk_asked (by omega) (by omega)]; unfold zfm2; dsimp only; omega
    · rw [show zrk 136 p = (136, p) from if_neg h]; exact .inl ⟨by show (107 : Int) ≤ 136; decide, by show (136 : Int) < 144; decide⟩
  · by_cases h : 0 ≤ p ∧ p < 300
    · rw [show zrk 137 p = zrk 137 (100 * (p / 100) + p % 100) by rw [show 100 * (p / 100) + p % 100 = p by omega], zk_prepares (by omega) (by omega)]; unfold zfm2; dsimp only; omega
    · rw [show zrk 137 p = (137, p) from if_neg h]; exact .inl ⟨by show (107 : Int) ≤ 137; decide, by show (137 : Int) < 144; decide⟩
  · by_cases h : 0 ≤ p ∧ p < 3
    · rw [zk_prepared h]; unfold zfm2; dsimp only; omega
    · rw [show zrk 138 p = (138, p) from if_neg h]; exact .inl ⟨by show (107 : Int) ≤ 138; decide, by show (138 : Int) < 144; decide⟩
  · by_cases h : 0 ≤ p ∧ p < 3
    · rw [zk_prepareDone h]; unfold zfm2; dsimp only; omega
    · rw [show zrk 139 p = (139, p) from if_neg h]; exact .inl ⟨by show (107 : Int) ≤ 139; decide, by show (139 : Int) < 144; decide⟩
  · exact .inl ⟨by show (107 : Int) ≤ 140; decide, by show (140 : Int) < 144; decide⟩
  · by_cases h : 0 ≤ p ∧ p < 303
    · rw [show zrk 141 p = zrk 141 (101 * (p / 101) + p % 101) by rw [show 101 * (p / 101) + p % 101 = p by omega], zk_votes (by omega) (by omega)]; unfold zfm2; dsimp only; omega
    · rw [show zrk 141 p = (141, p) from if_neg h]; exact .inl ⟨by show (107 : Int) ≤ 141; decide, by show (141 : Int) < 144; decide⟩
  · exact .inl ⟨by show (107 : Int) ≤ 142; decide, by show (142 : Int) < 144; decide⟩
  · exact .inl ⟨by show (107 : Int) ≤ 143; decide, by show (143 : Int) < 144; decide⟩
theorem zgh2 {A B C : ZM} {a i x : Int} (hv : ¬ zfm2 a i) : zhp A (zmg (zup B a i x) C) = zhp A (zmg B C) := by
  have h : ¬ (107 ≤ a ∧ a < 144) := fun q => hv (.inl q)
  have hz : zen A (zmg (zup B a i x) C) = zen A (zmg B C) := by
    funext b
    by_cases h1 : b < 107
    · simp only [zen, h1, if_true]
    · by_cases h2 : b < 144
      · have e : zrv (zmg (zup B a i x) C) b = zrv (zmg B C) b := by
          funext p
          simp only [zrv]
          rw [← zmg_uB h, zup_ne]
          intro q
          have e1 := zrk_form (b := b) (p := p) (by omega) h2
          rw [q.1, q.2] at e1
          exact hv e1
        simp only [zen, e]
      · have : zrow b = true := by simp only [zrow, Bool.or_eq_true, decide_eq_true_eq]; omega
        simp only [zen, this, if_true]
  show (_, _, zen A (zmg (zup B a i x) C)) = (_, _, zen A (zmg B C))
  rw [hz]
theorem zg_wr {d u pc : Nat} {lo : XL} {st : List Value} {σ : XS} {r : Option Value × XS} {x : Int} (h : XG d u pc lo (zci (zwr x) :: st) σ r) : XG d u pc lo (zci x :: st) σ r := by
  rw [zci_wr] at h
  exact h
