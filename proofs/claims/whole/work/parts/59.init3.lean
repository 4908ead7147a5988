/-! the start, cell by cell -/
set_option maxRecDepth 100000 in
theorem zi_c_9 : zh3 9 = zen zA0 (zmg zA0 zC0) 9 := by
  show (.inr (2, 3, .inr (va_up (va_up (va_up (fun _ => none) 0 (some 44)) 1 (some 46)) 2 (some 48))) : XE) = .inr (2, 3, .inr (fun i => if i < 3 then some (44 + 2 * i) else none))
  congr 4
  funext i
  by_cases h0 : i = 0
  · subst h0; rfl
  · by_cases h1 : i = 1
    · subst h1; rfl
    · by_cases h2 : i = 2
      · subst h2; rfl
      · simp only [va_up, if_neg h0, if_neg h1, if_neg h2]
        rw [if_neg (by omega)]
set_option maxRecDepth 100000 in
theorem zi_c_55 : zh3 55 = zen zA0 (zmg zA0 zC0) 55 := by
  show (.inr (3, 3, .inr (va_up (va_up (va_up (fun _ => none) 0 (some 56)) 1 (some 73)) 2 (some 90))) : XE) = .inr (3, 3, .inr (fun i => if i < 3 then some (56 + 17 * i) else none))
  congr 4
  funext i
  by_cases h0 : i = 0
  · subst h0; rfl
  · by_cases h1 : i = 1
    · subst h1; rfl
    · by_cases h2 : i = 2
      · subst h2; rfl
      · simp only [va_up, if_neg h0, if_neg h1, if_neg h2]
        rw [if_neg (by omega)]
set_option maxRecDepth 100000 in
theorem zi_11 : zh3 11 = zen zA0 (zmg zA0 zC0) 11 := by
  show (.inr (4, 31, .inr (fun i => if i < 31 then some (11 + 1 + i) else none)) : XE) = .inr (4, 31, .inr (fun w => if w < 31 then some (zA0 11 w).toNat else none))
  congr 4
  funext i
  by_cases h : i < 31
  · rw [if_pos h, if_pos h]
    congr 1
    have : zA0 11 i = 12 + i := by
      show (if 0 ≤ (i : Int) ∧ (i : Int) < 31 then 12 + (i : Int) else 0) = _
      rw [if_pos (by omega)]
    rw [this]
    omega
  · rw [if_neg h, if_neg h]
set_option maxRecDepth 100000 in
theorem zi_c_59 : zh3 59 = zen zA0 (zmg zA0 zC0) 59 := by
  show (.inr (0, 3, .inl (upd (upd (upd (fun _ => 0) 0 1) 1 1) 2 1)) : XE) = .inr (0, 3, .inl (zar (zA0 59)))
  congr 4
  funext p
  show (if p = 2 then 1 else if p = 1 then 1 else if p = 0 then 1 else 0 : Int32) = Int32.ofInt (if (p : Int) = 0 ∨ (p : Int) = 1 ∨ (p : Int) = 2 then 1 else 0)
  (repeat' split) <;> first | rfl | omega
set_option maxRecDepth 100000 in
theorem zi_c_76 : zh3 76 = zen zA0 (zmg zA0 zC0) 76 := by
  show (.inr (0, 3, .inl (upd (upd (upd (fun _ => 0) 0 1) 1 1) 2 1)) : XE) = .inr (0, 3, .inl (zar (zA0 76)))
  congr 4
  funext p
  show (if p = 2 then 1 else if p = 1 then 1 else if p = 0 then 1 else 0 : Int32) = Int32.ofInt (if (p : Int) = 0 ∨ (p : Int) = 1 ∨ (p : Int) = 2 then 1 else 0)
  (repeat' split) <;> first | rfl | omega
set_option maxRecDepth 100000 in
theorem zi_c_93 : zh3 93 = zen zA0 (zmg zA0 zC0) 93 := by
  show (.inr (0, 3, .inl (upd (upd (upd (fun _ => 0) 0 1) 1 1) 2 1)) : XE) = .inr (0, 3, .inl (zar (zA0 93)))
  congr 4
  funext p
  show (if p = 2 then 1 else if p = 1 then 1 else if p = 0 then 1 else 0 : Int32) = Int32.ofInt (if (p : Int) = 0 ∨ (p : Int) = 1 ∨ (p : Int) = 2 then 1 else 0)
  (repeat' split) <;> first | rfl | omega
set_option maxRecDepth 100000 in
theorem zi_c_66 : zh3 66 = zen zA0 (zmg zA0 zC0) 66 := by
  show (.inr (0, 3, .inl (upd (upd (upd (fun _ => 0) 0 (-1)) 1 (-1)) 2 (-1))) : XE) = .inr (0, 3, .inl (zar (zA0 66)))
  congr 4
  funext p
  show (if p = 2 then (-1) else if p = 1 then (-1) else if p = 0 then (-1) else 0 : Int32) = Int32.ofInt (if (p : Int) = 0 ∨ (p : Int) = 1 ∨ (p : Int) = 2 then (-1) else 0)
  (repeat' split) <;> first | rfl | omega
set_option maxRecDepth 100000 in
theorem zi_c_83 : zh3 83 = zen zA0 (zmg zA0 zC0) 83 := by
  show (.inr (0, 3, .inl (upd (upd (upd (fun _ => 0) 0 (-1)) 1 (-1)) 2 (-1))) : XE) = .inr (0, 3, .inl (zar (zA0 83)))
  congr 4
  funext p
  show (if p = 2 then (-1) else if p = 1 then (-1) else if p = 0 then (-1) else 0 : Int32) = Int32.ofInt (if (p : Int) = 0 ∨ (p : Int) = 1 ∨ (p : Int) = 2 then (-1) else 0)
  (repeat' split) <;> first | rfl | omega
set_option maxRecDepth 100000 in
theorem zi_c_100 : zh3 100 = zen zA0 (zmg zA0 zC0) 100 := by
  show (.inr (0, 3, .inl (upd (upd (upd (fun _ => 0) 0 (-1)) 1 (-1)) 2 (-1))) : XE) = .inr (0, 3, .inl (zar (zA0 100)))
  congr 4
  funext p
  show (if p = 2 then (-1) else if p = 1 then (-1) else if p = 0 then (-1) else 0 : Int32) = Int32.ofInt (if (p : Int) = 0 ∨ (p : Int) = 1 ∨ (p : Int) = 2 then (-1) else 0)
  (repeat' split) <;> first | rfl | omega
set_option maxRecDepth 100000 in
theorem zi_c_124 : zh3 124 = zen zA0 (zmg zA0 zC0) 124 := by
  refine Eq.trans ?_ (zc_r_active (A := zA0) (B := zmg zA0 zC0)).symm
  show (.inr (1, 3, .inl (upd (upd (upd (fun _ => 0) 0 1) 1 1) 2 1)) : XE) = _
  congr 4
  funext p
  show _ = Int32.ofInt (zrv (zmg zA0 zC0) 124 p)
  rw [zi_r_active]
  simp only [upd]
  (repeat' split) <;> first | rfl | omega
set_option maxRecDepth 100000 in
theorem zi_c_135 : zh3 135 = zen zA0 (zmg zA0 zC0) 135 := by
  refine Eq.trans ?_ (zc_r_next (A := zA0) (B := zmg zA0 zC0)).symm
  show (.inr (0, 9, .inl (upd (upd (upd (upd (upd (upd (upd (upd (upd (fun _ => 0) 0 1) 1 1) 2 1) 3 1) 4 1) 5 1) 6 1) 7 1) 8 1)) : XE) = _
  congr 4
  funext p
  show _ = Int32.ofInt (zrv (zmg zA0 zC0) 135 p)
  rw [zi_r_next]
  simp only [upd]
  (repeat' split) <;> first | rfl | omega
set_option maxRecDepth 100000 in
theorem zi_c_136 : zh3 136 = zen zA0 (zmg zA0 zC0) 136 := by
  refine Eq.trans ?_ (zc_r_asked (A := zA0) (B := zmg zA0 zC0)).symm
  show (.inr (0, 9, .inl (upd (upd (upd (upd (upd (upd (upd (upd (upd (fun _ => 0) 0 (-1)) 1 (-1)) 2 (-1)) 3 (-1)) 4 (-1)) 5 (-1)) 6 (-1)) 7 (-1)) 8 (-1))) : XE) = _
  congr 4
  funext p
  show _ = Int32.ofInt (zrv (zmg zA0 zC0) 136 p)
  rw [zi_r_asked]
  simp only [upd]
  (repeat' split) <;> first | rfl | omega
set_option maxRecDepth 100000 in
theorem zi_x0 : zh3 0 = zen zA0 (zmg zA0 zC0) 0 := rfl
set_option maxRecDepth 100000 in
theorem zi_x1 : zh3 1 = zen zA0 (zmg zA0 zC0) 1 := rfl
set_option maxRecDepth 100000 in
theorem zi_x2 : zh3 2 = zen zA0 (zmg zA0 zC0) 2 := rfl
set_option maxRecDepth 100000 in
theorem zi_x3 : zh3 3 = zen zA0 (zmg zA0 zC0) 3 := rfl
set_option maxRecDepth 100000 in
theorem zi_x4 : zh3 4 = zen zA0 (zmg zA0 zC0) 4 := rfl
set_option maxRecDepth 100000 in
theorem zi_x5 : zh3 5 = zen zA0 (zmg zA0 zC0) 5 := rfl
set_option maxRecDepth 100000 in
theorem zi_x6 : zh3 6 = zen zA0 (zmg zA0 zC0) 6 := rfl
set_option maxRecDepth 100000 in
theorem zi_x7 : zh3 7 = zen zA0 (zmg zA0 zC0) 7 := rfl
set_option maxRecDepth 100000 in
theorem zi_x8 : zh3 8 = zen zA0 (zmg zA0 zC0) 8 := rfl
set_option maxRecDepth 100000 in
theorem zi_x9 : zh3 9 = zen zA0 (zmg zA0 zC0) 9 := zi_c_9
set_option maxRecDepth 100000 in
theorem zi_x10 : zh3 10 = zen zA0 (zmg zA0 zC0) 10 := rfl
set_option maxRecDepth 100000 in
theorem zi_x11 : zh3 11 = zen zA0 (zmg zA0 zC0) 11 := zi_11
set_option maxRecDepth 100000 in
theorem zi_x12 : zh3 12 = zen zA0 (zmg zA0 zC0) 12 := rfl
set_option maxRecDepth 100000 in
theorem zi_x13 : zh3 13 = zen zA0 (zmg zA0 zC0) 13 := rfl
set_option maxRecDepth 100000 in
theorem zi_x14 : zh3 14 = zen zA0 (zmg zA0 zC0) 14 := rfl
set_option maxRecDepth 100000 in
theorem zi_x15 : zh3 15 = zen zA0 (zmg zA0 zC0) 15 := rfl
set_option maxRecDepth 100000 in
theorem zi_x16 : zh3 16 = zen zA0 (zmg zA0 zC0) 16 := rfl
set_option maxRecDepth 100000 in
theorem zi_x17 : zh3 17 = zen zA0 (zmg zA0 zC0) 17 := rfl
set_option maxRecDepth 100000 in
theorem zi_x18 : zh3 18 = zen zA0 (zmg zA0 zC0) 18 := rfl
set_option maxRecDepth 100000 in
theorem zi_x19 : zh3 19 = zen zA0 (zmg zA0 zC0) 19 := rfl
set_option maxRecDepth 100000 in
theorem zi_x20 : zh3 20 = zen zA0 (zmg zA0 zC0) 20 := rfl
set_option maxRecDepth 100000 in
theorem zi_x21 : zh3 21 = zen zA0 (zmg zA0 zC0) 21 := rfl
set_option maxRecDepth 100000 in
theorem zi_x22 : zh3 22 = zen zA0 (zmg zA0 zC0) 22 := rfl
set_option maxRecDepth 100000 in
theorem zi_x23 : zh3 23 = zen zA0 (zmg zA0 zC0) 23 := rfl
set_option maxRecDepth 100000 in
theorem zi_x24 : zh3 24 = zen zA0 (zmg zA0 zC0) 24 := rfl
set_option maxRecDepth 100000 in
theorem zi_x25 : zh3 25 = zen zA0 (zmg zA0 zC0) 25 := rfl
set_option maxRecDepth 100000 in
theorem zi_x26 : zh3 26 = zen zA0 (zmg zA0 zC0) 26 := rfl
set_option maxRecDepth 100000 in
theorem zi_x27 : zh3 27 = zen zA0 (zmg zA0 zC0) 27 := rfl
set_option maxRecDepth 100000 in
theorem zi_x28 : zh3 28 = zen zA0 (zmg zA0 zC0) 28 := rfl
set_option maxRecDepth 100000 in
theorem zi_x29 : zh3 29 = zen zA0 (zmg zA0 zC0) 29 := rfl
set_option maxRecDepth 100000 in
theorem zi_x30 : zh3 30 = zen zA0 (zmg zA0 zC0) 30 := rfl
set_option maxRecDepth 100000 in
theorem zi_x31 : zh3 31 = zen zA0 (zmg zA0 zC0) 31 := rfl
set_option maxRecDepth 100000 in
theorem zi_x32 : zh3 32 = zen zA0 (zmg zA0 zC0) 32 := rfl
set_option maxRecDepth 100000 in
theorem zi_x33 : zh3 33 = zen zA0 (zmg zA0 zC0) 33 := rfl
set_option maxRecDepth 100000 in
theorem zi_x34 : zh3 34 = zen zA0 (zmg zA0 zC0) 34 := rfl
set_option maxRecDepth 100000 in
theorem zi_x35 : zh3 35 = zen zA0 (zmg zA0 zC0) 35 := rfl
set_option maxRecDepth 100000 in
theorem zi_x36 : zh3 36 = zen zA0 (zmg zA0 zC0) 36 := rfl
set_option maxRecDepth 100000 in
theorem zi_x37 : zh3 37 = zen zA0 (zmg zA0 zC0) 37 := rfl
set_option maxRecDepth 100000 in
theorem zi_x38 : zh3 38 = zen zA0 (zmg zA0 zC0) 38 := rfl
set_option maxRecDepth 100000 in
theorem zi_x39 : zh3 39 = zen zA0 (zmg zA0 zC0) 39 := rfl
set_option maxRecDepth 100000 in
theorem zi_x40 : zh3 40 = zen zA0 (zmg zA0 zC0) 40 := rfl
set_option maxRecDepth 100000 in
theorem zi_x41 : zh3 41 = zen zA0 (zmg zA0 zC0) 41 := rfl
set_option maxRecDepth 100000 in
theorem zi_x42 : zh3 42 = zen zA0 (zmg zA0 zC0) 42 := rfl
set_option maxRecDepth 100000 in
theorem zi_x43 : zh3 43 = zen zA0 (zmg zA0 zC0) 43 := rfl
set_option maxRecDepth 100000 in
theorem zi_x44 : zh3 44 = zen zA0 (zmg zA0 zC0) 44 := rfl
set_option maxRecDepth 100000 in
theorem zi_x45 : zh3 45 = zen zA0 (zmg zA0 zC0) 45 := rfl
set_option maxRecDepth 100000 in
theorem zi_x46 : zh3 46 = zen zA0 (zmg zA0 zC0) 46 := rfl
set_option maxRecDepth 100000 in
theorem zi_x47 : zh3 47 = zen zA0 (zmg zA0 zC0) 47 := rfl
set_option maxRecDepth 100000 in
theorem zi_x48 : zh3 48 = zen zA0 (zmg zA0 zC0) 48 := rfl
set_option maxRecDepth 100000 in
theorem zi_x49 : zh3 49 = zen zA0 (zmg zA0 zC0) 49 := rfl
set_option maxRecDepth 100000 in
theorem zi_x50 : zh3 50 = zen zA0 (zmg zA0 zC0) 50 := rfl
set_option maxRecDepth 100000 in
theorem zi_x51 : zh3 51 = zen zA0 (zmg zA0 zC0) 51 := rfl
set_option maxRecDepth 100000 in
theorem zi_x52 : zh3 52 = zen zA0 (zmg zA0 zC0) 52 := rfl
set_option maxRecDepth 100000 in
theorem zi_x53 : zh3 53 = zen zA0 (zmg zA0 zC0) 53 := rfl
set_option maxRecDepth 100000 in
theorem zi_x54 : zh3 54 = zen zA0 (zmg zA0 zC0) 54 := rfl
set_option maxRecDepth 100000 in
theorem zi_x55 : zh3 55 = zen zA0 (zmg zA0 zC0) 55 := zi_c_55
set_option maxRecDepth 100000 in
theorem zi_x56 : zh3 56 = zen zA0 (zmg zA0 zC0) 56 := rfl
set_option maxRecDepth 100000 in
theorem zi_x57 : zh3 57 = zen zA0 (zmg zA0 zC0) 57 := rfl
set_option maxRecDepth 100000 in
theorem zi_x58 : zh3 58 = zen zA0 (zmg zA0 zC0) 58 := rfl
set_option maxRecDepth 100000 in
theorem zi_x59 : zh3 59 = zen zA0 (zmg zA0 zC0) 59 := zi_c_59
set_option maxRecDepth 100000 in
theorem zi_x60 : zh3 60 = zen zA0 (zmg zA0 zC0) 60 := rfl
set_option maxRecDepth 100000 in
theorem zi_x61 : zh3 61 = zen zA0 (zmg zA0 zC0) 61 := rfl
set_option maxRecDepth 100000 in
theorem zi_x62 : zh3 62 = zen zA0 (zmg zA0 zC0) 62 := rfl
set_option maxRecDepth 100000 in
theorem zi_x63 : zh3 63 = zen zA0 (zmg zA0 zC0) 63 := rfl
set_option maxRecDepth 100000 in
theorem zi_x64 : zh3 64 = zen zA0 (zmg zA0 zC0) 64 := rfl
set_option maxRecDepth 100000 in
theorem zi_x65 : zh3 65 = zen zA0 (zmg zA0 zC0) 65 := rfl
set_option maxRecDepth 100000 in
theorem zi_x66 : zh3 66 = zen zA0 (zmg zA0 zC0) 66 := zi_c_66
set_option maxRecDepth 100000 in
theorem zi_x67 : zh3 67 = zen zA0 (zmg zA0 zC0) 67 := rfl
set_option maxRecDepth 100000 in
theorem zi_x68 : zh3 68 = zen zA0 (zmg zA0 zC0) 68 := rfl
set_option maxRecDepth 100000 in
theorem zi_x69 : zh3 69 = zen zA0 (zmg zA0 zC0) 69 := rfl
set_option maxRecDepth 100000 in
theorem zi_x70 : zh3 70 = zen zA0 (zmg zA0 zC0) 70 := rfl
set_option maxRecDepth 100000 in
theorem zi_x71 : zh3 71 = zen zA0 (zmg zA0 zC0) 71 := rfl
set_option maxRecDepth 100000 in
theorem zi_x72 : zh3 72 = zen zA0 (zmg zA0 zC0) 72 := rfl
set_option maxRecDepth 100000 in
theorem zi_x73 : zh3 73 = zen zA0 (zmg zA0 zC0) 73 := rfl
set_option maxRecDepth 100000 in
theorem zi_x74 : zh3 74 = zen zA0 (zmg zA0 zC0) 74 := rfl
set_option maxRecDepth 100000 in
theorem zi_x75 : zh3 75 = zen zA0 (zmg zA0 zC0) 75 := rfl
set_option maxRecDepth 100000 in
theorem zi_x76 : zh3 76 = zen zA0 (zmg zA0 zC0) 76 := zi_c_76
set_option maxRecDepth 100000 in
theorem zi_x77 : zh3 77 = zen zA0 (zmg zA0 zC0) 77 := rfl
set_option maxRecDepth 100000 in
theorem zi_x78 : zh3 78 = zen zA0 (zmg zA0 zC0) 78 := rfl
set_option maxRecDepth 100000 in
theorem zi_x79 : zh3 79 = zen zA0 (zmg zA0 zC0) 79 := rfl
set_option maxRecDepth 100000 in
theorem zi_x80 : zh3 80 = zen zA0 (zmg zA0 zC0) 80 := rfl
set_option maxRecDepth 100000 in
theorem zi_x81 : zh3 81 = zen zA0 (zmg zA0 zC0) 81 := rfl
set_option maxRecDepth 100000 in
theorem zi_x82 : zh3 82 = zen zA0 (zmg zA0 zC0) 82 := rfl
set_option maxRecDepth 100000 in
theorem zi_x83 : zh3 83 = zen zA0 (zmg zA0 zC0) 83 := zi_c_83
set_option maxRecDepth 100000 in
theorem zi_x84 : zh3 84 = zen zA0 (zmg zA0 zC0) 84 := rfl
set_option maxRecDepth 100000 in
theorem zi_x85 : zh3 85 = zen zA0 (zmg zA0 zC0) 85 := rfl
set_option maxRecDepth 100000 in
theorem zi_x86 : zh3 86 = zen zA0 (zmg zA0 zC0) 86 := rfl
set_option maxRecDepth 100000 in
theorem zi_x87 : zh3 87 = zen zA0 (zmg zA0 zC0) 87 := rfl
set_option maxRecDepth 100000 in
theorem zi_x88 : zh3 88 = zen zA0 (zmg zA0 zC0) 88 := rfl
set_option maxRecDepth 100000 in
theorem zi_x89 : zh3 89 = zen zA0 (zmg zA0 zC0) 89 := rfl
set_option maxRecDepth 100000 in
theorem zi_x90 : zh3 90 = zen zA0 (zmg zA0 zC0) 90 := rfl
set_option maxRecDepth 100000 in
theorem zi_x91 : zh3 91 = zen zA0 (zmg zA0 zC0) 91 := rfl
set_option maxRecDepth 100000 in
theorem zi_x92 : zh3 92 = zen zA0 (zmg zA0 zC0) 92 := rfl
set_option maxRecDepth 100000 in
theorem zi_x93 : zh3 93 = zen zA0 (zmg zA0 zC0) 93 := zi_c_93
set_option maxRecDepth 100000 in
theorem zi_x94 : zh3 94 = zen zA0 (zmg zA0 zC0) 94 := rfl
set_option maxRecDepth 100000 in
theorem zi_x95 : zh3 95 = zen zA0 (zmg zA0 zC0) 95 := rfl
set_option maxRecDepth 100000 in
theorem zi_x96 : zh3 96 = zen zA0 (zmg zA0 zC0) 96 := rfl
set_option maxRecDepth 100000 in
theorem zi_x97 : zh3 97 = zen zA0 (zmg zA0 zC0) 97 := rfl
set_option maxRecDepth 100000 in
theorem zi_x98 : zh3 98 = zen zA0 (zmg zA0 zC0) 98 := rfl
set_option maxRecDepth 100000 in
theorem zi_x99 : zh3 99 = zen zA0 (zmg zA0 zC0) 99 := rfl
set_option maxRecDepth 100000 in
theorem zi_x100 : zh3 100 = zen zA0 (zmg zA0 zC0) 100 := zi_c_100
set_option maxRecDepth 100000 in
theorem zi_x101 : zh3 101 = zen zA0 (zmg zA0 zC0) 101 := rfl
set_option maxRecDepth 100000 in
theorem zi_x102 : zh3 102 = zen zA0 (zmg zA0 zC0) 102 := rfl
set_option maxRecDepth 100000 in
theorem zi_x103 : zh3 103 = zen zA0 (zmg zA0 zC0) 103 := rfl
set_option maxRecDepth 100000 in
theorem zi_x104 : zh3 104 = zen zA0 (zmg zA0 zC0) 104 := rfl
set_option maxRecDepth 100000 in
theorem zi_x105 : zh3 105 = zen zA0 (zmg zA0 zC0) 105 := rfl
set_option maxRecDepth 100000 in
theorem zi_x106 : zh3 106 = zen zA0 (zmg zA0 zC0) 106 := rfl
set_option maxRecDepth 100000 in
theorem zi_x107 : zh3 107 = zen zA0 (zmg zA0 zC0) 107 := rfl
set_option maxRecDepth 100000 in
theorem zi_x108 : zh3 108 = zen zA0 (zmg zA0 zC0) 108 := by
  refine Eq.trans ?_ (zc_r_rClient (A := zA0) (B := zmg zA0 zC0)).symm
  rw [zi_r_rClient]
  rfl
set_option maxRecDepth 100000 in
theorem zi_x109 : zh3 109 = zen zA0 (zmg zA0 zC0) 109 := by
  refine Eq.trans ?_ (zc_r_rOwn (A := zA0) (B := zmg zA0 zC0)).symm
  rw [zi_r_rOwn]
  rfl
set_option maxRecDepth 100000 in
theorem zi_x110 : zh3 110 = zen zA0 (zmg zA0 zC0) 110 := by
  refine Eq.trans ?_ (zc_r_rKind (A := zA0) (B := zmg zA0 zC0)).symm
  rw [zi_r_rKind]
  rfl
set_option maxRecDepth 100000 in
theorem zi_x111 : zh3 111 = zen zA0 (zmg zA0 zC0) 111 := by
  refine Eq.trans ?_ (zc_r_rKey (A := zA0) (B := zmg zA0 zC0)).symm
  rw [zi_r_rKey]
  rfl
set_option maxRecDepth 100000 in
theorem zi_x112 : zh3 112 = zen zA0 (zmg zA0 zC0) 112 := by
  refine Eq.trans ?_ (zc_r_rNumber (A := zA0) (B := zmg zA0 zC0)).symm
  rw [zi_r_rNumber]
  rfl
set_option maxRecDepth 100000 in
theorem zi_x113 : zh3 113 = zen zA0 (zmg zA0 zC0) 113 := by
  refine Eq.trans ?_ (zc_r_answered (A := zA0) (B := zmg zA0 zC0)).symm
  rw [zi_r_answered]
  rfl
set_option maxRecDepth 100000 in
theorem zi_x114 : zh3 114 = zen zA0 (zmg zA0 zC0) 114 := by
  refine Eq.trans ?_ (zc_r_answer (A := zA0) (B := zmg zA0 zC0)).symm
  rw [zi_r_answer]
  rfl
set_option maxRecDepth 100000 in
theorem zi_x115 : zh3 115 = zen zA0 (zmg zA0 zC0) 115 := by
  refine Eq.trans ?_ (zc_r_kinds (A := zA0) (B := zmg zA0 zC0)).symm
  rw [zi_r_kinds]
  rfl
set_option maxRecDepth 100000 in
theorem zi_x116 : zh3 116 = zen zA0 (zmg zA0 zC0) 116 := by
  refine Eq.trans ?_ (zc_r_views (A := zA0) (B := zmg zA0 zC0)).symm
  rw [zi_r_views]
  rfl
set_option maxRecDepth 100000 in
theorem zi_x117 : zh3 117 = zen zA0 (zmg zA0 zC0) 117 := by
  refine Eq.trans ?_ (zc_r_as (A := zA0) (B := zmg zA0 zC0)).symm
  rw [zi_r_as]
  rfl
set_option maxRecDepth 100000 in
theorem zi_x118 : zh3 118 = zen zA0 (zmg zA0 zC0) 118 := by
  refine Eq.trans ?_ (zc_r_bs (A := zA0) (B := zmg zA0 zC0)).symm
  rw [zi_r_bs]
  rfl
set_option maxRecDepth 100000 in
theorem zi_x119 : zh3 119 = zen zA0 (zmg zA0 zC0) 119 := by
  refine Eq.trans ?_ (zc_r_moment (A := zA0) (B := zmg zA0 zC0)).symm
  rw [zi_r_moment]
  rfl
set_option maxRecDepth 100000 in
theorem zi_x120 : zh3 120 = zen zA0 (zmg zA0 zC0) 120 := by
  refine Eq.trans ?_ (zc_r_many (A := zA0) (B := zmg zA0 zC0)).symm
  rw [zi_r_many]
  rfl
set_option maxRecDepth 100000 in
theorem zi_x121 : zh3 121 = zen zA0 (zmg zA0 zC0) 121 := by
  refine Eq.trans ?_ (zc_r_row (A := zA0) (B := zmg zA0 zC0)).symm
  rw [zi_r_row]
  rfl
set_option maxRecDepth 100000 in
theorem zi_x122 : zh3 122 = zen zA0 (zmg zA0 zC0) 122 := by
  refine Eq.trans ?_ (zc_r_down (A := zA0) (B := zmg zA0 zC0)).symm
  rw [zi_r_down]
  rfl
set_option maxRecDepth 100000 in
theorem zi_x123 : zh3 123 = zen zA0 (zmg zA0 zC0) 123 := by
  refine Eq.trans ?_ (zc_r_view (A := zA0) (B := zmg zA0 zC0)).symm
  rw [zi_r_view]
  rfl
set_option maxRecDepth 100000 in
theorem zi_x124 : zh3 124 = zen zA0 (zmg zA0 zC0) 124 := zi_c_124
set_option maxRecDepth 100000 in
theorem zi_x125 : zh3 125 = zen zA0 (zmg zA0 zC0) 125 := by
  refine Eq.trans ?_ (zc_r_lied (A := zA0) (B := zmg zA0 zC0)).symm
  rw [zi_r_lied]
  rfl
set_option maxRecDepth 100000 in
theorem zi_x126 : zh3 126 = zen zA0 (zmg zA0 zC0) 126 := by
  refine Eq.trans ?_ (zc_r_map (A := zA0) (B := zmg zA0 zC0)).symm
  rw [zi_r_map]
  rfl
set_option maxRecDepth 100000 in
theorem zi_x127 : zh3 127 = zen zA0 (zmg zA0 zC0) 127 := by
  refine Eq.trans ?_ (zc_r_history (A := zA0) (B := zmg zA0 zC0)).symm
  rw [zi_r_history]
  rfl
set_option maxRecDepth 100000 in
theorem zi_x128 : zh3 128 = zen zA0 (zmg zA0 zC0) 128 := by
  refine Eq.trans ?_ (zc_r_done (A := zA0) (B := zmg zA0 zC0)).symm
  rw [zi_r_done]
  rfl
set_option maxRecDepth 100000 in
theorem zi_x129 : zh3 129 = zen zA0 (zmg zA0 zC0) 129 := by
  refine Eq.trans ?_ (zc_r_last (A := zA0) (B := zmg zA0 zC0)).symm
  rw [zi_r_last]
  rfl
set_option maxRecDepth 100000 in
theorem zi_x130 : zh3 130 = zen zA0 (zmg zA0 zC0) 130 := by
  refine Eq.trans ?_ (zc_r_hasReply (A := zA0) (B := zmg zA0 zC0)).symm
  rw [zi_r_hasReply]
  rfl
set_option maxRecDepth 100000 in
theorem zi_x131 : zh3 131 = zen zA0 (zmg zA0 zC0) 131 := by
  refine Eq.trans ?_ (zc_r_replies (A := zA0) (B := zmg zA0 zC0)).symm
  rw [zi_r_replies]
  rfl
set_option maxRecDepth 100000 in
theorem zi_x132 : zh3 132 = zen zA0 (zmg zA0 zC0) 132 := by
  refine Eq.trans ?_ (zc_r_got (A := zA0) (B := zmg zA0 zC0)).symm
  rw [zi_r_got]
  rfl
set_option maxRecDepth 100000 in
theorem zi_x133 : zh3 133 = zen zA0 (zmg zA0 zC0) 133 := by
  refine Eq.trans ?_ (zc_r_gave (A := zA0) (B := zmg zA0 zC0)).symm
  rw [zi_r_gave]
  rfl
set_option maxRecDepth 100000 in
theorem zi_x134 : zh3 134 = zen zA0 (zmg zA0 zC0) 134 := by
  refine Eq.trans ?_ (zc_r_brought (A := zA0) (B := zmg zA0 zC0)).symm
  rw [zi_r_brought]
  rfl
set_option maxRecDepth 100000 in
theorem zi_x135 : zh3 135 = zen zA0 (zmg zA0 zC0) 135 := zi_c_135
set_option maxRecDepth 100000 in
theorem zi_x136 : zh3 136 = zen zA0 (zmg zA0 zC0) 136 := zi_c_136
set_option maxRecDepth 100000 in
theorem zi_x137 : zh3 137 = zen zA0 (zmg zA0 zC0) 137 := by
  refine Eq.trans ?_ (zc_r_prepares (A := zA0) (B := zmg zA0 zC0)).symm
  rw [zi_r_prepares]
  rfl
set_option maxRecDepth 100000 in
theorem zi_x138 : zh3 138 = zen zA0 (zmg zA0 zC0) 138 := by
  refine Eq.trans ?_ (zc_r_prepared (A := zA0) (B := zmg zA0 zC0)).symm
  rw [zi_r_prepared]
  rfl
set_option maxRecDepth 100000 in
theorem zi_x139 : zh3 139 = zen zA0 (zmg zA0 zC0) 139 := by
  refine Eq.trans ?_ (zc_r_prepareDone (A := zA0) (B := zmg zA0 zC0)).symm
  rw [zi_r_prepareDone]
  rfl
set_option maxRecDepth 100000 in
theorem zi_x140 : zh3 140 = zen zA0 (zmg zA0 zC0) 140 := by
  refine Eq.trans ?_ (zc_r_openDone (A := zA0) (B := zmg zA0 zC0)).symm
  rw [zi_r_openDone]
  rfl
set_option maxRecDepth 100000 in
theorem zi_x141 : zh3 141 = zen zA0 (zmg zA0 zC0) 141 := by
  refine Eq.trans ?_ (zc_r_votes (A := zA0) (B := zmg zA0 zC0)).symm
  rw [zi_r_votes]
  rfl
set_option maxRecDepth 100000 in
theorem zi_x142 : zh3 142 = zen zA0 (zmg zA0 zC0) 142 := by
  refine Eq.trans ?_ (zc_r_changeRead (A := zA0) (B := zmg zA0 zC0)).symm
  rw [zi_r_changeRead]
  rfl
set_option maxRecDepth 100000 in
theorem zi_x143 : zh3 143 = zen zA0 (zmg zA0 zC0) 143 := by
  refine Eq.trans ?_ (zc_r_changeNumber (A := zA0) (B := zmg zA0 zC0)).symm
  rw [zi_r_changeNumber]
  rfl
set_option maxRecDepth 100000 in
theorem zi_lo (b : Nat) (hb : b < 144) : zh3 b = zen zA0 (zmg zA0 zC0) b := by
  by_cases h1 : b < 72
  ·
    by_cases h2 : b < 36
    ·
      by_cases h3 : b < 18
      ·
        by_cases h4 : b < 9
        ·
          by_cases h5 : b < 4
          ·
            by_cases h6 : b < 2
            ·
              by_cases h7 : b < 1
              ·
                obtain rfl : b = 0 := by omega
                exact zi_x0
              ·
                obtain rfl : b = 1 := by omega
                exact zi_x1
            ·
              by_cases h7 : b < 3
              ·
                obtain rfl : b = 2 := by omega
                exact zi_x2
              ·
                obtain rfl : b = 3 := by omega
                exact zi_x3
          ·
            by_cases h6 : b < 6
            ·
              by_cases h7 : b < 5
              ·
                obtain rfl : b = 4 := by omega
                exact zi_x4
              ·
                obtain rfl : b = 5 := by omega
                exact zi_x5
            ·
              by_cases h7 : b < 7
              ·
                obtain rfl : b = 6 := by omega
                exact zi_x6
              ·
                by_cases h8 : b < 8
                ·
                  obtain rfl : b = 7 := by omega
                  exact zi_x7
                ·
                  obtain rfl : b = 8 := by omega
                  exact zi_x8
        ·
          by_cases h5 : b < 13
          ·
            by_cases h6 : b < 11
            ·
              by_cases h7 : b < 10
              ·
                obtain rfl : b = 9 := by omega
                exact zi_x9
              ·
                obtain rfl : b = 10 := by omega
                exact zi_x10
            ·
              by_cases h7 : b < 12
              ·
                obtain rfl : b = 11 := by omega
                exact zi_x11
              ·
                obtain rfl : b = 12 := by omega
                exact zi_x12
          ·
            by_cases h6 : b < 15
            ·
              by_cases h7 : b < 14
              ·
                obtain rfl : b = 13 := by omega
                exact zi_x13
              ·
                obtain rfl : b = 14 := by omega
                exact zi_x14
            ·
              by_cases h7 : b < 16
              ·
                obtain rfl : b = 15 := by omega
                exact zi_x15
              ·
                by_cases h8 : b < 17
                ·
                  obtain rfl : b = 16 := by omega
                  exact zi_x16
                ·
                  obtain rfl : b = 17 := by omega
                  exact zi_x17
      ·
        by_cases h4 : b < 27
        ·
          by_cases h5 : b < 22
          ·
            by_cases h6 : b < 20
            ·
              by_cases h7 : b < 19
              ·
                obtain rfl : b = 18 := by omega
                exact zi_x18
              ·
                obtain rfl : b = 19 := by omega
                exact zi_x19
            ·
              by_cases h7 : b < 21
              ·
                obtain rfl : b = 20 := by omega
                exact zi_x20
              ·
                obtain rfl : b = 21 := by omega
                exact zi_x21
          ·
            by_cases h6 : b < 24
            ·
              by_cases h7 : b < 23
              ·
                obtain rfl : b = 22 := by omega
                exact zi_x22
              ·
                obtain rfl : b = 23 := by omega
                exact zi_x23
            ·
              by_cases h7 : b < 25
              ·
                obtain rfl : b = 24 := by omega
                exact zi_x24
              ·
                by_cases h8 : b < 26
                ·
                  obtain rfl : b = 25 := by omega
                  exact zi_x25
                ·
                  obtain rfl : b = 26 := by omega
                  exact zi_x26
        ·
          by_cases h5 : b < 31
          ·
            by_cases h6 : b < 29
            ·
              by_cases h7 : b < 28
              ·
                obtain rfl : b = 27 := by omega
                exact zi_x27
              ·
                obtain rfl : b = 28 := by omega
                exact zi_x28
            ·
              by_cases h7 : b < 30
              ·
                obtain rfl : b = 29 := by omega
                exact zi_x29
              ·
                obtain rfl : b = 30 := by omega
                exact zi_x30
          ·
            by_cases h6 : b < 33
            ·
              by_cases h7 : b < 32
              ·
                obtain rfl : b = 31 := by omega
                exact zi_x31
              ·
                obtain rfl : b = 32 := by omega
                exact zi_x32
            ·
              by_cases h7 : b < 34
              ·
                obtain rfl : b = 33 := by omega
                exact zi_x33
              ·
                by_cases h8 : b < 35
                ·
                  obtain rfl : b = 34 := by omega
                  exact zi_x34
                ·
                  obtain rfl : b = 35 := by omega
                  exact zi_x35
    ·
      by_cases h3 : b < 54
      ·
        by_cases h4 : b < 45
        ·
          by_cases h5 : b < 40
          ·
            by_cases h6 : b < 38
            ·
              by_cases h7 : b < 37
              ·
                obtain rfl : b = 36 := by omega
                exact zi_x36
              ·
                obtain rfl : b = 37 := by omega
                exact zi_x37
            ·
              by_cases h7 : b < 39
              ·
                obtain rfl : b = 38 := by omega
                exact zi_x38
              ·
                obtain rfl : b = 39 := by omega
                exact zi_x39
          ·
            by_cases h6 : b < 42
            ·
              by_cases h7 : b < 41
              ·
                obtain rfl : b = 40 := by omega
                exact zi_x40
              ·
                obtain rfl : b = 41 := by omega
                exact zi_x41
            ·
              by_cases h7 : b < 43
              ·
                obtain rfl : b = 42 := by omega
                exact zi_x42
              ·
                by_cases h8 : b < 44
                ·
                  obtain rfl : b = 43 := by omega
                  exact zi_x43
                ·
                  obtain rfl : b = 44 := by omega
                  exact zi_x44
        ·
          by_cases h5 : b < 49
          ·
            by_cases h6 : b < 47
            ·
              by_cases h7 : b < 46
              ·
                obtain rfl : b = 45 := by omega
                exact zi_x45
              ·
                obtain rfl : b = 46 := by omega
                exact zi_x46
            ·
              by_cases h7 : b < 48
              ·
                obtain rfl : b = 47 := by omega
                exact zi_x47
              ·
                obtain rfl : b = 48 := by omega
                exact zi_x48
          ·
            by_cases h6 : b < 51
            ·
              by_cases h7 : b < 50
              ·
                obtain rfl : b = 49 := by omega
                exact zi_x49
              ·
                obtain rfl : b = 50 := by omega
                exact zi_x50
            ·
              by_cases h7 : b < 52
              ·
                obtain rfl : b = 51 := by omega
                exact zi_x51
              ·
                by_cases h8 : b < 53
                ·
                  obtain rfl : b = 52 := by omega
                  exact zi_x52
                ·
                  obtain rfl : b = 53 := by omega
                  exact zi_x53
      ·
        by_cases h4 : b < 63
        ·
          by_cases h5 : b < 58
          ·
            by_cases h6 : b < 56
            ·
              by_cases h7 : b < 55
              ·
                obtain rfl : b = 54 := by omega
                exact zi_x54
              ·
                obtain rfl : b = 55 := by omega
                exact zi_x55
            ·
              by_cases h7 : b < 57
              ·
                obtain rfl : b = 56 := by omega
                exact zi_x56
              ·
                obtain rfl : b = 57 := by omega
                exact zi_x57
          ·
            by_cases h6 : b < 60
            ·
              by_cases h7 : b < 59
              ·
                obtain rfl : b = 58 := by omega
                exact zi_x58
              ·
                obtain rfl : b = 59 := by omega
                exact zi_x59
            ·
              by_cases h7 : b < 61
              ·
                obtain rfl : b = 60 := by omega
                exact zi_x60
              ·
                by_cases h8 : b < 62
                ·
                  obtain rfl : b = 61 := by omega
                  exact zi_x61
                ·
                  obtain rfl : b = 62 := by omega
                  exact zi_x62
        ·
          by_cases h5 : b < 67
          ·
            by_cases h6 : b < 65
            ·
              by_cases h7 : b < 64
              ·
                obtain rfl : b = 63 := by omega
                exact zi_x63
              ·
                obtain rfl : b = 64 := by omega
                exact zi_x64
            ·
              by_cases h7 : b < 66
              ·
                obtain rfl : b = 65 := by omega
                exact zi_x65
              ·
                obtain rfl : b = 66 := by omega
                exact zi_x66
          ·
            by_cases h6 : b < 69
            ·
              by_cases h7 : b < 68
              ·
                obtain rfl : b = 67 := by omega
                exact zi_x67
              ·
                obtain rfl : b = 68 := by omega
                exact zi_x68
            ·
              by_cases h7 : b < 70
              ·
                obtain rfl : b = 69 := by omega
                exact zi_x69
              ·
                by_cases h8 : b < 71
                ·
                  obtain rfl : b = 70 := by omega
                  exact zi_x70
                ·
                  obtain rfl : b = 71 := by omega
                  exact zi_x71
  ·
    by_cases h2 : b < 108
    ·
      by_cases h3 : b < 90
      ·
        by_cases h4 : b < 81
        ·
          by_cases h5 : b < 76
          ·
            by_cases h6 : b < 74
            ·
              by_cases h7 : b < 73
              ·
                obtain rfl : b = 72 := by omega
                exact zi_x72
              ·
                obtain rfl : b = 73 := by omega
                exact zi_x73
            ·
              by_cases h7 : b < 75
              ·
                obtain rfl : b = 74 := by omega
                exact zi_x74
              ·
                obtain rfl : b = 75 := by omega
                exact zi_x75
          ·
            by_cases h6 : b < 78
            ·
              by_cases h7 : b < 77
              ·
                obtain rfl : b = 76 := by omega
                exact zi_x76
              ·
                obtain rfl : b = 77 := by omega
                exact zi_x77
            ·
              by_cases h7 : b < 79
              ·
                obtain rfl : b = 78 := by omega
                exact zi_x78
              ·
                by_cases h8 : b < 80
                ·
                  obtain rfl : b = 79 := by omega
                  exact zi_x79
                ·
                  obtain rfl : b = 80 := by omega
                  exact zi_x80
        ·
          by_cases h5 : b < 85
          ·
            by_cases h6 : b < 83
            ·
              by_cases h7 : b < 82
              ·
                obtain rfl : b = 81 := by omega
                exact zi_x81
              ·
                obtain rfl : b = 82 := by omega
                exact zi_x82
            ·
              by_cases h7 : b < 84
              ·
                obtain rfl : b = 83 := by omega
                exact zi_x83
              ·
                obtain rfl : b = 84 := by omega
                exact zi_x84
          ·
            by_cases h6 : b < 87
            ·
              by_cases h7 : b < 86
              ·
                obtain rfl : b = 85 := by omega
                exact zi_x85
              ·
                obtain rfl : b = 86 := by omega
                exact zi_x86
            ·
              by_cases h7 : b < 88
              ·
                obtain rfl : b = 87 := by omega
                exact zi_x87
              ·
                by_cases h8 : b < 89
                ·
                  obtain rfl : b = 88 := by omega
                  exact zi_x88
                ·
                  obtain rfl : b = 89 := by omega
                  exact zi_x89
      ·
        by_cases h4 : b < 99
        ·
          by_cases h5 : b < 94
          ·
            by_cases h6 : b < 92
            ·
              by_cases h7 : b < 91
              ·
                obtain rfl : b = 90 := by omega
                exact zi_x90
              ·
                obtain rfl : b = 91 := by omega
                exact zi_x91
            ·
              by_cases h7 : b < 93
              ·
                obtain rfl : b = 92 := by omega
                exact zi_x92
              ·
                obtain rfl : b = 93 := by omega
                exact zi_x93
          ·
            by_cases h6 : b < 96
            ·
              by_cases h7 : b < 95
              ·
                obtain rfl : b = 94 := by omega
                exact zi_x94
              ·
                obtain rfl : b = 95 := by omega
                exact zi_x95
            ·
              by_cases h7 : b < 97
              ·
                obtain rfl : b = 96 := by omega
                exact zi_x96
              ·
                by_cases h8 : b < 98
                ·
                  obtain rfl : b = 97 := by omega
                  exact zi_x97
                ·
                  obtain rfl : b = 98 := by omega
                  exact zi_x98
        ·
          by_cases h5 : b < 103
          ·
            by_cases h6 : b < 101
            ·
              by_cases h7 : b < 100
              ·
                obtain rfl : b = 99 := by omega
                exact zi_x99
              ·
                obtain rfl : b = 100 := by omega
                exact zi_x100
            ·
              by_cases h7 : b < 102
              ·
                obtain rfl : b = 101 := by omega
                exact zi_x101
              ·
                obtain rfl : b = 102 := by omega
                exact zi_x102
          ·
            by_cases h6 : b < 105
            ·
              by_cases h7 : b < 104
              ·
                obtain rfl : b = 103 := by omega
                exact zi_x103
              ·
                obtain rfl : b = 104 := by omega
                exact zi_x104
            ·
              by_cases h7 : b < 106
              ·
                obtain rfl : b = 105 := by omega
                exact zi_x105
              ·
                by_cases h8 : b < 107
                ·
                  obtain rfl : b = 106 := by omega
                  exact zi_x106
                ·
                  obtain rfl : b = 107 := by omega
                  exact zi_x107
    ·
      by_cases h3 : b < 126
      ·
        by_cases h4 : b < 117
        ·
          by_cases h5 : b < 112
          ·
            by_cases h6 : b < 110
            ·
              by_cases h7 : b < 109
              ·
                obtain rfl : b = 108 := by omega
                exact zi_x108
              ·
                obtain rfl : b = 109 := by omega
                exact zi_x109
            ·
              by_cases h7 : b < 111
              ·
                obtain rfl : b = 110 := by omega
                exact zi_x110
              ·
                obtain rfl : b = 111 := by omega
                exact zi_x111
          ·
            by_cases h6 : b < 114
            ·
              by_cases h7 : b < 113
              ·
                obtain rfl : b = 112 := by omega
                exact zi_x112
              ·
                obtain rfl : b = 113 := by omega
                exact zi_x113
            ·
              by_cases h7 : b < 115
              ·
                obtain rfl : b = 114 := by omega
                exact zi_x114
              ·
                by_cases h8 : b < 116
                ·
                  obtain rfl : b = 115 := by omega
                  exact zi_x115
                ·
                  obtain rfl : b = 116 := by omega
                  exact zi_x116
        ·
          by_cases h5 : b < 121
          ·
            by_cases h6 : b < 119
            ·
              by_cases h7 : b < 118
              ·
                obtain rfl : b = 117 := by omega
                exact zi_x117
              ·
                obtain rfl : b = 118 := by omega
                exact zi_x118
            ·
              by_cases h7 : b < 120
              ·
                obtain rfl : b = 119 := by omega
                exact zi_x119
              ·
                obtain rfl : b = 120 := by omega
                exact zi_x120
          ·
            by_cases h6 : b < 123
            ·
              by_cases h7 : b < 122
              ·
                obtain rfl : b = 121 := by omega
                exact zi_x121
              ·
                obtain rfl : b = 122 := by omega
                exact zi_x122
            ·
              by_cases h7 : b < 124
              ·
                obtain rfl : b = 123 := by omega
                exact zi_x123
              ·
                by_cases h8 : b < 125
                ·
                  obtain rfl : b = 124 := by omega
                  exact zi_x124
                ·
                  obtain rfl : b = 125 := by omega
                  exact zi_x125
      ·
        by_cases h4 : b < 135
        ·
          by_cases h5 : b < 130
          ·
            by_cases h6 : b < 128
            ·
              by_cases h7 : b < 127
              ·
                obtain rfl : b = 126 := by omega
                exact zi_x126
              ·
                obtain rfl : b = 127 := by omega
                exact zi_x127
            ·
              by_cases h7 : b < 129
              ·
                obtain rfl : b = 128 := by omega
                exact zi_x128
              ·
                obtain rfl : b = 129 := by omega
                exact zi_x129
          ·
            by_cases h6 : b < 132
            ·
              by_cases h7 : b < 131
              ·
                obtain rfl : b = 130 := by omega
                exact zi_x130
              ·
                obtain rfl : b = 131 := by omega
                exact zi_x131
            ·
              by_cases h7 : b < 133
              ·
                obtain rfl : b = 132 := by omega
                exact zi_x132
              ·
                by_cases h8 : b < 134
                ·
                  obtain rfl : b = 133 := by omega
                  exact zi_x133
                ·
                  obtain rfl : b = 134 := by omega
                  exact zi_x134
        ·
          by_cases h5 : b < 139
          ·
            by_cases h6 : b < 137
            ·
              by_cases h7 : b < 136
              ·
                obtain rfl : b = 135 := by omega
                exact zi_x135
              ·
                obtain rfl : b = 136 := by omega
                exact zi_x136
            ·
              by_cases h7 : b < 138
              ·
                obtain rfl : b = 137 := by omega
                exact zi_x137
              ·
                obtain rfl : b = 138 := by omega
                exact zi_x138
          ·
            by_cases h6 : b < 141
            ·
              by_cases h7 : b < 140
              ·
                obtain rfl : b = 139 := by omega
                exact zi_x139
              ·
                obtain rfl : b = 140 := by omega
                exact zi_x140
            ·
              by_cases h7 : b < 142
              ·
                obtain rfl : b = 141 := by omega
                exact zi_x141
              ·
                by_cases h8 : b < 143
                ·
                  obtain rfl : b = 142 := by omega
                  exact zi_x142
                ·
                  obtain rfl : b = 143 := by omega
                  exact zi_x143
set_option maxRecDepth 100000 in
theorem zi_st : ((144, 12037, zh3) : XS) = zhp zA0 (zmg zA0 zC0) := by
  refine Prod.ext rfl (Prod.ext rfl ?_)
  show zh3 = zen zA0 (zmg zA0 zC0)
  funext b
  by_cases hb : b < 144
  · exact zi_lo b hb
  · rw [zi_hi (by omega)]
    have hr : zrow b = true := by simp only [zrow, Bool.or_eq_true, decide_eq_true_eq]; omega
    have e1 : zA0 (-1) (b : Int) = 0 := rfl
    have e2 : zA0 (b : Int) = fun _ => 0 := by funext j; exact zA0_z (by omega) (by omega) (by omega) (by omega) (by omega) (by omega) (by omega)
    simp only [zen, hr, if_true, e1, e2]
    rfl
