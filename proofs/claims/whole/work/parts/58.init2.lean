/-! the start in the flat memory -/
def zA0 : ZM := fun b j =>
  if b = -2 then (if j = 1 then 12037 else 0)
  else if b = 11 then (if 0 ≤ j ∧ j < 31 then 12 + j else 0)
  else if b = 44 ∨ b = 46 ∨ b = 48 then (if j = 2 then -1 else 0)
  else if b = 56 ∨ b = 73 ∨ b = 90 then (if j = 0 then (b - 56) / 17 else if j = 8 then 1 else 0)
  else if b = 59 ∨ b = 76 ∨ b = 93 then (if j = 0 ∨ j = 1 ∨ j = 2 then 1 else 0)
  else if b = 60 ∨ b = 77 ∨ b = 94 then (if j = 4 then 1 else 0)
  else if b = 66 ∨ b = 83 ∨ b = 100 then (if j = 0 ∨ j = 1 ∨ j = 2 then -1 else 0)
  else 0
def zC0 : ZM := fun _ _ => 0
theorem zA0_z {b j : Int} (h1 : b ≠ -2) (h2 : b ≠ 11) (h3 : ¬ ((b = 44 ∨ b = 46 ∨ b = 48) ∧ j = 2)) (h4 : ¬ ((b = 56 ∨ b = 73 ∨ b = 90) ∧ (j = 0 ∨ j = 8))) (h5 : b ≠ 59 ∧ b ≠ 76 ∧ b ≠ 93) (h6 : ¬ ((b = 60 ∨ b = 77 ∨ b = 94) ∧ j = 4)) (h7 : b ≠ 66 ∧ b ≠ 83 ∧ b ≠ 100) : zA0 b j = 0 := by
  unfold zA0
  (repeat' split) <;> first | rfl | omega
theorem zmg_00 {b j : Int} (h : 107 ≤ b ∧ b < 144) : zmg zA0 zC0 b j = 0 := zmg_C h
theorem zi_r_rClient : zrv (zmg zA0 zC0) 108 = fun _ => 0 := by
  funext p
  by_cases h : 0 ≤ p ∧ p < 60
  · rw [zvB (zk_rClient h) (by omega)]; exact zA0_z (by omega) (by omega) (by omega) (by omega) (by omega) (by omega) (by omega)
  · show zmg zA0 zC0 (zrk 108 p).1 (zrk 108 p).2 = 0
    rw [show zrk 108 p = (108, p) from if_neg h]; exact zmg_00 (b := 108) (by decide)
theorem zi_r_rOwn : zrv (zmg zA0 zC0) 109 = fun _ => 0 := by
  funext p
  by_cases h : 0 ≤ p ∧ p < 60
  · rw [zvB (zk_rOwn h) (by omega)]; exact zA0_z (by omega) (by omega) (by omega) (by omega) (by omega) (by omega) (by omega)
  · show zmg zA0 zC0 (zrk 109 p).1 (zrk 109 p).2 = 0
    rw [show zrk 109 p = (109, p) from if_neg h]; exact zmg_00 (b := 109) (by decide)
theorem zi_r_rKind : zrv (zmg zA0 zC0) 110 = fun _ => 0 := by
  funext p
  by_cases h : 0 ≤ p ∧ p < 60
  · rw [zvB (zk_rKind h) (by omega)]; exact zA0_z (by omega) (by omega) (by omega) (by omega) (by omega) (by omega) (by omega)
  · show zmg zA0 zC0 (zrk 110 p).1 (zrk 110 p).2 = 0
    rw [show zrk 110 p = (110, p) from if_neg h]; exact zmg_00 (b := 110) (by decide)
theorem zi_r_rKey : zrv (zmg zA0 zC0) 111 = fun _ => 0 := by
  funext p
  by_cases h : 0 ≤ p ∧ p < 60
  · rw [zvB (zk_rKey h) (by omega)]; exact zA0_z (by omega) (by omega) (by omega) (by omega) (by omega) (by omega) (by omega)
  · show zmg zA0 zC0 (zrk 111 p).1 (zrk 111 p).2 = 0
    rw [show zrk 111 p = (111, p) from if_neg h]; exact zmg_00 (b := 111) (by decide)
theorem zi_r_rNumber : zrv (zmg zA0 zC0) 112 = fun _ => 0 := by
  funext p
  by_cases h : 0 ≤ p ∧ p < 60
  · rw [zvB (zk_rNumber h) (by omega)]; exact zA0_z (by omega) (by omega) (by omega) (by omega) (by omega) (by omega) (by omega)
  · show zmg zA0 zC0 (zrk 112 p).1 (zrk 112 p).2 = 0
    rw [show zrk 112 p = (112, p) from if_neg h]; exact zmg_00 (b := 112) (by decide)
theorem zi_r_answered : zrv (zmg zA0 zC0) 113 = fun _ => 0 := by
  funext p
  by_cases h : 0 ≤ p ∧ p < 60
  · rw [zvB (zk_answered h) (by omega)]; exact zA0_z (by omega) (by omega) (by omega) (by omega) (by omega) (by omega) (by omega)
  · show zmg zA0 zC0 (zrk 113 p).1 (zrk 113 p).2 = 0
    rw [show zrk 113 p = (113, p) from if_neg h]; exact zmg_00 (b := 113) (by decide)
theorem zi_r_answer : zrv (zmg zA0 zC0) 114 = fun _ => 0 := by
  funext p
  by_cases h : 0 ≤ p ∧ p < 60
  · rw [zvB (zk_answer h) (by omega)]; exact zA0_z (by omega) (by omega) (by omega) (by omega) (by omega) (by omega) (by omega)
  · show zmg zA0 zC0 (zrk 114 p).1 (zrk 114 p).2 = 0
    rw [show zrk 114 p = (114, p) from if_neg h]; exact zmg_00 (b := 114) (by decide)
theorem zi_r_kinds : zrv (zmg zA0 zC0) 115 = fun _ => 0 := by
  funext p
  by_cases h : 0 ≤ p ∧ p < 303
  · rw [show p = 101 * (p / 101) + p % 101 by omega, zvB (zk_kinds (by omega) (by omega)) (by omega)]; exact zA0_z (by omega) (by omega) (by omega) (by omega) (by omega) (by omega) (by omega)
  · show zmg zA0 zC0 (zrk 115 p).1 (zrk 115 p).2 = 0
    rw [show zrk 115 p = (115, p) from if_neg h]; exact zmg_00 (b := 115) (by decide)
theorem zi_r_views : zrv (zmg zA0 zC0) 116 = fun _ => 0 := by
  funext p
  by_cases h : 0 ≤ p ∧ p < 303
  · rw [show p = 101 * (p / 101) + p % 101 by omega, zvB (zk_views (by omega) (by omega)) (by omega)]; exact zA0_z (by omega) (by omega) (by omega) (by omega) (by omega) (by omega) (by omega)
  · show zmg zA0 zC0 (zrk 116 p).1 (zrk 116 p).2 = 0
    rw [show zrk 116 p = (116, p) from if_neg h]; exact zmg_00 (b := 116) (by decide)
theorem zi_r_as : zrv (zmg zA0 zC0) 117 = fun _ => 0 := by
  funext p
  by_cases h : 0 ≤ p ∧ p < 303
  · rw [show p = 101 * (p / 101) + p % 101 by omega, zvB (zk_as (by omega) (by omega)) (by omega)]; exact zA0_z (by omega) (by omega) (by omega) (by omega) (by omega) (by omega) (by omega)
  · show zmg zA0 zC0 (zrk 117 p).1 (zrk 117 p).2 = 0
    rw [show zrk 117 p = (117, p) from if_neg h]; exact zmg_00 (b := 117) (by decide)
theorem zi_r_bs : zrv (zmg zA0 zC0) 118 = fun _ => 0 := by
  funext p
  by_cases h : 0 ≤ p ∧ p < 303
  · rw [show p = 101 * (p / 101) + p % 101 by omega, zvB (zk_bs (by omega) (by omega)) (by omega)]; exact zA0_z (by omega) (by omega) (by omega) (by omega) (by omega) (by omega) (by omega)
  · show zmg zA0 zC0 (zrk 118 p).1 (zrk 118 p).2 = 0
    rw [show zrk 118 p = (118, p) from if_neg h]; exact zmg_00 (b := 118) (by decide)
theorem zi_r_moment : zrv (zmg zA0 zC0) 119 = fun _ => 0 := by
  funext p
  exact zmg_00 (b := 119) (by decide)
theorem zi_r_many : zrv (zmg zA0 zC0) 120 = fun _ => 0 := by
  funext p
  by_cases h : 0 ≤ p ∧ p < 3
  · rw [zvB (zk_many h) (by omega)]; exact zA0_z (by omega) (by omega) (by omega) (by omega) (by omega) (by omega) (by omega)
  · show zmg zA0 zC0 (zrk 120 p).1 (zrk 120 p).2 = 0
    rw [show zrk 120 p = (120, p) from if_neg h]; exact zmg_00 (b := 120) (by decide)
theorem zi_r_row : zrv (zmg zA0 zC0) 121 = fun _ => 0 := by
  funext p
  exact zmg_00 (b := 121) (by decide)
theorem zi_r_down : zrv (zmg zA0 zC0) 122 = fun _ => 0 := by
  funext p
  exact zmg_00 (b := 122) (by decide)
theorem zi_r_view : zrv (zmg zA0 zC0) 123 = fun _ => 0 := by
  funext p
  by_cases h : 0 ≤ p ∧ p < 3
  · rw [zvB (zk_view h) (by omega)]; exact zA0_z (by omega) (by omega) (by omega) (by omega) (by omega) (by omega) (by omega)
  · show zmg zA0 zC0 (zrk 123 p).1 (zrk 123 p).2 = 0
    rw [show zrk 123 p = (123, p) from if_neg h]; exact zmg_00 (b := 123) (by decide)
theorem zi_r_lied : zrv (zmg zA0 zC0) 125 = fun _ => 0 := by
  funext p
  by_cases h : 0 ≤ p ∧ p < 3
  · rw [zvB (zk_lied h) (by omega)]; exact zA0_z (by omega) (by omega) (by omega) (by omega) (by omega) (by omega) (by omega)
  · show zmg zA0 zC0 (zrk 125 p).1 (zrk 125 p).2 = 0
    rw [show zrk 125 p = (125, p) from if_neg h]; exact zmg_00 (b := 125) (by decide)
theorem zi_r_map : zrv (zmg zA0 zC0) 126 = fun _ => 0 := by
  funext p
  by_cases h : 0 ≤ p ∧ p < 12
  · rw [show p = 4 * (p / 4) + p % 4 by omega, zvB (zk_map (by omega) (by omega)) (by omega)]; exact zA0_z (by omega) (by omega) (by omega) (by omega) (by omega) (by omega) (by omega)
  · show zmg zA0 zC0 (zrk 126 p).1 (zrk 126 p).2 = 0
    rw [show zrk 126 p = (126, p) from if_neg h]; exact zmg_00 (b := 126) (by decide)
theorem zi_r_history : zrv (zmg zA0 zC0) 127 = fun _ => 0 := by
  funext p
  by_cases h : 0 ≤ p ∧ p < 1200
  · rw [show p = 400 * (p / 400) + p % 400 by omega, zvB (zk_history (by omega) (by omega)) (by omega)]; exact zA0_z (by omega) (by omega) (by omega) (by omega) (by omega) (by omega) (by omega)
  · show zmg zA0 zC0 (zrk 127 p).1 (zrk 127 p).2 = 0
    rw [show zrk 127 p = (127, p) from if_neg h]; exact zmg_00 (b := 127) (by decide)
theorem zi_r_done : zrv (zmg zA0 zC0) 128 = fun _ => 0 := by
  funext p
  by_cases h : 0 ≤ p ∧ p < 3
  · rw [zvB (zk_done h) (by omega)]; exact zA0_z (by omega) (by omega) (by omega) (by omega) (by omega) (by omega) (by omega)
  · show zmg zA0 zC0 (zrk 128 p).1 (zrk 128 p).2 = 0
    rw [show zrk 128 p = (128, p) from if_neg h]; exact zmg_00 (b := 128) (by decide)
theorem zi_r_last : zrv (zmg zA0 zC0) 129 = fun _ => 0 := by
  funext p
  by_cases h : 0 ≤ p ∧ p < 12
  · rw [show p = 4 * (p / 4) + p % 4 by omega, zvB (zk_last (by omega) (by omega)) (by omega)]; exact zA0_z (by omega) (by omega) (by omega) (by omega) (by omega) (by omega) (by omega)
  · show zmg zA0 zC0 (zrk 129 p).1 (zrk 129 p).2 = 0
    rw [show zrk 129 p = (129, p) from if_neg h]; exact zmg_00 (b := 129) (by decide)
theorem zi_r_hasReply : zrv (zmg zA0 zC0) 130 = fun _ => 0 := by
  funext p
  by_cases h : 0 ≤ p ∧ p < 180
  · rw [show p = 60 * (p / 60) + p % 60 by omega, zvB (zk_hasReply (by omega) (by omega)) (by omega)]; exact zA0_z (by omega) (by omega) (by omega) (by omega) (by omega) (by omega) (by omega)
  · show zmg zA0 zC0 (zrk 130 p).1 (zrk 130 p).2 = 0
    rw [show zrk 130 p = (130, p) from if_neg h]; exact zmg_00 (b := 130) (by decide)
theorem zi_r_replies : zrv (zmg zA0 zC0) 131 = fun _ => 0 := by
  funext p
  by_cases h : 0 ≤ p ∧ p < 180
  · rw [show p = 60 * (p / 60) + p % 60 by omega, zvB (zk_replies (by omega) (by omega)) (by omega)]; exact zA0_z (by omega) (by omega) (by omega) (by omega) (by omega) (by omega) (by omega)
  · show zmg zA0 zC0 (zrk 131 p).1 (zrk 131 p).2 = 0
    rw [show zrk 131 p = (131, p) from if_neg h]; exact zmg_00 (b := 131) (by decide)
theorem zi_r_got : zrv (zmg zA0 zC0) 132 = fun _ => 0 := by
  funext p
  by_cases h : 0 ≤ p ∧ p < 180
  · rw [show p = 60 * (p / 60) + p % 60 by omega, zvB (zk_got (by omega) (by omega)) (by omega)]; exact zA0_z (by omega) (by omega) (by omega) (by omega) (by omega) (by omega) (by omega)
  · show zmg zA0 zC0 (zrk 132 p).1 (zrk 132 p).2 = 0
    rw [show zrk 132 p = (132, p) from if_neg h]; exact zmg_00 (b := 132) (by decide)
theorem zi_r_gave : zrv (zmg zA0 zC0) 133 = fun _ => 0 := by
  funext p
  by_cases h : 0 ≤ p ∧ p < 180
  · rw [show p = 60 * (p / 60) + p % 60 by omega, zvB (zk_gave (by omega) (by omega)) (by omega)]; exact zA0_z (by omega) (by omega) (by omega) (by omega) (by omega) (by omega) (by omega)
  · show zmg zA0 zC0 (zrk 133 p).1 (zrk 133 p).2 = 0
    rw [show zrk 133 p = (133, p) from if_neg h]; exact zmg_00 (b := 133) (by decide)
theorem zi_r_brought : zrv (zmg zA0 zC0) 134 = fun _ => 0 := by
  funext p
  by_cases h : 0 ≤ p ∧ p < 909
  · rw [show p = 303 * (p / 303) + p % 303 by omega, zvB (zk_brought (by omega) (by omega)) (by omega)]; exact zA0_z (by omega) (by omega) (by omega) (by omega) (by omega) (by omega) (by omega)
  · show zmg zA0 zC0 (zrk 134 p).1 (zrk 134 p).2 = 0
    rw [show zrk 134 p = (134, p) from if_neg h]; exact zmg_00 (b := 134) (by decide)
theorem zi_r_prepares : zrv (zmg zA0 zC0) 137 = fun _ => 0 := by
  funext p
  by_cases h : 0 ≤ p ∧ p < 300
  · rw [show p = 100 * (p / 100) + p % 100 by omega, zvB (zk_prepares (by omega) (by omega)) (by omega)]; exact zA0_z (by omega) (by omega) (by omega) (by omega) (by omega) (by omega) (by omega)
  · show zmg zA0 zC0 (zrk 137 p).1 (zrk 137 p).2 = 0
    rw [show zrk 137 p = (137, p) from if_neg h]; exact zmg_00 (b := 137) (by decide)
theorem zi_r_prepared : zrv (zmg zA0 zC0) 138 = fun _ => 0 := by
  funext p
  by_cases h : 0 ≤ p ∧ p < 3
  · rw [zvB (zk_prepared h) (by omega)]; exact zA0_z (by omega) (by omega) (by omega) (by omega) (by omega) (by omega) (by omega)
  · show zmg zA0 zC0 (zrk 138 p).1 (zrk 138 p).2 = 0
    rw [show zrk 138 p = (138, p) from if_neg h]; exact zmg_00 (b := 138) (by decide)
theorem zi_r_prepareDone : zrv (zmg zA0 zC0) 139 = fun _ => 0 := by
  funext p
  by_cases h : 0 ≤ p ∧ p < 3
  · rw [zvB (zk_prepareDone h) (by omega)]; exact zA0_z (by omega) (by omega) (by omega) (by omega) (by omega) (by omega) (by omega)
  · show zmg zA0 zC0 (zrk 139 p).1 (zrk 139 p).2 = 0
    rw [show zrk 139 p = (139, p) from if_neg h]; exact zmg_00 (b := 139) (by decide)
theorem zi_r_openDone : zrv (zmg zA0 zC0) 140 = fun _ => 0 := by
  funext p
  exact zmg_00 (b := 140) (by decide)
theorem zi_r_votes : zrv (zmg zA0 zC0) 141 = fun _ => 0 := by
  funext p
  by_cases h : 0 ≤ p ∧ p < 303
  · rw [show p = 101 * (p / 101) + p % 101 by omega, zvB (zk_votes (by omega) (by omega)) (by omega)]; exact zA0_z (by omega) (by omega) (by omega) (by omega) (by omega) (by omega) (by omega)
  · show zmg zA0 zC0 (zrk 141 p).1 (zrk 141 p).2 = 0
    rw [show zrk 141 p = (141, p) from if_neg h]; exact zmg_00 (b := 141) (by decide)
theorem zi_r_changeRead : zrv (zmg zA0 zC0) 142 = fun _ => 0 := by
  funext p
  exact zmg_00 (b := 142) (by decide)
theorem zi_r_changeNumber : zrv (zmg zA0 zC0) 143 = fun _ => 0 := by
  funext p
  exact zmg_00 (b := 143) (by decide)
theorem zi_r_active (p : Int) : zrv (zmg zA0 zC0) 124 p = if 0 ≤ p ∧ p < 3 then 1 else 0 := by
  by_cases h : 0 ≤ p ∧ p < 3
  · rw [zvB (zk_active h) (by omega), if_pos h]; unfold zA0; (repeat' split) <;> first | rfl | omega
  · rw [if_neg h]
    show zmg zA0 zC0 (zrk 124 p).1 (zrk 124 p).2 = 0
    rw [show zrk 124 p = (124, p) from if_neg h]; exact zmg_00 (b := 124) (by decide)
theorem zi_r_next (p : Int) : zrv (zmg zA0 zC0) 135 p = if 0 ≤ p ∧ p < 9 then 1 else 0 := by
  by_cases h : 0 ≤ p ∧ p < 9
  · rw [if_pos h, show p = 3 * (p / 3) + p % 3 by omega, zvB (zk_next (by omega) (by omega)) (by omega)]; unfold zA0; (repeat' split) <;> first | rfl | omega
  · rw [if_neg h]
    show zmg zA0 zC0 (zrk 135 p).1 (zrk 135 p).2 = 0
    rw [show zrk 135 p = (135, p) from if_neg h]; exact zmg_00 (b := 135) (by decide)
theorem zi_r_asked (p : Int) : zrv (zmg zA0 zC0) 136 p = if 0 ≤ p ∧ p < 9 then -1 else 0 := by
  by_cases h : 0 ≤ p ∧ p < 9
  · rw [if_pos h, show p = 3 * (p / 3) + p % 3 by omega, zvB (zk_asked (by omega) (by omega)) (by omega)]; unfold zA0; (repeat' split) <;> first | rfl | omega
  · rw [if_neg h]
    show zmg zA0 zC0 (zrk 136 p).1 (zrk 136 p).2 = 0
    rw [show zrk 136 p = (136, p) from if_neg h]; exact zmg_00 (b := 136) (by decide)
theorem zupds_ne : ∀ (l : List (Nat × XE)) (f : Nat → XE) (b : Nat), (∀ q ∈ l, q.1 ≠ b) → zupds l f b = f b
  | [], f, b, _ => rfl
  | (a, x) :: r, f, b, h => by
    show zupds r (va_up f a x) b = f b
    rw [zupds_ne r _ b (fun q hq => h q (List.mem_cons_of_mem _ hq))]
    have := h (a, x) List.mem_cons_self
    simp only [va_up]
    rw [if_neg (fun e => this e.symm)]
theorem zlt_all {l : List (Nat × XE)} {n b : Nat} (h : l.all (fun q => decide (q.1 < n)) = true) (hb : n ≤ b) : ∀ q ∈ l, q.1 ≠ b := fun q hq => by
  have := List.all_eq_true.mp h q hq
  have := of_decide_eq_true this
  omega
set_option maxRecDepth 100000 in
theorem zi_hi {b : Nat} (hb : 144 ≤ b) : zh3 b = .inr (0, 0, .inl (fun _ => 0)) := by
  unfold zh3
  rw [zupds_ne _ _ _ (zlt_all (n := 144) rfl hb)]
  unfold zh2
  rw [zupds_ne _ _ _ (zlt_all (n := 144) rfl hb)]
  unfold zh1
  rw [zupds_ne _ _ _ (zlt_all (n := 144) rfl hb)]
  unfold zh1b
  rw [if_neg (by omega), if_neg (by omega)]
