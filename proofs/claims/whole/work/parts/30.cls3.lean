/-- one request done -/
def zdo (A : ZM) (t r : Int) : ZM :=
  let A1 := zup (zup A (70 + 17 * t) (A (67 + 17 * t) 6) r) (67 + 17 * t) 6 (A (67 + 17 * t) 6 + 1)
  if A 3 r ≤ A (69 + 17 * t) (A 2 r) then A1 else
  zup (zup (zup (zup A1 (69 + 17 * t) (A 2 r) (A 3 r)) (68 + 17 * t) (A 5 r) (if A 4 r = 0 then A (68 + 17 * t) (A 5 r) else if A 4 r = 1 then A 6 r else zwr (A (68 + 17 * t) (A 5 r) + A 6 r))) (71 + 17 * t) r 1) (72 + 17 * t) r (if A 4 r = 2 then zwr (A (68 + 17 * t) (A 5 r) + A 6 r) else A (68 + 17 * t) (A 5 r))
theorem zr_67' {d : Nat} {A B : ZM} {s : Int} (hs : 0 ≤ s ∧ s < 3) (hA : zRg A) {r w : Int} (hr : 0 ≤ r ∧ r < 60) : XR (d + 1) 67 [.ref (67 + 17 * s.toNat), zci r, zci w] (zhp A B) (none, zhp (zup (zup A (71 + 17 * s) r 1) (72 + 17 * s) r w) B) := by
  have h := zr_67 (d := d) (B := B) (w := w) hs hA (r := r) ⟨by omega, by omega⟩
  rw [if_pos hr] at h
  exact h
set_option maxRecDepth 10000 in
theorem zr_68 {d : Nat} {A B : ZM} {s : Int} (hs : 0 ≤ s ∧ s < 3) (hA : zRg A) {r : Int} (hr : 0 ≤ r ∧ r < A 1 6) (hq : A 1 6 ≤ 60) (hdn : 0 ≤ A (67 + 17 * s) 6 ∧ A (67 + 17 * s) 6 < 300) (hcl : 0 ≤ A 2 r ∧ A 2 r < 4) (hky : 0 ≤ A 5 r ∧ A 5 r < 4) (hgi : zrg (if A 4 r = 0 then A (68 + 17 * s) (A 5 r) else if A 4 r = 1 then A 6 r else zwr (A (68 + 17 * s) (A 5 r) + A 6 r))) : XR (d + 3) 68 [.ref (67 + 17 * s.toNat), zci (r)] (zhp A B) (none, zhp (zdo A s r) B) := by
  refine XR.of (Nat.le_of_ble_eq_true rfl) rfl ?_
  refine xg_step rfl rfl (fun k => rfl) ?_
  refine xg_get rfl rfl (zha (by omega)) (zc_Store hs) rfl rfl ?_
  refine xg_step rfl rfl (fun k => rfl) ?_
  refine zg_cvb rfl rfl rfl (Nat.le_of_ble_eq_true rfl) (zha (by decide)) zc_Requests rfl rfl (zr_35 hA (by first | assumption | exact hA _ _ | exact hB _ _ | exact zrg_max (by assumption) (hA _ _) | (constructor <;> omega))) (fun hc => ?_) (fun hc => ?_)
  ·
    refine xg_step rfl rfl (fun k => rfl) ?_
    refine xg_step rfl rfl (fun k => rfl) ?_
    refine xg_get rfl rfl (zha (by omega)) (zc_Store hs) rfl rfl ?_
    refine zg_si rfl (by decide) ?_
    refine zg_lt rfl rfl (fun x y k => rfl) (by first | assumption | exact hA _ _ | exact hB _ _ | exact zrg_max (by assumption) (hA _ _) | (constructor <;> omega)) (by first | assumption | exact hA _ _ | exact hB _ _ | exact zrg_max (by assumption) (hA _ _) | (constructor <;> omega)) (fun hc => ?_) (fun hc => ?_)
    ·
      refine xg_step rfl rfl (fun k => rfl) ?_
      refine xg_get rfl rfl (zha (by omega)) (zc_Store hs) rfl rfl ?_
      refine xg_step rfl rfl (fun k => rfl) ?_
      refine xg_get rfl rfl (zha (by omega)) (zc_Store hs) rfl rfl ?_
      refine xg_step rfl rfl (fun k => rfl) ?_
      refine zg_ast (.inl ⟨rfl, rfl⟩) (zha (by omega)) (zc_done hs) (by decide) ⟨by omega, by omega⟩ (zhwA (by omega) (zw_done hs)) ?_
      refine xg_step rfl rfl (fun k => rfl) ?_
      refine xg_step rfl rfl (fun k => rfl) ?_
      refine zg_geti (x := A (67 + 17 * s) 6) rfl rfl (zha (by omega)) (zc_Store hs) rfl (zup_ne (by omega)) ?_
      refine xg_step rfl rfl (fun k => rfl) ?_
      refine zg_add rfl ?_
      refine zg_put rfl rfl (zha (by omega)) (zc_Store hs) (Nat.le_of_ble_eq_true rfl) rfl zfitI rfl (zhwA (by omega) (zw_Store_6 hs)) ?_
      refine xg_step rfl rfl (fun k => rfl) ?_
      refine xg_get rfl rfl (zha (by omega)) (zc_Store hs) rfl rfl ?_
      refine xg_step rfl rfl (fun k => rfl) ?_
      refine zg_cvi rfl rfl rfl (Nat.le_of_ble_eq_true rfl) (zha (by decide)) zc_Requests rfl rfl (zreq (x := A 2 r) (zr_37 (zRg_up (zRg_up hA (by first | assumption | exact hA _ _ | exact hB _ _ | exact zrg_max (by assumption) (hA _ _) | (constructor <;> omega))) (by first | assumption | exact hA _ _ | exact hB _ _ | exact zrg_max (by assumption) (hA _ _) | (constructor <;> omega))) (by first | assumption | exact hA _ _ | exact hB _ _ | exact zrg_max (by assumption) (hA _ _) | (constructor <;> omega)) (by rw [show (zup (zup A (70 + 17 * s) (A (67 + 17 * s) 6) r) (67 + 17 * s) 6 ((A (67 + 17 * s) 6) + 1)) 1 6 = A 1 6 from ((zup_ne (by omega)).trans (zup_ne (by omega)))]; omega)) (by rw [show (zup (zup A (70 + 17 * s) (A (67 + 17 * s) 6) r) (67 + 17 * s) 6 ((A (67 + 17 * s) 6) + 1)) 1 6 = A 1 6 from ((zup_ne (by omega)).trans (zup_ne (by omega))), show (zup (zup A (70 + 17 * s) (A (67 + 17 * s) 6) r) (67 + 17 * s) 6 ((A (67 + 17 * s) 6) + 1)) 2 r = A 2 r from ((zup_ne (by omega)).trans (zup_ne (by omega))), if_pos (by omega)])) ?_
      refine xg_step rfl rfl (fun k => rfl) ?_
      refine xg_step rfl rfl (fun k => rfl) ?_
      refine xg_get rfl rfl (zha (by omega)) (zc_Store hs) rfl rfl ?_
      refine xg_step rfl rfl (fun k => rfl) ?_
      refine zg_cvi rfl rfl rfl (Nat.le_of_ble_eq_true rfl) (zha (by decide)) zc_Requests rfl rfl (zreq (x := A 3 r) (zr_38 (zRg_up (zRg_up hA (by first | assumption | exact hA _ _ | exact hB _ _ | exact zrg_max (by assumption) (hA _ _) | (constructor <;> omega))) (by first | assumption | exact hA _ _ | exact hB _ _ | exact zrg_max (by assumption) (hA _ _) | (constructor <;> omega))) (by first | assumption | exact hA _ _ | exact hB _ _ | exact zrg_max (by assumption) (hA _ _) | (constructor <;> omega)) (by rw [show (zup (zup A (70 + 17 * s) (A (67 + 17 * s) 6) r) (67 + 17 * s) 6 ((A (67 + 17 * s) 6) + 1)) 1 6 = A 1 6 from ((zup_ne (by omega)).trans (zup_ne (by omega)))]; omega)) (by rw [show (zup (zup A (70 + 17 * s) (A (67 + 17 * s) 6) r) (67 + 17 * s) 6 ((A (67 + 17 * s) 6) + 1)) 1 6 = A 1 6 from ((zup_ne (by omega)).trans (zup_ne (by omega))), show (zup (zup A (70 + 17 * s) (A (67 + 17 * s) 6) r) (67 + 17 * s) 6 ((A (67 + 17 * s) 6) + 1)) 3 r = A 3 r from ((zup_ne (by omega)).trans (zup_ne (by omega))), if_pos (by omega)])) ?_
      refine xg_step rfl rfl (fun k => rfl) ?_
      refine xg_step rfl rfl (fun k => rfl) ?_
      refine xg_get rfl rfl (zha (by omega)) (zc_Store hs) rfl rfl ?_
      refine xg_step rfl rfl (fun k => rfl) ?_
      refine zg_cvi rfl rfl rfl (Nat.le_of_ble_eq_true rfl) (zha (by decide)) zc_Requests rfl rfl (zreq (x := A 5 r) (zr_39 (zRg_up (zRg_up hA (by first | assumption | exact hA _ _ | exact hB _ _ | exact zrg_max (by assumption) (hA _ _) | (constructor <;> omega))) (by first | assumption | exact hA _ _ | exact hB _ _ | exact zrg_max (by assumption) (hA _ _) | (constructor <;> omega))) (by first | assumption | exact hA _ _ | exact hB _ _ | exact zrg_max (by assumption) (hA _ _) | (constructor <;> omega)) (by rw [show (zup (zup A (70 + 17 * s) (A (67 + 17 * s) 6) r) (67 + 17 * s) 6 ((A (67 + 17 * s) 6) + 1)) 1 6 = A 1 6 from ((zup_ne (by omega)).trans (zup_ne (by omega)))]; omega)) (by rw [show (zup (zup A (70 + 17 * s) (A (67 + 17 * s) 6) r) (67 + 17 * s) 6 ((A (67 + 17 * s) 6) + 1)) 1 6 = A 1 6 from ((zup_ne (by omega)).trans (zup_ne (by omega))), show (zup (zup A (70 + 17 * s) (A (67 + 17 * s) 6) r) (67 + 17 * s) 6 ((A (67 + 17 * s) 6) + 1)) 5 r = A 5 r from ((zup_ne (by omega)).trans (zup_ne (by omega))), if_pos (by omega)])) ?_
      refine xg_step rfl rfl (fun k => rfl) ?_
      refine xg_step rfl rfl (fun k => rfl) ?_
      refine zg_lt0 rfl rfl (fun x k => rfl) (by first | assumption | exact hA _ _ | exact hB _ _ | exact zrg_max (by assumption) (hA _ _) | (constructor <;> omega)) (fun hc => ?_) (fun hc => ?_)
      ·
        refine zg_ret rfl rfl ?_
        unfold zdo; dsimp only; (repeat' split) <;> first | rfl | omega
      ·
        refine xg_step rfl rfl (fun k => rfl) ?_
        refine zg_lt0 rfl rfl (fun x k => rfl) (by first | assumption | exact hA _ _ | exact hB _ _ | exact zrg_max (by assumption) (hA _ _) | (constructor <;> omega)) (fun hc => ?_) (fun hc => ?_)
        ·
          refine zg_ret rfl rfl ?_
          unfold zdo; dsimp only; (repeat' split) <;> first | rfl | omega
        ·
          refine xg_step rfl rfl (fun k => rfl) ?_
          refine xg_step rfl rfl (fun k => rfl) ?_
          refine xg_get rfl rfl (zha (by omega)) (zc_Store hs) rfl rfl ?_
          refine xg_step rfl rfl (fun k => rfl) ?_
          refine zg_ald (x := A (69 + 17 * s) (A 2 r)) (.inl ⟨rfl, rfl⟩) (zha (by omega)) (zc_lastDone hs) (by decide) ⟨by omega, by omega⟩ ((zup_ne (by omega)).trans (zup_ne (by omega))) ?_
          refine zg_gt rfl rfl (fun x y k => rfl) (by first | assumption | exact hA _ _ | exact hB _ _ | exact zrg_max (by assumption) (hA _ _) | (constructor <;> omega)) (by first | assumption | exact hA _ _ | exact hB _ _ | exact zrg_max (by assumption) (hA _ _) | (constructor <;> omega)) (fun hc => ?_) (fun hc => ?_)
          ·
            refine xg_step rfl rfl (fun k => rfl) ?_
            refine xg_get rfl rfl (zha (by omega)) (zc_Store hs) rfl rfl ?_
            refine xg_step rfl rfl (fun k => rfl) ?_
            refine xg_step rfl rfl (fun k => rfl) ?_
            refine zg_ast (.inl ⟨rfl, rfl⟩) (zha (by omega)) (zc_lastDone hs) (by decide) ⟨by omega, by omega⟩ (zhwA (by omega) (zw_lastDone hs)) ?_
            refine xg_step rfl rfl (fun k => rfl) ?_
            refine xg_get rfl rfl (zha (by omega)) (zc_Store hs) rfl rfl ?_
            refine xg_step rfl rfl (fun k => rfl) ?_
            refine zg_ald (x := A (68 + 17 * s) (A 5 r)) (.inl ⟨rfl, rfl⟩) (zha (by omega)) (zc_values hs) (by decide) ⟨by omega, by omega⟩ ((zup_ne (by omega)).trans ((zup_ne (by omega)).trans (zup_ne (by omega)))) ?_
            refine xg_step rfl rfl (fun k => rfl) ?_
            refine xg_step rfl rfl (fun k => rfl) ?_
            refine xg_get rfl rfl (zha (by omega)) (zc_Store hs) rfl rfl ?_
            refine xg_step rfl rfl (fun k => rfl) ?_
            refine xg_step rfl rfl (fun k => rfl) ?_
            refine xg_get rfl rfl (zha (by omega)) (zc_Store hs) rfl rfl ?_
            refine xg_step rfl rfl (fun k => rfl) ?_
            refine xg_step rfl rfl (fun k => rfl) ?_
            refine zg_cvi rfl rfl rfl (Nat.le_of_ble_eq_true rfl) (zha (by decide)) zc_Requests rfl rfl (zreq (x := if A 4 r = 0 then A (68 + 17 * s) (A 5 r) else if A 4 r = 1 then A 6 r else zwr (A (68 + 17 * s) (A 5 r) + A 6 r)) (zr_40 (zRg_up (zRg_up (zRg_up hA (by first | assumption | exact hA _ _ | exact hB _ _ | exact zrg_max (by assumption) (hA _ _) | (constructor <;> omega))) (by first | assumption | exact hA _ _ | exact hB _ _ | exact zrg_max (by assumption) (hA _ _) | (constructor <;> omega))) (by first | assumption | exact hA _ _ | exact hB _ _ | exact zrg_max (by assumption) (hA _ _) | (constructor <;> omega))) (by first | assumption | exact hA _ _ | exact hB _ _ | exact zrg_max (by assumption) (hA _ _) | (constructor <;> omega)) (by rw [show (zup (zup (zup A (70 + 17 * s) (A (67 + 17 * s) 6) r) (67 + 17 * s) 6 ((A (67 + 17 * s) 6) + 1)) (69 + 17 * s) (A 2 r) (A 3 r)) 1 6 = A 1 6 from ((zup_ne (by omega)).trans ((zup_ne (by omega)).trans (zup_ne (by omega))))]; omega) (by first | assumption | exact hA _ _ | exact hB _ _ | exact zrg_max (by assumption) (hA _ _) | (constructor <;> omega))) (by rw [show (zup (zup (zup A (70 + 17 * s) (A (67 + 17 * s) 6) r) (67 + 17 * s) 6 ((A (67 + 17 * s) 6) + 1)) (69 + 17 * s) (A 2 r) (A 3 r)) 1 6 = A 1 6 from ((zup_ne (by omega)).trans ((zup_ne (by omega)).trans (zup_ne (by omega)))), show (zup (zup (zup A (70 + 17 * s) (A (67 + 17 * s) 6) r) (67 + 17 * s) 6 ((A (67 + 17 * s) 6) + 1)) (69 + 17 * s) (A 2 r) (A 3 r)) 4 r = A 4 r from ((zup_ne (by omega)).trans ((zup_ne (by omega)).trans (zup_ne (by omega)))), show (zup (zup (zup A (70 + 17 * s) (A (67 + 17 * s) 6) r) (67 + 17 * s) 6 ((A (67 + 17 * s) 6) + 1)) (69 + 17 * s) (A 2 r) (A 3 r)) 6 r = A 6 r from ((zup_ne (by omega)).trans ((zup_ne (by omega)).trans (zup_ne (by omega)))), if_pos (by omega)])) ?_
            refine zg_ast (.inl ⟨rfl, rfl⟩) (zha (by omega)) (zc_values hs) (by decide) ⟨by omega, by omega⟩ (zhwA (by omega) (zw_values hs)) ?_
            refine xg_step rfl rfl (fun k => rfl) ?_
            refine xg_step rfl rfl (fun k => rfl) ?_
            refine xg_step rfl rfl (fun k => rfl) ?_
            refine xg_get rfl rfl (zha (by omega)) (zc_Store hs) rfl rfl ?_
            refine xg_step rfl rfl (fun k => rfl) ?_
            refine xg_step rfl rfl (fun k => rfl) ?_
            refine zg_cvi rfl rfl rfl (Nat.le_of_ble_eq_true rfl) (zha (by decide)) zc_Requests rfl rfl (zreq (x := if A 4 r = 2 then zwr (A (68 + 17 * s) (A 5 r) + A 6 r) else A (68 + 17 * s) (A 5 r)) (zr_41 (zRg_up (zRg_up (zRg_up (zRg_up hA (by first | assumption | exact hA _ _ | exact hB _ _ | exact zrg_max (by assumption) (hA _ _) | (constructor <;> omega))) (by first | assumption | exact hA _ _ | exact hB _ _ | exact zrg_max (by assumption) (hA _ _) | (constructor <;> omega))) (by first | assumption | exact hA _ _ | exact hB _ _ | exact zrg_max (by assumption) (hA _ _) | (constructor <;> omega))) (by first | assumption | exact hA _ _ | exact hB _ _ | exact zrg_max (by assumption) (hA _ _) | (constructor <;> omega))) (by first | assumption | exact hA _ _ | exact hB _ _ | exact zrg_max (by assumption) (hA _ _) | (constructor <;> omega)) (by rw [show (zup (zup (zup (zup A (70 + 17 * s) (A (67 + 17 * s) 6) r) (67 + 17 * s) 6 ((A (67 + 17 * s) 6) + 1)) (69 + 17 * s) (A 2 r) (A 3 r)) (68 + 17 * s) (A 5 r) (if A 4 r = 0 then A (68 + 17 * s) (A 5 r) else if A 4 r = 1 then A 6 r else zwr (A (68 + 17 * s) (A 5 r) + A 6 r))) 1 6 = A 1 6 from ((zup_ne (by omega)).trans ((zup_ne (by omega)).trans ((zup_ne (by omega)).trans (zup_ne (by omega)))))]; omega) (by first | assumption | exact hA _ _ | exact hB _ _ | exact zrg_max (by assumption) (hA _ _) | (constructor <;> omega))) (by rw [show (zup (zup (zup (zup A (70 + 17 * s) (A (67 + 17 * s) 6) r) (67 + 17 * s) 6 ((A (67 + 17 * s) 6) + 1)) (69 + 17 * s) (A 2 r) (A 3 r)) (68 + 17 * s) (A 5 r) (if A 4 r = 0 then A (68 + 17 * s) (A 5 r) else if A 4 r = 1 then A 6 r else zwr (A (68 + 17 * s) (A 5 r) + A 6 r))) 1 6 = A 1 6 from ((zup_ne (by omega)).trans ((zup_ne (by omega)).trans ((zup_ne (by omega)).trans (zup_ne (by omega))))), show (zup (zup (zup (zup A (70 + 17 * s) (A (67 + 17 * s) 6) r) (67 + 17 * s) 6 ((A (67 + 17 * s) 6) + 1)) (69 + 17 * s) (A 2 r) (A 3 r)) (68 + 17 * s) (A 5 r) (if A 4 r = 0 then A (68 + 17 * s) (A 5 r) else if A 4 r = 1 then A 6 r else zwr (A (68 + 17 * s) (A 5 r) + A 6 r))) 4 r = A 4 r from ((zup_ne (by omega)).trans ((zup_ne (by omega)).trans ((zup_ne (by omega)).trans (zup_ne (by omega))))), show (zup (zup (zup (zup A (70 + 17 * s) (A (67 + 17 * s) 6) r) (67 + 17 * s) 6 ((A (67 + 17 * s) 6) + 1)) (69 + 17 * s) (A 2 r) (A 3 r)) (68 + 17 * s) (A 5 r) (if A 4 r = 0 then A (68 + 17 * s) (A 5 r) else if A 4 r = 1 then A 6 r else zwr (A (68 + 17 * s) (A 5 r) + A 6 r))) 6 r = A 6 r from ((zup_ne (by omega)).trans ((zup_ne (by omega)).trans ((zup_ne (by omega)).trans (zup_ne (by omega)))))]; (repeat' split) <;> first | rfl | omega)) ?_
            refine zg_cvv rfl rfl rfl (Nat.le_of_ble_eq_true rfl) (zha (by omega)) (zc_Store hs) rfl rfl (zr_67' hs (zRg_up (zRg_up (zRg_up (zRg_up hA (by first | assumption | exact hA _ _ | exact hB _ _ | exact zrg_max (by assumption) (hA _ _) | (constructor <;> omega))) (by first | assumption | exact hA _ _ | exact hB _ _ | exact zrg_max (by assumption) (hA _ _) | (constructor <;> omega))) (by first | assumption | exact hA _ _ | exact hB _ _ | exact zrg_max (by assumption) (hA _ _) | (constructor <;> omega))) (by first | assumption | exact hA _ _ | exact hB _ _ | exact zrg_max (by assumption) (hA _ _) | (constructor <;> omega))) (by omega)) ?_
            refine zg_ret rfl rfl ?_
            unfold zdo; dsimp only; (repeat' split) <;> first | rfl | omega
          ·
            refine zg_ret rfl rfl ?_
            unfold zdo; dsimp only; (repeat' split) <;> first | rfl | omega
    ·
      refine zg_ret rfl rfl ?_
      unfold zdo; dsimp only; (repeat' split) <;> first | rfl | omega
  ·
    refine xg_step rfl rfl (fun k => rfl) ?_
    refine zg_ret rfl rfl ?_
    unfold zdo; dsimp only; (repeat' split) <;> first | rfl | omega
/-- what is VOID as it is entered -/
abbrev zOf (A : ZM) (s k kd v : Int) : Prop := (1 ≤ k ∧ k ≤ A (44 + 2 * s) 1) ∧ A (45 + 2 * s) (k * 5 + 0) = kd ∧ A (45 + 2 * s) (k * 5 + 1) = v
abbrev zVD (A : ZM) (s kd v a b : Int) : Prop := kd ≠ 2 ∧ (v < A (44 + 2 * s) 2 ∨ (kd = 0 ∧ (v % 3 ≠ s ∨ (0 < v ∧ A 10 v = 0))) ∨ (kd = 1 ∧ (v % 3 = s ∨ ¬ ((0 < a ∧ a = A 10 v) ∨ (zOf A (v % 3) a 0 v ∧ A (45 + 2 * (v % 3)) (a * 5 + 4) = 0)))) ∨ (kd = 3 ∧ (v % 3 ≠ s ∨ v = 0 ∨ a % 3 = b % 3 ∨ ¬ zOf A (a % 3) (a / 3) 2 v ∨ ¬ zOf A (b % 3) (b / 3) 2 v)))
set_option maxRecDepth 10000 in
theorem zr_12 {d : Nat} {A B : ZM} (hA : zRg A) (hcN : ∀ s, 0 ≤ s ∧ s < 3 → 0 ≤ A (44 + 2 * s) 1 ∧ A (44 + 2 * s) 1 ≤ 100) {s kd v a b : Int} (hs : 0 ≤ s ∧ s < 3) (hkd : 0 ≤ kd ∧ kd < 4) (hv : 0 ≤ v ∧ v < 31) (ha : 0 ≤ a ∧ a < 1000) (hb : 0 ≤ b ∧ b < 1000) : XR (d + 3) 12 [.ref 8, zci (s), zci (kd), zci (v), zci (a), zci (b)] (zhp A B) (some (zci (zb2 (zVD A s kd v a b))), zhp A B) := by
  refine XR.of (Nat.le_of_ble_eq_true rfl) rfl ?_
  refine xg_step rfl rfl (fun k => rfl) ?_
  refine xg_step rfl rfl (fun k => rfl) ?_
  refine zg_eq rfl rfl (fun x y k => rfl) (by first | assumption | exact hA _ _ | exact hB _ _ | exact zrg_max (by assumption) (hA _ _) | (constructor <;> omega)) (by first | assumption | exact hA _ _ | exact hB _ _ | exact zrg_max (by assumption) (hA _ _) | (constructor <;> omega)) (fun hc => ?_) (fun hc => ?_)
  ·
    refine xg_step rfl rfl (fun k => rfl) ?_
    refine zg_iret rfl rfl (zfitZ (by omega)) ?_
    exact zl0 (by simp only [zVD, zOf]; omega)
  ·
    refine xg_step rfl rfl (fun k => rfl) ?_
    refine xg_get rfl rfl (zha (by decide)) zc_Book rfl rfl ?_
    refine xg_step rfl rfl (fun k => rfl) ?_
    refine zg_aald rfl (zha (by decide)) zc_counters (by decide) (by decide) ⟨by omega, by omega⟩ (if_pos (by omega)) ?_
    refine xg_get rfl rfl (zha (by omega)) (zc_Counter hs) rfl rfl ?_
    refine xg_step rfl rfl (fun k => rfl) ?_
    refine zg_gt rfl rfl (fun x y k => rfl) (by first | assumption | exact hA _ _ | exact hB _ _ | exact zrg_max (by assumption) (hA _ _) | (constructor <;> omega)) (by first | assumption | exact hA _ _ | exact hB _ _ | exact zrg_max (by assumption) (hA _ _) | (constructor <;> omega)) (fun hc => ?_) (fun hc => ?_)
    ·
      refine xg_step rfl rfl (fun k => rfl) ?_
      refine zg_iret rfl rfl (zfitZ (by omega)) ?_
      exact zl1 (by simp only [zVD, zOf]; omega)
    ·
      refine xg_step rfl rfl (fun k => rfl) ?_
      refine zg_csi rfl rfl (by decide) rfl rfl (Nat.le_of_ble_eq_true rfl) rfl (zr_99 hA (by omega)) ?_
      refine xg_step rfl rfl (fun k => rfl) ?_
      refine xg_step rfl rfl (fun k => rfl) ?_
      refine zg_eq0 rfl rfl (fun x k => rfl) (by first | assumption | exact hA _ _ | exact hB _ _ | exact zrg_max (by assumption) (hA _ _) | (constructor <;> omega)) (fun hc => ?_) (fun hc => ?_)
      ·
        refine xg_step rfl rfl (fun k => rfl) ?_
        refine xg_step rfl rfl (fun k => rfl) ?_
        refine zg_eq rfl rfl (fun x y k => rfl) (by first | assumption | exact hA _ _ | exact hB _ _ | exact zrg_max (by assumption) (hA _ _) | (constructor <;> omega)) (by first | assumption | exact hA _ _ | exact hB _ _ | exact zrg_max (by assumption) (hA _ _) | (constructor <;> omega)) (fun hc => ?_) (fun hc => ?_)
        ·
          refine xg_step rfl rfl (fun k => rfl) ?_
          refine zg_gt0 rfl rfl (fun x k => rfl) (by first | assumption | exact hA _ _ | exact hB _ _ | exact zrg_max (by assumption) (hA _ _) | (constructor <;> omega)) (fun hc => ?_) (fun hc => ?_)
          ·
            refine xg_step rfl rfl (fun k => rfl) ?_
            refine xg_get rfl rfl (zha (by decide)) zc_Book rfl rfl ?_
            refine xg_step rfl rfl (fun k => rfl) ?_
            refine zg_ald (.inl ⟨rfl, rfl⟩) (zha (by decide)) zc_openings (by decide) ⟨by omega, by omega⟩ rfl ?_
            refine zg_eq0 rfl rfl (fun x k => rfl) (by first | assumption | exact hA _ _ | exact hB _ _ | exact zrg_max (by assumption) (hA _ _) | (constructor <;> omega)) (fun hc => ?_) (fun hc => ?_)
            ·
              refine xg_step rfl rfl (fun k => rfl) ?_
              refine xg_step rfl rfl (fun k => rfl) ?_
              refine zg_iret rfl rfl (zfitZ (by omega)) ?_
              exact zl1 (by simp only [zVD, zOf]; omega)
            ·
              refine xg_step rfl rfl (fun k => rfl) ?_
              refine zg_iret rfl rfl (zfitZ (by omega)) ?_
              exact zl0 (by simp only [zVD, zOf]; omega)
          ·
            refine xg_step rfl rfl (fun k => rfl) ?_
            refine zg_iret rfl rfl (zfitZ (by omega)) ?_
            exact zl0 (by simp only [zVD, zOf]; omega)
        ·
          refine xg_step rfl rfl (fun k => rfl) ?_
          refine xg_step rfl rfl (fun k => rfl) ?_
          refine zg_iret rfl rfl (zfitZ (by omega)) ?_
          exact zl1 (by simp only [zVD, zOf]; omega)
      ·
        refine xg_step rfl rfl (fun k => rfl) ?_
        refine xg_step rfl rfl (fun k => rfl) ?_
        refine zg_eq rfl rfl (fun x y k => rfl) (by first | assumption | exact hA _ _ | exact hB _ _ | exact zrg_max (by assumption) (hA _ _) | (constructor <;> omega)) (by first | assumption | exact hA _ _ | exact hB _ _ | exact zrg_max (by assumption) (hA _ _) | (constructor <;> omega)) (fun hc => ?_) (fun hc => ?_)
        ·
          refine xg_step rfl rfl (fun k => rfl) ?_
          refine xg_get rfl rfl (zha (by decide)) zc_Book rfl rfl ?_
          refine xg_step rfl rfl (fun k => rfl) ?_
          refine zg_aald rfl (zha (by decide)) zc_counters (by decide) (by decide) ⟨by omega, by omega⟩ (if_pos (by omega)) ?_
          refine xg_step rfl rfl (fun k => rfl) ?_
          refine xg_step rfl rfl (fun k => rfl) ?_
          refine zg_gt0 rfl rfl (fun x k => rfl) (by first | assumption | exact hA _ _ | exact hB _ _ | exact zrg_max (by assumption) (hA _ _) | (constructor <;> omega)) (fun hc => ?_) (fun hc => ?_)
          ·
            refine xg_step rfl rfl (fun k => rfl) ?_
            refine xg_step rfl rfl (fun k => rfl) ?_
            refine xg_get rfl rfl (zha (by decide)) zc_Book rfl rfl ?_
            refine xg_step rfl rfl (fun k => rfl) ?_
            refine zg_ald (.inl ⟨rfl, rfl⟩) (zha (by decide)) zc_openings (by decide) ⟨by omega, by omega⟩ rfl ?_
            refine zg_eq rfl rfl (fun x y k => rfl) (by first | assumption | exact hA _ _ | exact hB _ _ | exact zrg_max (by assumption) (hA _ _) | (constructor <;> omega)) (by first | assumption | exact hA _ _ | exact hB _ _ | exact zrg_max (by assumption) (hA _ _) | (constructor <;> omega)) (fun hc => ?_) (fun hc => ?_)
            ·
              refine xg_step rfl rfl (fun k => rfl) ?_
              refine xg_step rfl rfl (fun k => rfl) ?_
              refine xg_step rfl rfl (fun k => rfl) ?_
              refine xg_step rfl rfl (fun k => rfl) ?_
              refine xg_step rfl rfl (fun k => rfl) ?_
              refine xg_step rfl rfl (fun k => rfl) ?_
              refine xg_step rfl rfl (fun k => rfl) ?_
              refine zg_cvb rfl rfl rfl (Nat.le_of_ble_eq_true rfl) (zha (by omega)) (zc_Counter (by omega)) rfl rfl (zr_21 (by omega) hA (by first | assumption | exact hA _ _ | exact hB _ _ | exact zrg_max (by assumption) (hA _ _) | (constructor <;> omega)) (by first | assumption | exact hA _ _ | exact hB _ _ | exact zrg_max (by assumption) (hA _ _) | (constructor <;> omega)) (by first | assumption | exact hA _ _ | exact hB _ _ | exact zrg_max (by assumption) (hA _ _) | (constructor <;> omega)) (hcN _ (by omega))) (fun hc => ?_) (fun hc => ?_)
              ·
                refine xg_step rfl rfl (fun k => rfl) ?_
                refine xg_step rfl rfl (fun k => rfl) ?_
                refine xg_step rfl rfl (fun k => rfl) ?_
                refine xg_step rfl rfl (fun k => rfl) ?_
                refine zg_cvi rfl rfl rfl (Nat.le_of_ble_eq_true rfl) (zha (by omega)) (zc_Counter (by omega)) rfl rfl (zreq (x := A (45 + 2 * (v % 3)) (a * 5 + 4)) (zr_20 (by omega) hA (by first | assumption | exact hA _ _ | exact hB _ _ | exact zrg_max (by assumption) (hA _ _) | (constructor <;> omega)) (by first | assumption | exact hA _ _ | exact hB _ _ | exact zrg_max (by assumption) (hA _ _) | (constructor <;> omega)) (hcN _ (by omega))) (by rw [if_pos (by omega)])) ?_
                refine zg_eq0 rfl rfl (fun x k => rfl) (by first | assumption | exact hA _ _ | exact hB _ _ | exact zrg_max (by assumption) (hA _ _) | (constructor <;> omega)) (fun hc => ?_) (fun hc => ?_)
                ·
                  refine xg_step rfl rfl (fun k => rfl) ?_
                  refine xg_step rfl rfl (fun k => rfl) ?_
                  refine xg_step rfl rfl (fun k => rfl) ?_
                  refine xg_step rfl rfl (fun k => rfl) ?_
                  refine xg_step rfl rfl (fun k => rfl) ?_
                  refine zg_eq rfl rfl (fun x y k => rfl) (by first | assumption | exact hA _ _ | exact hB _ _ | exact zrg_max (by assumption) (hA _ _) | (constructor <;> omega)) (by first | assumption | exact hA _ _ | exact hB _ _ | exact zrg_max (by assumption) (hA _ _) | (constructor <;> omega)) (fun hc => ?_) (fun hc => ?_)
                  ·
                    refine xg_step rfl rfl (fun k => rfl) ?_
                    refine xg_step rfl rfl (fun k => rfl) ?_
                    refine zg_iret rfl rfl (zfitZ (by omega)) ?_
                    exact zl1 (by simp only [zVD, zOf]; omega)
                  ·
                    refine xg_step rfl rfl (fun k => rfl) ?_
                    refine xg_step rfl rfl (fun k => rfl) ?_
                    refine xg_step rfl rfl (fun k => rfl) ?_
                    refine zg_iret rfl rfl (zfitZ (by omega)) ?_
                    exact zl0 (by simp only [zVD, zOf]; omega)
                ·
                  refine xg_step rfl rfl (fun k => rfl) ?_
                  refine xg_step rfl rfl (fun k => rfl) ?_
                  refine xg_step rfl rfl (fun k => rfl) ?_
                  refine xg_step rfl rfl (fun k => rfl) ?_
                  refine zg_eq rfl rfl (fun x y k => rfl) (by first | assumption | exact hA _ _ | exact hB _ _ | exact zrg_max (by assumption) (hA _ _) | (constructor <;> omega)) (by first | assumption | exact hA _ _ | exact hB _ _ | exact zrg_max (by assumption) (hA _ _) | (constructor <;> omega)) (fun hc => ?_) (fun hc => ?_)
                  ·
                    refine xg_step rfl rfl (fun k => rfl) ?_
                    refine xg_step rfl rfl (fun k => rfl) ?_
                    refine zg_iret rfl rfl (zfitZ (by omega)) ?_
                    exact zl1 (by simp only [zVD, zOf]; omega)
                  ·
                    refine xg_step rfl rfl (fun k => rfl) ?_
                    refine xg_step rfl rfl (fun k => rfl) ?_
                    refine xg_step rfl rfl (fun k => rfl) ?_
                    refine zg_iret rfl rfl (zfitZ (by omega)) ?_
                    exact zl0 (by simp only [zVD, zOf]; omega)
              ·
                refine xg_step rfl rfl (fun k => rfl) ?_
                refine xg_step rfl rfl (fun k => rfl) ?_
                refine xg_step rfl rfl (fun k => rfl) ?_
                refine xg_step rfl rfl (fun k => rfl) ?_
                refine xg_step rfl rfl (fun k => rfl) ?_
                refine zg_eq rfl rfl (fun x y k => rfl) (by first | assumption | exact hA _ _ | exact hB _ _ | exact zrg_max (by assumption) (hA _ _) | (constructor <;> omega)) (by first | assumption | exact hA _ _ | exact hB _ _ | exact zrg_max (by assumption) (hA _ _) | (constructor <;> omega)) (fun hc => ?_) (fun hc => ?_)
                ·
                  refine xg_step rfl rfl (fun k => rfl) ?_
                  refine xg_step rfl rfl (fun k => rfl) ?_
                  refine zg_iret rfl rfl (zfitZ (by omega)) ?_
                  exact zl1 (by simp only [zVD, zOf]; omega)
                ·
                  refine xg_step rfl rfl (fun k => rfl) ?_
                  refine xg_step rfl rfl (fun k => rfl) ?_
                  refine xg_step rfl rfl (fun k => rfl) ?_
                  refine zg_iret rfl rfl (zfitZ (by omega)) ?_
                  exact zl0 (by simp only [zVD, zOf]; omega)
            ·
              refine xg_step rfl rfl (fun k => rfl) ?_
              refine xg_step rfl rfl (fun k => rfl) ?_
              refine xg_step rfl rfl (fun k => rfl) ?_
              refine xg_step rfl rfl (fun k => rfl) ?_
              refine xg_step rfl rfl (fun k => rfl) ?_
              refine xg_step rfl rfl (fun k => rfl) ?_
              refine zg_cvb rfl rfl rfl (Nat.le_of_ble_eq_true rfl) (zha (by omega)) (zc_Counter (by omega)) rfl rfl (zr_21 (by omega) hA (by first | assumption | exact hA _ _ | exact hB _ _ | exact zrg_max (by assumption) (hA _ _) | (constructor <;> omega)) (by first | assumption | exact hA _ _ | exact hB _ _ | exact zrg_max (by assumption) (hA _ _) | (constructor <;> omega)) (by first | assumption | exact hA _ _ | exact hB _ _ | exact zrg_max (by assumption) (hA _ _) | (constructor <;> omega)) (hcN _ (by omega))) (fun hc => ?_) (fun hc => ?_)
              ·
                refine xg_step rfl rfl (fun k => rfl) ?_
                refine xg_step rfl rfl (fun k => rfl) ?_
                refine xg_step rfl rfl (fun k => rfl) ?_
                refine xg_step rfl rfl (fun k => rfl) ?_
                refine zg_cvi rfl rfl rfl (Nat.le_of_ble_eq_true rfl) (zha (by omega)) (zc_Counter (by omega)) rfl rfl (zreq (x := A (45 + 2 * (v % 3)) (a * 5 + 4)) (zr_20 (by omega) hA (by first | assumption | exact hA _ _ | exact hB _ _ | exact zrg_max (by assumption) (hA _ _) | (constructor <;> omega)) (by first | assumption | exact hA _ _ | exact hB _ _ | exact zrg_max (by assumption) (hA _ _) | (constructor <;> omega)) (hcN _ (by omega))) (by rw [if_pos (by omega)])) ?_
                refine zg_eq0 rfl rfl (fun x k => rfl) (by first | assumption | exact hA _ _ | exact hB _ _ | exact zrg_max (by assumption) (hA _ _) | (constructor <;> omega)) (fun hc => ?_) (fun hc => ?_)
                ·
                  refine xg_step rfl rfl (fun k => rfl) ?_
                  refine xg_step rfl rfl (fun k => rfl) ?_
                  refine xg_step rfl rfl (fun k => rfl) ?_
                  refine xg_step rfl rfl (fun k => rfl) ?_
                  refine xg_step rfl rfl (fun k => rfl) ?_
                  refine zg_eq rfl rfl (fun x y k => rfl) (by first | assumption | exact hA _ _ | exact hB _ _ | exact zrg_max (by assumption) (hA _ _) | (constructor <;> omega)) (by first | assumption | exact hA _ _ | exact hB _ _ | exact zrg_max (by assumption) (hA _ _) | (constructor <;> omega)) (fun hc => ?_) (fun hc => ?_)
                  ·
                    refine xg_step rfl rfl (fun k => rfl) ?_
                    refine xg_step rfl rfl (fun k => rfl) ?_
                    refine zg_iret rfl rfl (zfitZ (by omega)) ?_
                    exact zl1 (by simp only [zVD, zOf]; omega)
                  ·
                    refine xg_step rfl rfl (fun k => rfl) ?_
                    refine xg_step rfl rfl (fun k => rfl) ?_
                    refine xg_step rfl rfl (fun k => rfl) ?_
                    refine xg_step rfl rfl (fun k => rfl) ?_
                    refine xg_step rfl rfl (fun k => rfl) ?_
                    refine zg_iret rfl rfl (zfitZ (by omega)) ?_
                    exact zl0 (by simp only [zVD, zOf]; omega)
                ·
                  refine xg_step rfl rfl (fun k => rfl) ?_
                  refine xg_step rfl rfl (fun k => rfl) ?_
                  refine xg_step rfl rfl (fun k => rfl) ?_
                  refine xg_step rfl rfl (fun k => rfl) ?_
                  refine zg_eq rfl rfl (fun x y k => rfl) (by first | assumption | exact hA _ _ | exact hB _ _ | exact zrg_max (by assumption) (hA _ _) | (constructor <;> omega)) (by first | assumption | exact hA _ _ | exact hB _ _ | exact zrg_max (by assumption) (hA _ _) | (constructor <;> omega)) (fun hc => ?_) (fun hc => ?_)
                  ·
                    refine xg_step rfl rfl (fun k => rfl) ?_
                    refine xg_step rfl rfl (fun k => rfl) ?_
                    refine zg_iret rfl rfl (zfitZ (by omega)) ?_
                    exact zl1 (by simp only [zVD, zOf]; omega)
                  ·
                    refine xg_step rfl rfl (fun k => rfl) ?_
                    refine xg_step rfl rfl (fun k => rfl) ?_
                    refine xg_step rfl rfl (fun k => rfl) ?_
                    refine xg_step rfl rfl (fun k => rfl) ?_
                    refine xg_step rfl rfl (fun k => rfl) ?_
                    refine xg_step rfl rfl (fun k => rfl) ?_
                    refine zg_iret rfl rfl (zfitZ (by omega)) ?_
                    exact zl1 (by simp only [zVD, zOf]; omega)
              ·
                refine xg_step rfl rfl (fun k => rfl) ?_
                refine xg_step rfl rfl (fun k => rfl) ?_
                refine xg_step rfl rfl (fun k => rfl) ?_
                refine xg_step rfl rfl (fun k => rfl) ?_
                refine xg_step rfl rfl (fun k => rfl) ?_
                refine zg_eq rfl rfl (fun x y k => rfl) (by first | assumption | exact hA _ _ | exact hB _ _ | exact zrg_max (by assumption) (hA _ _) | (constructor <;> omega)) (by first | assumption | exact hA _ _ | exact hB _ _ | exact zrg_max (by assumption) (hA _ _) | (constructor <;> omega)) (fun hc => ?_) (fun hc => ?_)
                ·
                  refine xg_step rfl rfl (fun k => rfl) ?_
                  refine xg_step rfl rfl (fun k => rfl) ?_
                  refine zg_iret rfl rfl (zfitZ (by omega)) ?_
                  exact zl1 (by simp only [zVD, zOf]; omega)
                ·
                  refine xg_step rfl rfl (fun k => rfl) ?_
                  refine xg_step rfl rfl (fun k => rfl) ?_
                  refine xg_step rfl rfl (fun k => rfl) ?_
                  refine xg_step rfl rfl (fun k => rfl) ?_
                  refine xg_step rfl rfl (fun k => rfl) ?_
                  refine xg_step rfl rfl (fun k => rfl) ?_
                  refine zg_iret rfl rfl (zfitZ (by omega)) ?_
                  exact zl1 (by simp only [zVD, zOf]; omega)
          ·
            refine xg_step rfl rfl (fun k => rfl) ?_
            refine xg_step rfl rfl (fun k => rfl) ?_
            refine xg_step rfl rfl (fun k => rfl) ?_
            refine xg_step rfl rfl (fun k => rfl) ?_
            refine xg_step rfl rfl (fun k => rfl) ?_
            refine xg_step rfl rfl (fun k => rfl) ?_
            refine zg_cvb rfl rfl rfl (Nat.le_of_ble_eq_true rfl) (zha (by omega)) (zc_Counter (by omega)) rfl rfl (zr_21 (by omega) hA (by first | assumption | exact hA _ _ | exact hB _ _ | exact zrg_max (by assumption) (hA _ _) | (constructor <;> omega)) (by first | assumption | exact hA _ _ | exact hB _ _ | exact zrg_max (by assumption) (hA _ _) | (constructor <;> omega)) (by first | assumption | exact hA _ _ | exact hB _ _ | exact zrg_max (by assumption) (hA _ _) | (constructor <;> omega)) (hcN _ (by omega))) (fun hc => ?_) (fun hc => ?_)
            ·
              refine xg_step rfl rfl (fun k => rfl) ?_
              refine xg_step rfl rfl (fun k => rfl) ?_
              refine xg_step rfl rfl (fun k => rfl) ?_
              refine xg_step rfl rfl (fun k => rfl) ?_
              refine zg_cvi rfl rfl rfl (Nat.le_of_ble_eq_true rfl) (zha (by omega)) (zc_Counter (by omega)) rfl rfl (zreq (x := A (45 + 2 * (v % 3)) (a * 5 + 4)) (zr_20 (by omega) hA (by first | assumption | exact hA _ _ | exact hB _ _ | exact zrg_max (by assumption) (hA _ _) | (constructor <;> omega)) (by first | assumption | exact hA _ _ | exact hB _ _ | exact zrg_max (by assumption) (hA _ _) | (constructor <;> omega)) (hcN _ (by omega))) (by rw [if_pos (by omega)])) ?_
              refine zg_eq0 rfl rfl (fun x k => rfl) (by first | assumption | exact hA _ _ | exact hB _ _ | exact zrg_max (by assumption) (hA _ _) | (constructor <;> omega)) (fun hc => ?_) (fun hc => ?_)
              ·
                refine xg_step rfl rfl (fun k => rfl) ?_
                refine xg_step rfl rfl (fun k => rfl) ?_
                refine xg_step rfl rfl (fun k => rfl) ?_
                refine xg_step rfl rfl (fun k => rfl) ?_
                refine xg_step rfl rfl (fun k => rfl) ?_
                refine zg_eq rfl rfl (fun x y k => rfl) (by first | assumption | exact hA _ _ | exact hB _ _ | exact zrg_max (by assumption) (hA _ _) | (constructor <;> omega)) (by first | assumption | exact hA _ _ | exact hB _ _ | exact zrg_max (by assumption) (hA _ _) | (constructor <;> omega)) (fun hc => ?_) (fun hc => ?_)
                ·
                  refine xg_step rfl rfl (fun k => rfl) ?_
                  refine xg_step rfl rfl (fun k => rfl) ?_
                  refine zg_iret rfl rfl (zfitZ (by omega)) ?_
                  exact zl1 (by simp only [zVD, zOf]; omega)
                ·
                  refine xg_step rfl rfl (fun k => rfl) ?_
                  refine xg_step rfl rfl (fun k => rfl) ?_
                  refine xg_step rfl rfl (fun k => rfl) ?_
                  refine xg_step rfl rfl (fun k => rfl) ?_
                  refine xg_step rfl rfl (fun k => rfl) ?_
                  refine zg_iret rfl rfl (zfitZ (by omega)) ?_
                  exact zl0 (by simp only [zVD, zOf]; omega)
              ·
                refine xg_step rfl rfl (fun k => rfl) ?_
                refine xg_step rfl rfl (fun k => rfl) ?_
                refine xg_step rfl rfl (fun k => rfl) ?_
                refine xg_step rfl rfl (fun k => rfl) ?_
                refine zg_eq rfl rfl (fun x y k => rfl) (by first | assumption | exact hA _ _ | exact hB _ _ | exact zrg_max (by assumption) (hA _ _) | (constructor <;> omega)) (by first | assumption | exact hA _ _ | exact hB _ _ | exact zrg_max (by assumption) (hA _ _) | (constructor <;> omega)) (fun hc => ?_) (fun hc => ?_)
                ·
                  refine xg_step rfl rfl (fun k => rfl) ?_
                  refine xg_step rfl rfl (fun k => rfl) ?_
                  refine zg_iret rfl rfl (zfitZ (by omega)) ?_
                  exact zl1 (by simp only [zVD, zOf]; omega)
                ·
                  refine xg_step rfl rfl (fun k => rfl) ?_
                  refine xg_step rfl rfl (fun k => rfl) ?_
                  refine xg_step rfl rfl (fun k => rfl) ?_
                  refine xg_step rfl rfl (fun k => rfl) ?_
                  refine xg_step rfl rfl (fun k => rfl) ?_
                  refine xg_step rfl rfl (fun k => rfl) ?_
                  refine zg_iret rfl rfl (zfitZ (by omega)) ?_
                  exact zl1 (by simp only [zVD, zOf]; omega)
            ·
              refine xg_step rfl rfl (fun k => rfl) ?_
              refine xg_step rfl rfl (fun k => rfl) ?_
              refine xg_step rfl rfl (fun k => rfl) ?_
              refine xg_step rfl rfl (fun k => rfl) ?_
              refine xg_step rfl rfl (fun k => rfl) ?_
              refine zg_eq rfl rfl (fun x y k => rfl) (by first | assumption | exact hA _ _ | exact hB _ _ | exact zrg_max (by assumption) (hA _ _) | (constructor <;> omega)) (by first | assumption | exact hA _ _ | exact hB _ _ | exact zrg_max (by assumption) (hA _ _) | (constructor <;> omega)) (fun hc => ?_) (fun hc => ?_)
              ·
                refine xg_step rfl rfl (fun k => rfl) ?_
                refine xg_step rfl rfl (fun k => rfl) ?_
                refine zg_iret rfl rfl (zfitZ (by omega)) ?_
                exact zl1 (by simp only [zVD, zOf]; omega)
              ·
                refine xg_step rfl rfl (fun k => rfl) ?_
                refine xg_step rfl rfl (fun k => rfl) ?_
                refine xg_step rfl rfl (fun k => rfl) ?_
                refine xg_step rfl rfl (fun k => rfl) ?_
                refine xg_step rfl rfl (fun k => rfl) ?_
                refine xg_step rfl rfl (fun k => rfl) ?_
                refine zg_iret rfl rfl (zfitZ (by omega)) ?_
                exact zl1 (by simp only [zVD, zOf]; omega)
        ·
          refine xg_step rfl rfl (fun k => rfl) ?_
          refine xg_step rfl rfl (fun k => rfl) ?_
          refine zg_eq rfl rfl (fun x y k => rfl) (by first | assumption | exact hA _ _ | exact hB _ _ | exact zrg_max (by assumption) (hA _ _) | (constructor <;> omega)) (by first | assumption | exact hA _ _ | exact hB _ _ | exact zrg_max (by assumption) (hA _ _) | (constructor <;> omega)) (fun hc => ?_) (fun hc => ?_)
          ·
            refine xg_step rfl rfl (fun k => rfl) ?_
            refine zg_eq0 rfl rfl (fun x k => rfl) (by first | assumption | exact hA _ _ | exact hB _ _ | exact zrg_max (by assumption) (hA _ _) | (constructor <;> omega)) (fun hc => ?_) (fun hc => ?_)
            ·
              refine xg_step rfl rfl (fun k => rfl) ?_
              refine xg_step rfl rfl (fun k => rfl) ?_
              refine zg_iret rfl rfl (zfitZ (by omega)) ?_
              exact zl1 (by simp only [zVD, zOf]; omega)
            ·
              refine xg_step rfl rfl (fun k => rfl) ?_
              refine zg_csi rfl rfl (by decide) rfl rfl (Nat.le_of_ble_eq_true rfl) rfl (zr_101 hA (by omega)) ?_
              refine xg_step rfl rfl (fun k => rfl) ?_
              refine zg_csi rfl rfl (by decide) rfl rfl (Nat.le_of_ble_eq_true rfl) rfl (zr_101 hA (by omega)) ?_
              refine zg_eq rfl rfl (fun x y k => rfl) (by first | assumption | exact hA _ _ | exact hB _ _ | exact zrg_max (by assumption) (hA _ _) | (constructor <;> omega)) (by first | assumption | exact hA _ _ | exact hB _ _ | exact zrg_max (by assumption) (hA _ _) | (constructor <;> omega)) (fun hc => ?_) (fun hc => ?_)
              ·
                refine xg_step rfl rfl (fun k => rfl) ?_
                refine xg_step rfl rfl (fun k => rfl) ?_
                refine zg_iret rfl rfl (zfitZ (by omega)) ?_
                exact zl1 (by simp only [zVD, zOf]; omega)
              ·
                refine xg_step rfl rfl (fun k => rfl) ?_
                refine xg_get rfl rfl (zha (by decide)) zc_Book rfl rfl ?_
                refine xg_step rfl rfl (fun k => rfl) ?_
                refine zg_csi rfl rfl (by decide) rfl rfl (Nat.le_of_ble_eq_true rfl) rfl (zr_101 hA (by omega)) ?_
                refine zg_aald rfl (zha (by decide)) zc_counters (by decide) (by decide) ⟨by omega, by omega⟩ (if_pos (by omega)) ?_
                refine xg_step rfl rfl (fun k => rfl) ?_
                refine zg_csi rfl rfl (by decide) rfl rfl (Nat.le_of_ble_eq_true rfl) rfl (zr_102 hA (by omega)) ?_
                refine xg_step rfl rfl (fun k => rfl) ?_
                refine xg_step rfl rfl (fun k => rfl) ?_
                refine zg_cvb rfl rfl rfl (Nat.le_of_ble_eq_true rfl) (zha (by omega)) (zc_Counter (by omega)) rfl rfl (zr_21 (by omega) hA (by first | assumption | exact hA _ _ | exact hB _ _ | exact zrg_max (by assumption) (hA _ _) | (constructor <;> omega)) (by first | assumption | exact hA _ _ | exact hB _ _ | exact zrg_max (by assumption) (hA _ _) | (constructor <;> omega)) (by first | assumption | exact hA _ _ | exact hB _ _ | exact zrg_max (by assumption) (hA _ _) | (constructor <;> omega)) (hcN _ (by omega))) (fun hc => ?_) (fun hc => ?_)
                ·
                  refine xg_step rfl rfl (fun k => rfl) ?_
                  refine xg_step rfl rfl (fun k => rfl) ?_
                  refine xg_get rfl rfl (zha (by decide)) zc_Book rfl rfl ?_
                  refine xg_step rfl rfl (fun k => rfl) ?_
                  refine zg_csi rfl rfl (by decide) rfl rfl (Nat.le_of_ble_eq_true rfl) rfl (zr_101 hA (by omega)) ?_
                  refine zg_aald rfl (zha (by decide)) zc_counters (by decide) (by decide) ⟨by omega, by omega⟩ (if_pos (by omega)) ?_
                  refine xg_step rfl rfl (fun k => rfl) ?_
                  refine zg_csi rfl rfl (by decide) rfl rfl (Nat.le_of_ble_eq_true rfl) rfl (zr_102 hA (by omega)) ?_
                  refine xg_step rfl rfl (fun k => rfl) ?_
                  refine xg_step rfl rfl (fun k => rfl) ?_
                  refine zg_cvb rfl rfl rfl (Nat.le_of_ble_eq_true rfl) (zha (by omega)) (zc_Counter (by omega)) rfl rfl (zr_21 (by omega) hA (by first | assumption | exact hA _ _ | exact hB _ _ | exact zrg_max (by assumption) (hA _ _) | (constructor <;> omega)) (by first | assumption | exact hA _ _ | exact hB _ _ | exact zrg_max (by assumption) (hA _ _) | (constructor <;> omega)) (by first | assumption | exact hA _ _ | exact hB _ _ | exact zrg_max (by assumption) (hA _ _) | (constructor <;> omega)) (hcN _ (by omega))) (fun hc => ?_) (fun hc => ?_)
                  ·
                    refine xg_step rfl rfl (fun k => rfl) ?_
                    refine xg_step rfl rfl (fun k => rfl) ?_
                    refine zg_iret rfl rfl (zfitZ (by omega)) ?_
                    exact zl0 (by simp only [zVD, zOf]; omega)
                  ·
                    refine xg_step rfl rfl (fun k => rfl) ?_
                    refine xg_step rfl rfl (fun k => rfl) ?_
                    refine xg_step rfl rfl (fun k => rfl) ?_
                    refine zg_iret rfl rfl (zfitZ (by omega)) ?_
                    exact zl1 (by simp only [zVD, zOf]; omega)
                ·
                  refine xg_step rfl rfl (fun k => rfl) ?_
                  refine xg_step rfl rfl (fun k => rfl) ?_
                  refine xg_step rfl rfl (fun k => rfl) ?_
                  refine zg_iret rfl rfl (zfitZ (by omega)) ?_
                  exact zl1 (by simp only [zVD, zOf]; omega)
          ·
            refine xg_step rfl rfl (fun k => rfl) ?_
            refine xg_step rfl rfl (fun k => rfl) ?_
            refine zg_iret rfl rfl (zfitZ (by omega)) ?_
            exact zl1 (by simp only [zVD, zOf]; omega)
