/-! the reference: reply -/
theorem zg_addl {d u pc len : Nat} {lo : XL} {st : List Value} {σ : XS} {r : Option Value × XS} {x y z : Int} (hi : xIn u pc = some (.iadd, len)) (hz : x + y = z) (h : XG d u (pc + 1) lo (zci z :: st) σ r) : XG d u pc lo (zci y :: zci x :: st) σ r := by
  subst hz
  exact zg_add hi h
theorem zan_no {r s w k : Int} {M : ZM} (h : ¬ (M 53 r = 0 ∧ k ≠ s ∧ ¬ M 51 (r * 3 + k) = 0 ∧ M 52 (r * 3 + k) = w)) : zanf r s w k M = M := if_neg h
theorem zan_yes {r s w k : Int} {M : ZM} (h : M 53 r = 0 ∧ k ≠ s ∧ ¬ M 51 (r * 3 + k) = 0 ∧ M 52 (r * 3 + k) = w) : zanf r s w k M = zup (zup M 53 r 1) 54 r w := if_pos h
theorem zan_all {r s w : Int} {M : ZM} (h : ∀ k, 0 ≤ k ∧ k < 3 → ¬ (M 53 r = 0 ∧ k ≠ s ∧ ¬ M 51 (r * 3 + k) = 0 ∧ M 52 (r * 3 + k) = w)) : zfi (zanf r s w) 0 2 M = M := by
  rw [zfi_s (by omega) (zan_no (h 0 (by omega))), zfi_s (by omega) (zan_no (h (0 + 1) (by omega))), zfi_s (by omega) (zan_no (h (0 + 1 + 1) (by omega))), zfi_N (by omega)]
theorem zan_one {r s w : Int} {M : ZM} : ∀ (n : Nat) (k l i : Int), (l + 1 - k).toNat = n → k ≤ i ∧ i ≤ l → (M 53 r = 0 ∧ i ≠ s ∧ ¬ M 51 (r * 3 + i) = 0 ∧ M 52 (r * 3 + i) = w) → zfi (zanf r s w) k l M = zup (zup M 53 r 1) 54 r w
  | 0, k, l, i, e, hi, _ => by omega
  | n + 1, k, l, i, e, hi, h => by
    by_cases hk : M 53 r = 0 ∧ k ≠ s ∧ ¬ M 51 (r * 3 + k) = 0 ∧ M 52 (r * 3 + k) = w
    · rw [zfi_s (by omega) (zan_yes hk)]
      refine zanf_id ?_ _ _ _ rfl
      rw [zup_ne (by omega), zup_eq ⟨rfl, rfl⟩]
      decide
    · have hne : i ≠ k := fun e => by subst e; exact hk h
      rw [zfi_s (by omega) (zan_no hk)]
      exact zan_one n (k + 1) l i (by omega) (by omega) h
set_option maxRecDepth 10000 in
theorem zo_138a {d : Nat} {A B C : ZM} (hB : zRg B) (hC : zRg C) {p : Int} (hp : zrg p) {r : Int} (hr : zrg r) (h1 : ¬ ((0 ≤ p ∧ p < 3) ∧ (0 ≤ r ∧ r < B 1 6))) : XR (d + 2) 138 [.ref 107, zci (p), zci (r)] (zhp A (zmg B C)) (some (zci 0), zhp A (zmg B (zup C 107 0 1))) := by
  refine XR.of (Nat.le_of_ble_eq_true rfl) rfl ?_
  refine xg_step rfl rfl (fun k => rfl) ?_
  refine xg_step rfl rfl (fun k => rfl) ?_
  refine zg_csb rfl rfl (by decide) rfl rfl (Nat.le_of_ble_eq_true rfl) rfl (zq_130 hB hC (by first | assumption | exact hA _ _ | exact hB _ _ | exact hC _ _ | exact zrg_max (by assumption) (hA _ _) | (constructor <;> omega))) (fun hc => ?_) (fun hc => ?_)
  ·
    refine xg_step rfl rfl (fun k => rfl) ?_
    refine xg_step rfl rfl (fun k => rfl) ?_
    refine xg_step rfl rfl (fun k => rfl) ?_
    refine zg_cvb rfl rfl rfl (Nat.le_of_ble_eq_true rfl) (zha (by decide)) zc_RefM rfl rfl (zq_131 hB hC (by first | assumption | exact hA _ _ | exact hB _ _ | exact hC _ _ | exact zrg_max (by assumption) (hA _ _) | (constructor <;> omega))) (fun hc => ?_) (fun hc => ?_)
    ·
      refine xg_step rfl rfl (fun k => rfl) ?_
      refine xg_step rfl rfl (fun k => rfl) ?_
      refine xg_step rfl rfl (fun k => rfl) ?_
      refine zg_cvi rfl rfl rfl (Nat.le_of_ble_eq_true rfl) (zha (by decide)) zc_RefM rfl rfl zq_132f ?_
      refine xg_step rfl rfl (fun k => rfl) ?_
      exact (by omega : False).elim
    ·
      refine xg_step rfl rfl (fun k => rfl) ?_
      refine xg_step rfl rfl (fun k => rfl) ?_
      refine xg_step rfl rfl (fun k => rfl) ?_
      refine xg_step rfl rfl (fun k => rfl) ?_
      refine zg_cvi rfl rfl rfl (Nat.le_of_ble_eq_true rfl) (zha (by decide)) zc_RefM rfl rfl zq_132t ?_
      refine xg_step rfl rfl (fun k => rfl) ?_
      refine xg_step rfl rfl (fun k => rfl) ?_
      refine zg_iret rfl rfl zfitI ?_
      first | rfl | exact (by omega : False).elim
  ·
    refine xg_step rfl rfl (fun k => rfl) ?_
    refine xg_step rfl rfl (fun k => rfl) ?_
    refine xg_step rfl rfl (fun k => rfl) ?_
    refine xg_step rfl rfl (fun k => rfl) ?_
    refine zg_cvi rfl rfl rfl (Nat.le_of_ble_eq_true rfl) (zha (by decide)) zc_RefM rfl rfl zq_132t ?_
    refine xg_step rfl rfl (fun k => rfl) ?_
    refine xg_step rfl rfl (fun k => rfl) ?_
    refine zg_iret rfl rfl zfitI ?_
    first | rfl | exact (by omega : False).elim
set_option maxRecDepth 10000 in
theorem zo_138n {d : Nat} {A B C : ZM} (hB : zRg B) (hC : zRg C) {p : Int} (hp : zrg p) {r : Int} (hr : zrg r) (h1 : 0 ≤ p ∧ p < 3) (h2 : 0 ≤ r ∧ r < B 1 6) (hq60 : B 1 6 ≤ 60) (h3 : B (71 + 17 * p) r = 0) : XR (d + 2) 138 [.ref 107, zci (p), zci (r)] (zhp A (zmg B C)) (some (zci (-1)), zhp A (zmg B (zup C 107 0 0))) := by
  refine XR.of (Nat.le_of_ble_eq_true rfl) rfl ?_
  refine xg_step rfl rfl (fun k => rfl) ?_
  refine xg_step rfl rfl (fun k => rfl) ?_
  refine zg_csb rfl rfl (by decide) rfl rfl (Nat.le_of_ble_eq_true rfl) rfl (zq_130 hB hC (by first | assumption | exact hA _ _ | exact hB _ _ | exact hC _ _ | exact zrg_max (by assumption) (hA _ _) | (constructor <;> omega))) (fun hc => ?_) (fun hc => ?_)
  ·
    refine xg_step rfl rfl (fun k => rfl) ?_
    refine xg_step rfl rfl (fun k => rfl) ?_
    refine xg_step rfl rfl (fun k => rfl) ?_
    refine zg_cvb rfl rfl rfl (Nat.le_of_ble_eq_true rfl) (zha (by decide)) zc_RefM rfl rfl (zq_131 hB hC (by first | assumption | exact hA _ _ | exact hB _ _ | exact hC _ _ | exact zrg_max (by assumption) (hA _ _) | (constructor <;> omega))) (fun hc => ?_) (fun hc => ?_)
    ·
      refine xg_step rfl rfl (fun k => rfl) ?_
      refine xg_step rfl rfl (fun k => rfl) ?_
      refine xg_step rfl rfl (fun k => rfl) ?_
      refine zg_cvi rfl rfl rfl (Nat.le_of_ble_eq_true rfl) (zha (by decide)) zc_RefM rfl rfl zq_132f ?_
      refine xg_step rfl rfl (fun k => rfl) ?_
      refine xg_step rfl rfl (fun k => rfl) ?_
      refine xg_get rfl rfl (zha (by decide)) zc_RefM rfl rfl ?_
      refine zg_bi rfl (by decide) ?_
      refine xg_step rfl rfl (fun k => rfl) ?_
      refine zg_mul rfl ?_
      refine xg_step rfl rfl (fun k => rfl) ?_
      refine zg_add rfl ?_
      refine zg_ald (.inr ⟨rfl, rfl⟩) (zha (by decide)) zc_r_hasReply (by decide) ⟨by omega, by omega⟩ (zvB (zk_hasReply (by omega) (by omega)) (by omega)) ?_
      refine zg_eq0 rfl rfl (fun x k => rfl) (by first | assumption | exact hA _ _ | exact hB _ _ | exact hC _ _ | exact zrg_max (by assumption) (hA _ _) | (constructor <;> omega)) (fun hc => ?_) (fun hc => ?_)
      ·
        refine xg_step rfl rfl (fun k => rfl) ?_
        refine zg_iret rfl rfl zfitI ?_
        first | rfl | exact (by omega : False).elim
      ·
        exact (by omega : False).elim
    ·
      refine xg_step rfl rfl (fun k => rfl) ?_
      refine xg_step rfl rfl (fun k => rfl) ?_
      refine xg_step rfl rfl (fun k => rfl) ?_
      refine xg_step rfl rfl (fun k => rfl) ?_
      refine zg_cvi rfl rfl rfl (Nat.le_of_ble_eq_true rfl) (zha (by decide)) zc_RefM rfl rfl zq_132t ?_
      refine xg_step rfl rfl (fun k => rfl) ?_
      refine xg_step rfl rfl (fun k => rfl) ?_
      refine zg_iret rfl rfl zfitI ?_
      first | rfl | exact (by omega : False).elim
  ·
    refine xg_step rfl rfl (fun k => rfl) ?_
    refine xg_step rfl rfl (fun k => rfl) ?_
    refine xg_step rfl rfl (fun k => rfl) ?_
    refine xg_step rfl rfl (fun k => rfl) ?_
    refine zg_cvi rfl rfl rfl (Nat.le_of_ble_eq_true rfl) (zha (by decide)) zc_RefM rfl rfl zq_132t ?_
    refine xg_step rfl rfl (fun k => rfl) ?_
    refine xg_step rfl rfl (fun k => rfl) ?_
    refine zg_iret rfl rfl zfitI ?_
    first | rfl | exact (by omega : False).elim
set_option maxRecDepth 10000 in
theorem zo_138_0 {d : Nat} {A B C : ZM} (hB : zRg B) (hC : zRg C) {r : Int} (hr : zrg r) (h2 : 0 ≤ r ∧ r < B 1 6) (hq60 : B 1 6 ≤ 60) (h3 : ¬ B (71 + 17 * 0) r = 0) (hinv : B 53 r = 0 → ¬ (¬ B 51 (r * 3 + 1) = 0 ∧ ¬ B 51 (r * 3 + 2) = 0 ∧ B 52 (r * 3 + 1) = B 52 (r * 3 + 2))) : XR (d + 2) 138 [.ref 107, zci 0, zci r] (zhp A (zmg B C)) (some (zci (zb2 (¬ (zans B r 0 (B (72 + 17 * 0) r)) 53 r = 0))), zhp A (zmg (zans B r 0 (B (72 + 17 * 0) r)) (zup C 107 0 0))) := by
  refine XR.of (Nat.le_of_ble_eq_true rfl) rfl ?_
  refine xg_step rfl rfl (fun k => rfl) ?_
  refine xg_step rfl rfl (fun k => rfl) ?_
  refine zg_csb rfl rfl (by decide) rfl rfl (Nat.le_of_ble_eq_true rfl) rfl (zq_130 hB hC (by first | assumption | exact hA _ _ | exact hB _ _ | exact hC _ _ | exact zrg_max (by assumption) (hA _ _) | (constructor <;> omega))) (fun hc => ?_) (fun hc => ?_)
  ·
    refine xg_step rfl rfl (fun k => rfl) ?_
    refine xg_step rfl rfl (fun k => rfl) ?_
    refine xg_step rfl rfl (fun k => rfl) ?_
    refine zg_cvb rfl rfl rfl (Nat.le_of_ble_eq_true rfl) (zha (by decide)) zc_RefM rfl rfl (zq_131 hB hC (by first | assumption | exact hA _ _ | exact hB _ _ | exact hC _ _ | exact zrg_max (by assumption) (hA _ _) | (constructor <;> omega))) (fun hc => ?_) (fun hc => ?_)
    ·
      refine xg_step rfl rfl (fun k => rfl) ?_
      refine xg_step rfl rfl (fun k => rfl) ?_
      refine xg_step rfl rfl (fun k => rfl) ?_
      refine zg_cvi rfl rfl rfl (Nat.le_of_ble_eq_true rfl) (zha (by decide)) zc_RefM rfl rfl zq_132f ?_
      refine xg_step rfl rfl (fun k => rfl) ?_
      refine xg_step rfl rfl (fun k => rfl) ?_
      refine xg_get rfl rfl (zha (by decide)) zc_RefM rfl rfl ?_
      refine zg_bi rfl (by decide) ?_
      refine xg_step rfl rfl (fun k => rfl) ?_
      refine zg_mul rfl ?_
      refine xg_step rfl rfl (fun k => rfl) ?_
      refine zg_add rfl ?_
      refine zg_ald (.inr ⟨rfl, rfl⟩) (zha (by decide)) zc_r_hasReply (by decide) ⟨by omega, by omega⟩ (zvB (zk_hasReply (by omega) (by omega)) (by omega)) ?_
      refine zg_eq0 rfl rfl (fun x k => rfl) (by first | assumption | exact hA _ _ | exact hB _ _ | exact hC _ _ | exact zrg_max (by assumption) (hA _ _) | (constructor <;> omega)) (fun hc => ?_) (fun hc => ?_)
      ·
        refine xg_step rfl rfl (fun k => rfl) ?_
        refine zg_iret rfl rfl zfitI ?_
        exact (by omega : False).elim
      ·
        refine xg_step rfl rfl (fun k => rfl) ?_
        refine xg_get rfl rfl (zha (by decide)) zc_RefM rfl rfl ?_
        refine zg_bi rfl (by decide) ?_
        refine xg_step rfl rfl (fun k => rfl) ?_
        refine zg_mul rfl ?_
        refine xg_step rfl rfl (fun k => rfl) ?_
        refine zg_add rfl ?_
        refine xg_step rfl rfl (fun k => rfl) ?_
        refine zg_ast (.inr ⟨rfl, rfl, by omega⟩) (zha (by decide)) zc_r_got (by decide) ⟨by omega, by omega⟩ (zhwB (zwB (zk_got (by omega) (by omega)) zw_r_got (by omega))) ?_
        refine xg_step rfl rfl (fun k => rfl) ?_
        refine xg_get rfl rfl (zha (by decide)) zc_RefM rfl rfl ?_
        refine zg_bi rfl (by decide) ?_
        refine xg_step rfl rfl (fun k => rfl) ?_
        refine zg_mul rfl ?_
        refine xg_step rfl rfl (fun k => rfl) ?_
        refine zg_add rfl ?_
        refine xg_step rfl rfl (fun k => rfl) ?_
        refine xg_get rfl rfl (zha (by decide)) zc_RefM rfl rfl ?_
        refine zg_bi rfl (by decide) ?_
        refine xg_step rfl rfl (fun k => rfl) ?_
        refine zg_mul rfl ?_
        refine xg_step rfl rfl (fun k => rfl) ?_
        refine zg_add rfl ?_
        refine zg_ald (x := B (72 + 17 * 0) r) (.inl ⟨rfl, rfl⟩) (zha (by decide)) zc_r_replies (by decide) ⟨by omega, by omega⟩ ((zvB (zk_replies (by omega) (by omega)) (by omega)).trans (zup_ne (by omega))) ?_
        refine zg_ast (.inl ⟨rfl, rfl⟩) (zha (by decide)) zc_r_gave (by decide) ⟨by omega, by omega⟩ (zhwB (zwB (zk_gave (by omega) (by omega)) zw_r_gave (by omega))) ?_
        refine xg_step rfl rfl (fun k => rfl) ?_
        refine xg_step rfl rfl (fun k => rfl) ?_
        show XG _ _ 82 [some (.ref 107), some (zci (0)), some (zci (r)), some (zci (0)), none] _ _ _
        refine xg_step rfl rfl (fun k => rfl) ?_
        refine xg_step rfl rfl (fun k => rfl) ?_
        refine xg_step rfl rfl (fun k => rfl) ?_
        refine xg_step rfl rfl (fun k => rfl) ?_
        refine xg_step rfl rfl (fun k => rfl) ?_
        refine zg_addl (z := 1) rfl (by decide) ?_
        refine xg_step rfl rfl (fun k => rfl) ?_
        show XG _ _ 92 [some (.ref 107), some (zci (0)), some (zci (r)), some (zci (0)), some (zci (1))] _ _ _
        refine xg_step rfl rfl (fun k => rfl) ?_
        refine xg_step rfl rfl (fun k => rfl) ?_
        refine xg_step rfl rfl (fun k => rfl) ?_
        refine xg_step rfl rfl (fun k => rfl) ?_
        refine xg_get rfl rfl (zha (by decide)) zc_RefM rfl rfl ?_
        refine xg_step rfl rfl (fun k => rfl) ?_
        refine zg_ald (x := B 53 r) (.inr ⟨rfl, rfl⟩) (zha (by decide)) zc_r_answered (by decide) ⟨by omega, by omega⟩ ((zvB (zk_answered (by omega)) (by omega)).trans ((zup_ne (by omega)).trans (zup_ne (by omega)))) ?_
        refine zg_eq0 rfl rfl (fun x k => rfl) (by first | assumption | exact hA _ _ | exact hB _ _ | exact hC _ _ | exact zrg_max (by assumption) (hA _ _) | (constructor <;> omega)) (fun hc => ?_) (fun hc => ?_)
        ·
          refine xg_step rfl rfl (fun k => rfl) ?_
          refine xg_get rfl rfl (zha (by decide)) zc_RefM rfl rfl ?_
          refine zg_bi rfl (by decide) ?_
          refine xg_step rfl rfl (fun k => rfl) ?_
          refine zg_mul rfl ?_
          refine xg_step rfl rfl (fun k => rfl) ?_
          refine zg_add rfl ?_
          refine zg_ald (x := 1) (.inr ⟨rfl, rfl⟩) (zha (by decide)) zc_r_got (by decide) ⟨by omega, by omega⟩ ((zvB (zk_got (by omega) (by omega)) (by omega)).trans ((zup_ne (by omega)).trans (zup_eq ⟨by omega, by omega⟩))) ?_
          refine xg_step rfl rfl (fun k => rfl) ?_
          refine xg_step rfl rfl (fun k => rfl) ?_
          refine xg_get rfl rfl (zha (by decide)) zc_RefM rfl rfl ?_
          refine zg_bi rfl (by decide) ?_
          refine xg_step rfl rfl (fun k => rfl) ?_
          refine zg_mul rfl ?_
          refine xg_step rfl rfl (fun k => rfl) ?_
          refine zg_add rfl ?_
          refine zg_ald (x := B 51 (r * 3 + 1)) (.inr ⟨rfl, rfl⟩) (zha (by decide)) zc_r_got (by decide) ⟨by omega, by omega⟩ ((zvB (zk_got (by omega) (by omega)) (by omega)).trans ((zup_ne (by omega)).trans (zup_ne (by omega)))) ?_
          refine zg_eq0 rfl rfl (fun x k => rfl) (by first | assumption | exact hA _ _ | exact hB _ _ | exact hC _ _ | exact zrg_max (by assumption) (hA _ _) | (constructor <;> omega)) (fun hc => ?_) (fun hc => ?_)
          ·
            show XG _ _ 189 [some (.ref 107), some (zci (0)), some (zci (r)), some (zci (0)), some (zci (1))] _ _ _
            refine zg_inc (y := 2) rfl rfl (by decide) rfl ?_
            refine xg_step rfl rfl (fun k => rfl) ?_
            show XG _ _ 92 [some (.ref 107), some (zci (0)), some (zci (r)), some (zci (0)), some (zci (2))] _ _ _
            refine xg_step rfl rfl (fun k => rfl) ?_
            refine xg_step rfl rfl (fun k => rfl) ?_
            refine xg_step rfl rfl (fun k => rfl) ?_
            refine xg_step rfl rfl (fun k => rfl) ?_
            refine xg_get rfl rfl (zha (by decide)) zc_RefM rfl rfl ?_
            refine xg_step rfl rfl (fun k => rfl) ?_
            refine zg_ald (x := B 53 r) (.inr ⟨rfl, rfl⟩) (zha (by decide)) zc_r_answered (by decide) ⟨by omega, by omega⟩ ((zvB (zk_answered (by omega)) (by omega)).trans ((zup_ne (by omega)).trans (zup_ne (by omega)))) ?_
            refine zg_eq0 rfl rfl (fun x k => rfl) (by first | assumption | exact hA _ _ | exact hB _ _ | exact hC _ _ | exact zrg_max (by assumption) (hA _ _) | (constructor <;> omega)) (fun hc => ?_) (fun hc => ?_)
            ·
              refine xg_step rfl rfl (fun k => rfl) ?_
              refine xg_get rfl rfl (zha (by decide)) zc_RefM rfl rfl ?_
              refine zg_bi rfl (by decide) ?_
              refine xg_step rfl rfl (fun k => rfl) ?_
              refine zg_mul rfl ?_
              refine xg_step rfl rfl (fun k => rfl) ?_
              refine zg_add rfl ?_
              refine zg_ald (x := 1) (.inr ⟨rfl, rfl⟩) (zha (by decide)) zc_r_got (by decide) ⟨by omega, by omega⟩ ((zvB (zk_got (by omega) (by omega)) (by omega)).trans ((zup_ne (by omega)).trans (zup_eq ⟨by omega, by omega⟩))) ?_
              refine xg_step rfl rfl (fun k => rfl) ?_
              refine xg_step rfl rfl (fun k => rfl) ?_
              refine xg_get rfl rfl (zha (by decide)) zc_RefM rfl rfl ?_
              refine zg_bi rfl (by decide) ?_
              refine xg_step rfl rfl (fun k => rfl) ?_
              refine zg_mul rfl ?_
              refine xg_step rfl rfl (fun k => rfl) ?_
              refine zg_add rfl ?_
              refine zg_ald (x := B 51 (r * 3 + 2)) (.inr ⟨rfl, rfl⟩) (zha (by decide)) zc_r_got (by decide) ⟨by omega, by omega⟩ ((zvB (zk_got (by omega) (by omega)) (by omega)).trans ((zup_ne (by omega)).trans (zup_ne (by omega)))) ?_
              refine zg_eq0 rfl rfl (fun x k => rfl) (by first | assumption | exact hA _ _ | exact hB _ _ | exact hC _ _ | exact zrg_max (by assumption) (hA _ _) | (constructor <;> omega)) (fun hc => ?_) (fun hc => ?_)
              ·
                show XG _ _ 189 [some (.ref 107), some (zci (0)), some (zci (r)), some (zci (0)), some (zci (2))] _ _ _
                refine zg_inc (y := 3) rfl rfl (by decide) rfl ?_
                refine xg_step rfl rfl (fun k => rfl) ?_
                show XG _ _ 92 [some (.ref 107), some (zci (0)), some (zci (r)), some (zci (0)), some (zci (3))] _ _ _
                refine xg_step rfl rfl (fun k => rfl) ?_
                refine xg_step rfl rfl (fun k => rfl) ?_
                refine xg_step rfl rfl (fun k => rfl) ?_
                show XG _ _ 195 [some (.ref 107), some (zci (0)), some (zci (r)), some (zci (0)), some (zci (3))] _ _ _
                refine zg_inc (y := 1) rfl rfl (by decide) rfl ?_
                refine xg_step rfl rfl (fun k => rfl) ?_
                show XG _ _ 82 [some (.ref 107), some (zci (0)), some (zci (r)), some (zci (1)), some (zci (3))] _ _ _
                refine xg_step rfl rfl (fun k => rfl) ?_
                refine xg_step rfl rfl (fun k => rfl) ?_
                refine xg_step rfl rfl (fun k => rfl) ?_
                refine xg_step rfl rfl (fun k => rfl) ?_
                refine xg_step rfl rfl (fun k => rfl) ?_
                refine zg_addl (z := 2) rfl (by decide) ?_
                refine xg_step rfl rfl (fun k => rfl) ?_
                show XG _ _ 92 [some (.ref 107), some (zci (0)), some (zci (r)), some (zci (1)), some (zci (2))] _ _ _
                refine xg_step rfl rfl (fun k => rfl) ?_
                refine xg_step rfl rfl (fun k => rfl) ?_
                refine xg_step rfl rfl (fun k => rfl) ?_
                refine xg_step rfl rfl (fun k => rfl) ?_
                refine xg_get rfl rfl (zha (by decide)) zc_RefM rfl rfl ?_
                refine xg_step rfl rfl (fun k => rfl) ?_
                refine zg_ald (x := B 53 r) (.inr ⟨rfl, rfl⟩) (zha (by decide)) zc_r_answered (by decide) ⟨by omega, by omega⟩ ((zvB (zk_answered (by omega)) (by omega)).trans ((zup_ne (by omega)).trans (zup_ne (by omega)))) ?_
                refine zg_eq0 rfl rfl (fun x k => rfl) (by first | assumption | exact hA _ _ | exact hB _ _ | exact hC _ _ | exact zrg_max (by assumption) (hA _ _) | (constructor <;> omega)) (fun hc => ?_) (fun hc => ?_)
                ·
                  refine xg_step rfl rfl (fun k => rfl) ?_
                  refine xg_get rfl rfl (zha (by decide)) zc_RefM rfl rfl ?_
                  refine zg_bi rfl (by decide) ?_
                  refine xg_step rfl rfl (fun k => rfl) ?_
                  refine zg_mul rfl ?_
                  refine xg_step rfl rfl (fun k => rfl) ?_
                  refine zg_add rfl ?_
                  refine zg_ald (x := B 51 (r * 3 + 1)) (.inr ⟨rfl, rfl⟩) (zha (by decide)) zc_r_got (by decide) ⟨by omega, by omega⟩ ((zvB (zk_got (by omega) (by omega)) (by omega)).trans ((zup_ne (by omega)).trans (zup_ne (by omega)))) ?_
                  refine zg_eq0 rfl rfl (fun x k => rfl) (by first | assumption | exact hA _ _ | exact hB _ _ | exact hC _ _ | exact zrg_max (by assumption) (hA _ _) | (constructor <;> omega)) (fun hc => ?_) (fun hc => ?_)
                  ·
                    show XG _ _ 189 [some (.ref 107), some (zci (0)), some (zci (r)), some (zci (1)), some (zci (2))] _ _ _
                    refine zg_inc (y := 3) rfl rfl (by decide) rfl ?_
                    refine xg_step rfl rfl (fun k => rfl) ?_
                    show XG _ _ 92 [some (.ref 107), some (zci (0)), some (zci (r)), some (zci (1)), some (zci (3))] _ _ _
                    refine xg_step rfl rfl (fun k => rfl) ?_
                    refine xg_step rfl rfl (fun k => rfl) ?_
                    refine xg_step rfl rfl (fun k => rfl) ?_
                    show XG _ _ 195 [some (.ref 107), some (zci (0)), some (zci (r)), some (zci (1)), some (zci (3))] _ _ _
                    refine zg_inc (y := 2) rfl rfl (by decide) rfl ?_
                    refine xg_step rfl rfl (fun k => rfl) ?_
                    show XG _ _ 82 [some (.ref 107), some (zci (0)), some (zci (r)), some (zci (2)), some (zci (3))] _ _ _
                    refine xg_step rfl rfl (fun k => rfl) ?_
                    refine xg_step rfl rfl (fun k => rfl) ?_
                    refine xg_step rfl rfl (fun k => rfl) ?_
                    refine xg_step rfl rfl (fun k => rfl) ?_
                    refine xg_step rfl rfl (fun k => rfl) ?_
                    refine zg_addl (z := 3) rfl (by decide) ?_
                    refine xg_step rfl rfl (fun k => rfl) ?_
                    show XG _ _ 92 [some (.ref 107), some (zci (0)), some (zci (r)), some (zci (2)), some (zci (3))] _ _ _
                    refine xg_step rfl rfl (fun k => rfl) ?_
                    refine xg_step rfl rfl (fun k => rfl) ?_
                    refine xg_step rfl rfl (fun k => rfl) ?_
                    show XG _ _ 195 [some (.ref 107), some (zci (0)), some (zci (r)), some (zci (2)), some (zci (3))] _ _ _
                    refine zg_inc (y := 3) rfl rfl (by decide) rfl ?_
                    refine xg_step rfl rfl (fun k => rfl) ?_
                    show XG _ _ 82 [some (.ref 107), some (zci (0)), some (zci (r)), some (zci (3)), some (zci (3))] _ _ _
                    refine xg_step rfl rfl (fun k => rfl) ?_
                    refine xg_step rfl rfl (fun k => rfl) ?_
                    refine xg_step rfl rfl (fun k => rfl) ?_
                    show XG _ _ 201 [some (.ref 107), some (zci (0)), some (zci (r)), some (zci (3)), some (zci (3))] _ _ _
                    refine xg_step rfl rfl (fun k => rfl) ?_
                    refine xg_get rfl rfl (zha (by decide)) zc_RefM rfl rfl ?_
                    refine xg_step rfl rfl (fun k => rfl) ?_
                    refine zg_ald (x := B 53 r) (.inr ⟨rfl, rfl⟩) (zha (by decide)) zc_r_answered (by decide) ⟨by omega, by omega⟩ ((zvB (zk_answered (by omega)) (by omega)).trans ((zup_ne (by omega)).trans (zup_ne (by omega)))) ?_
                    refine zg_eq0 rfl rfl (fun x k => rfl) (by first | assumption | exact hA _ _ | exact hB _ _ | exact hC _ _ | exact zrg_max (by assumption) (hA _ _) | (constructor <;> omega)) (fun hc => ?_) (fun hc => ?_)
                    ·
                      refine xg_step rfl rfl (fun k => rfl) ?_
                      refine zg_iret rfl rfl zfitI ?_
                      have e : (zans B r 0 (B (72 + 17 * 0) r)) = (zup (zup B 51 (r * 3 + 0) 1) 52 (r * 3 + 0) (B (72 + 17 * 0) r)) := zan_all (fun k hk => by rw [zup_ne (by omega), zup_ne (by omega)]; rintro ⟨q1, q2, q3, q4⟩; rw [zup_ne (by omega), zup_ne (by omega)] at q3 q4; rcases (show k = 0 ∨ k = 1 ∨ k = 2 by omega) with rfl | rfl | rfl <;> first | omega | contradiction)
                      rw [e, zb2_f (by rw [zup_ne (by omega), zup_ne (by omega)]; omega)]
                    ·
                      exact (by omega : False).elim
                  ·
                    exact (by omega : False).elim
                ·
                  exact (by omega : False).elim
              ·
                refine xg_step rfl rfl (fun k => rfl) ?_
                refine xg_get rfl rfl (zha (by decide)) zc_RefM rfl rfl ?_
                refine zg_bi rfl (by decide) ?_
                refine xg_step rfl rfl (fun k => rfl) ?_
                refine zg_mul rfl ?_
                refine xg_step rfl rfl (fun k => rfl) ?_
                refine zg_add rfl ?_
                refine zg_ald (x := B (72 + 17 * 0) r) (.inl ⟨rfl, rfl⟩) (zha (by decide)) zc_r_gave (by decide) ⟨by omega, by omega⟩ ((zvB (zk_gave (by omega) (by omega)) (by omega)).trans (zup_eq ⟨by omega, by omega⟩)) ?_
                refine xg_step rfl rfl (fun k => rfl) ?_
                refine xg_get rfl rfl (zha (by decide)) zc_RefM rfl rfl ?_
                refine zg_bi rfl (by decide) ?_
                refine xg_step rfl rfl (fun k => rfl) ?_
                refine zg_mul rfl ?_
                refine xg_step rfl rfl (fun k => rfl) ?_
                refine zg_add rfl ?_
                refine zg_ald (x := B 52 (r * 3 + 2)) (.inl ⟨rfl, rfl⟩) (zha (by decide)) zc_r_gave (by decide) ⟨by omega, by omega⟩ ((zvB (zk_gave (by omega) (by omega)) (by omega)).trans ((zup_ne (by omega)).trans (zup_ne (by omega)))) ?_
                refine zg_eq rfl rfl (fun x y k => rfl) (by first | assumption | exact hA _ _ | exact hB _ _ | exact hC _ _ | exact zrg_max (by assumption) (hA _ _) | (constructor <;> omega)) (by first | assumption | exact hA _ _ | exact hB _ _ | exact hC _ _ | exact zrg_max (by assumption) (hA _ _) | (constructor <;> omega)) (fun hc => ?_) (fun hc => ?_)
                ·
                  refine xg_step rfl rfl (fun k => rfl) ?_
                  refine xg_get rfl rfl (zha (by decide)) zc_RefM rfl rfl ?_
                  refine xg_step rfl rfl (fun k => rfl) ?_
                  refine xg_step rfl rfl (fun k => rfl) ?_
                  refine zg_ast (.inr ⟨rfl, rfl, by omega⟩) (zha (by decide)) zc_r_answered (by decide) ⟨by omega, by omega⟩ (zhwB (zwB (zk_answered (by omega)) zw_r_answered (by omega))) ?_
                  refine xg_step rfl rfl (fun k => rfl) ?_
                  refine xg_get rfl rfl (zha (by decide)) zc_RefM rfl rfl ?_
                  refine xg_step rfl rfl (fun k => rfl) ?_
                  refine xg_step rfl rfl (fun k => rfl) ?_
                  refine xg_get rfl rfl (zha (by decide)) zc_RefM rfl rfl ?_
                  refine zg_bi rfl (by decide) ?_
                  refine xg_step rfl rfl (fun k => rfl) ?_
                  refine zg_mul rfl ?_
                  refine xg_step rfl rfl (fun k => rfl) ?_
                  refine zg_add rfl ?_
                  refine zg_ald (x := B (72 + 17 * 0) r) (.inl ⟨rfl, rfl⟩) (zha (by decide)) zc_r_gave (by decide) ⟨by omega, by omega⟩ ((zvB (zk_gave (by omega) (by omega)) (by omega)).trans ((zup_ne (by omega)).trans (zup_eq ⟨by omega, by omega⟩))) ?_
                  refine zg_ast (.inl ⟨rfl, rfl⟩) (zha (by decide)) zc_r_answer (by decide) ⟨by omega, by omega⟩ (zhwB (zwB (zk_answer (by omega)) zw_r_answer (by omega))) ?_
                  show XG _ _ 189 [some (.ref 107), some (zci (0)), some (zci (r)), some (zci (0)), some (zci (2))] _ _ _
                  refine zg_inc (y := 3) rfl rfl (by decide) rfl ?_
                  refine xg_step rfl rfl (fun k => rfl) ?_
                  show XG _ _ 92 [some (.ref 107), some (zci (0)), some (zci (r)), some (zci (0)), some (zci (3))] _ _ _
                  refine xg_step rfl rfl (fun k => rfl) ?_
                  refine xg_step rfl rfl (fun k => rfl) ?_
                  refine xg_step rfl rfl (fun k => rfl) ?_
                  show XG _ _ 195 [some (.ref 107), some (zci (0)), some (zci (r)), some (zci (0)), some (zci (3))] _ _ _
                  refine zg_inc (y := 1) rfl rfl (by decide) rfl ?_
                  refine xg_step rfl rfl (fun k => rfl) ?_
                  show XG _ _ 82 [some (.ref 107), some (zci (0)), some (zci (r)), some (zci (1)), some (zci (3))] _ _ _
                  refine xg_step rfl rfl (fun k => rfl) ?_
                  refine xg_step rfl rfl (fun k => rfl) ?_
                  refine xg_step rfl rfl (fun k => rfl) ?_
                  refine xg_step rfl rfl (fun k => rfl) ?_
                  refine xg_step rfl rfl (fun k => rfl) ?_
                  refine zg_addl (z := 2) rfl (by decide) ?_
                  refine xg_step rfl rfl (fun k => rfl) ?_
                  show XG _ _ 92 [some (.ref 107), some (zci (0)), some (zci (r)), some (zci (1)), some (zci (2))] _ _ _
                  refine xg_step rfl rfl (fun k => rfl) ?_
                  refine xg_step rfl rfl (fun k => rfl) ?_
                  refine xg_step rfl rfl (fun k => rfl) ?_
                  refine xg_step rfl rfl (fun k => rfl) ?_
                  refine xg_get rfl rfl (zha (by decide)) zc_RefM rfl rfl ?_
                  refine xg_step rfl rfl (fun k => rfl) ?_
                  refine zg_ald (x := 1) (.inr ⟨rfl, rfl⟩) (zha (by decide)) zc_r_answered (by decide) ⟨by omega, by omega⟩ ((zvB (zk_answered (by omega)) (by omega)).trans ((zup_ne (by omega)).trans (zup_eq ⟨by omega, by omega⟩))) ?_
                  refine xg_step rfl rfl (fun k => rfl) ?_
                  show XG _ _ 195 [some (.ref 107), some (zci (0)), some (zci (r)), some (zci (1)), some (zci (2))] _ _ _
                  refine zg_inc (y := 2) rfl rfl (by decide) rfl ?_
                  refine xg_step rfl rfl (fun k => rfl) ?_
                  show XG _ _ 82 [some (.ref 107), some (zci (0)), some (zci (r)), some (zci (2)), some (zci (2))] _ _ _
                  refine xg_step rfl rfl (fun k => rfl) ?_
                  refine xg_step rfl rfl (fun k => rfl) ?_
                  refine xg_step rfl rfl (fun k => rfl) ?_
                  refine xg_step rfl rfl (fun k => rfl) ?_
                  refine xg_step rfl rfl (fun k => rfl) ?_
                  refine zg_addl (z := 3) rfl (by decide) ?_
                  refine xg_step rfl rfl (fun k => rfl) ?_
                  show XG _ _ 92 [some (.ref 107), some (zci (0)), some (zci (r)), some (zci (2)), some (zci (3))] _ _ _
                  refine xg_step rfl rfl (fun k => rfl) ?_
                  refine xg_step rfl rfl (fun k => rfl) ?_
                  refine xg_step rfl rfl (fun k => rfl) ?_
                  show XG _ _ 195 [some (.ref 107), some (zci (0)), some (zci (r)), some (zci (2)), some (zci (3))] _ _ _
                  refine zg_inc (y := 3) rfl rfl (by decide) rfl ?_
                  refine xg_step rfl rfl (fun k => rfl) ?_
                  show XG _ _ 82 [some (.ref 107), some (zci (0)), some (zci (r)), some (zci (3)), some (zci (3))] _ _ _
                  refine xg_step rfl rfl (fun k => rfl) ?_
                  refine xg_step rfl rfl (fun k => rfl) ?_
                  refine xg_step rfl rfl (fun k => rfl) ?_
                  show XG _ _ 201 [some (.ref 107), some (zci (0)), some (zci (r)), some (zci (3)), some (zci (3))] _ _ _
                  refine xg_step rfl rfl (fun k => rfl) ?_
                  refine xg_get rfl rfl (zha (by decide)) zc_RefM rfl rfl ?_
                  refine xg_step rfl rfl (fun k => rfl) ?_
                  refine zg_ald (x := 1) (.inr ⟨rfl, rfl⟩) (zha (by decide)) zc_r_answered (by decide) ⟨by omega, by omega⟩ ((zvB (zk_answered (by omega)) (by omega)).trans ((zup_ne (by omega)).trans (zup_eq ⟨by omega, by omega⟩))) ?_
                  refine xg_step rfl rfl (fun k => rfl) ?_
                  refine xg_step rfl rfl (fun k => rfl) ?_
                  refine xg_step rfl rfl (fun k => rfl) ?_
                  refine zg_iret rfl rfl zfitI ?_
                  have e : (zans B r 0 (B (72 + 17 * 0) r)) = zup (zup (zup (zup B 51 (r * 3 + 0) 1) 52 (r * 3 + 0) (B (72 + 17 * 0) r)) 53 r 1) 54 r (B (72 + 17 * 0) r) := by first | exact zan_one 3 0 2 1 rfl (by omega) ⟨by rw [zup_ne (by omega), zup_ne (by omega)]; assumption, by omega, by rw [zup_ne (by omega), zup_ne (by omega)]; assumption, by rw [zup_ne (by omega), zup_ne (by omega)]; omega⟩ | exact zan_one 3 0 2 2 rfl (by omega) ⟨by rw [zup_ne (by omega), zup_ne (by omega)]; assumption, by omega, by rw [zup_ne (by omega), zup_ne (by omega)]; assumption, by rw [zup_ne (by omega), zup_ne (by omega)]; omega⟩
                  rw [e, zb2_t (by rw [zup_ne (by omega), zup_eq ⟨rfl, rfl⟩]; decide)]
                ·
                  refine xg_step rfl rfl (fun k => rfl) ?_
                  show XG _ _ 189 [some (.ref 107), some (zci (0)), some (zci (r)), some (zci (0)), some (zci (2))] _ _ _
                  refine zg_inc (y := 3) rfl rfl (by decide) rfl ?_
                  refine xg_step rfl rfl (fun k => rfl) ?_
                  show XG _ _ 92 [some (.ref 107), some (zci (0)), some (zci (r)), some (zci (0)), some (zci (3))] _ _ _
                  refine xg_step rfl rfl (fun k => rfl) ?_
                  refine xg_step rfl rfl (fun k => rfl) ?_
                  refine xg_step rfl rfl (fun k => rfl) ?_
                  show XG _ _ 195 [some (.ref 107), some (zci (0)), some (zci (r)), some (zci (0)), some (zci (3))] _ _ _
                  refine zg_inc (y := 1) rfl rfl (by decide) rfl ?_
                  refine xg_step rfl rfl (fun k => rfl) ?_
                  show XG _ _ 82 [some (.ref 107), some (zci (0)), some (zci (r)), some (zci (1)), some (zci (3))] _ _ _
                  refine xg_step rfl rfl (fun k => rfl) ?_
                  refine xg_step rfl rfl (fun k => rfl) ?_
                  refine xg_step rfl rfl (fun k => rfl) ?_
                  refine xg_step rfl rfl (fun k => rfl) ?_
                  refine xg_step rfl rfl (fun k => rfl) ?_
                  refine zg_addl (z := 2) rfl (by decide) ?_
                  refine xg_step rfl rfl (fun k => rfl) ?_
                  show XG _ _ 92 [some (.ref 107), some (zci (0)), some (zci (r)), some (zci (1)), some (zci (2))] _ _ _
                  refine xg_step rfl rfl (fun k => rfl) ?_
                  refine xg_step rfl rfl (fun k => rfl) ?_
                  refine xg_step rfl rfl (fun k => rfl) ?_
                  refine xg_step rfl rfl (fun k => rfl) ?_
                  refine xg_get rfl rfl (zha (by decide)) zc_RefM rfl rfl ?_
                  refine xg_step rfl rfl (fun k => rfl) ?_
                  refine zg_ald (x := B 53 r) (.inr ⟨rfl, rfl⟩) (zha (by decide)) zc_r_answered (by decide) ⟨by omega, by omega⟩ ((zvB (zk_answered (by omega)) (by omega)).trans ((zup_ne (by omega)).trans (zup_ne (by omega)))) ?_
                  refine zg_eq0 rfl rfl (fun x k => rfl) (by first | assumption | exact hA _ _ | exact hB _ _ | exact hC _ _ | exact zrg_max (by assumption) (hA _ _) | (constructor <;> omega)) (fun hc => ?_) (fun hc => ?_)
                  ·
                    refine xg_step rfl rfl (fun k => rfl) ?_
                    refine xg_get rfl rfl (zha (by decide)) zc_RefM rfl rfl ?_
                    refine zg_bi rfl (by decide) ?_
                    refine xg_step rfl rfl (fun k => rfl) ?_
                    refine zg_mul rfl ?_
                    refine xg_step rfl rfl (fun k => rfl) ?_
                    refine zg_add rfl ?_
                    refine zg_ald (x := B 51 (r * 3 + 1)) (.inr ⟨rfl, rfl⟩) (zha (by decide)) zc_r_got (by decide) ⟨by omega, by omega⟩ ((zvB (zk_got (by omega) (by omega)) (by omega)).trans ((zup_ne (by omega)).trans (zup_ne (by omega)))) ?_
                    refine zg_eq0 rfl rfl (fun x k => rfl) (by first | assumption | exact hA _ _ | exact hB _ _ | exact hC _ _ | exact zrg_max (by assumption) (hA _ _) | (constructor <;> omega)) (fun hc => ?_) (fun hc => ?_)
                    ·
                      show XG _ _ 189 [some (.ref 107), some (zci (0)), some (zci (r)), some (zci (1)), some (zci (2))] _ _ _
                      refine zg_inc (y := 3) rfl rfl (by decide) rfl ?_
                      refine xg_step rfl rfl (fun k => rfl) ?_
                      show XG _ _ 92 [some (.ref 107), some (zci (0)), some (zci (r)), some (zci (1)), some (zci (3))] _ _ _
                      refine xg_step rfl rfl (fun k => rfl) ?_
                      refine xg_step rfl rfl (fun k => rfl) ?_
                      refine xg_step rfl rfl (fun k => rfl) ?_
                      show XG _ _ 195 [some (.ref 107), some (zci (0)), some (zci (r)), some (zci (1)), some (zci (3))] _ _ _
                      refine zg_inc (y := 2) rfl rfl (by decide) rfl ?_
                      refine xg_step rfl rfl (fun k => rfl) ?_
                      show XG _ _ 82 [some (.ref 107), some (zci (0)), some (zci (r)), some (zci (2)), some (zci (3))] _ _ _
                      refine xg_step rfl rfl (fun k => rfl) ?_
                      refine xg_step rfl rfl (fun k => rfl) ?_
                      refine xg_step rfl rfl (fun k => rfl) ?_
                      refine xg_step rfl rfl (fun k => rfl) ?_
                      refine xg_step rfl rfl (fun k => rfl) ?_
                      refine zg_addl (z := 3) rfl (by decide) ?_
                      refine xg_step rfl rfl (fun k => rfl) ?_
                      show XG _ _ 92 [some (.ref 107), some (zci (0)), some (zci (r)), some (zci (2)), some (zci (3))] _ _ _
                      refine xg_step rfl rfl (fun k => rfl) ?_
                      refine xg_step rfl rfl (fun k => rfl) ?_
                      refine xg_step rfl rfl (fun k => rfl) ?_
                      show XG _ _ 195 [some (.ref 107), some (zci (0)), some (zci (r)), some (zci (2)), some (zci (3))] _ _ _
                      refine zg_inc (y := 3) rfl rfl (by decide) rfl ?_
                      refine xg_step rfl rfl (fun k => rfl) ?_
                      show XG _ _ 82 [some (.ref 107), some (zci (0)), some (zci (r)), some (zci (3)), some (zci (3))] _ _ _
                      refine xg_step rfl rfl (fun k => rfl) ?_
                      refine xg_step rfl rfl (fun k => rfl) ?_
                      refine xg_step rfl rfl (fun k => rfl) ?_
                      show XG _ _ 201 [some (.ref 107), some (zci (0)), some (zci (r)), some (zci (3)), some (zci (3))] _ _ _
                      refine xg_step rfl rfl (fun k => rfl) ?_
                      refine xg_get rfl rfl (zha (by decide)) zc_RefM rfl rfl ?_
                      refine xg_step rfl rfl (fun k => rfl) ?_
                      refine zg_ald (x := B 53 r) (.inr ⟨rfl, rfl⟩) (zha (by decide)) zc_r_answered (by decide) ⟨by omega, by omega⟩ ((zvB (zk_answered (by omega)) (by omega)).trans ((zup_ne (by omega)).trans (zup_ne (by omega)))) ?_
                      refine zg_eq0 rfl rfl (fun x k => rfl) (by first | assumption | exact hA _ _ | exact hB _ _ | exact hC _ _ | exact zrg_max (by assumption) (hA _ _) | (constructor <;> omega)) (fun hc => ?_) (fun hc => ?_)
                      ·
                        refine xg_step rfl rfl (fun k => rfl) ?_
                        refine zg_iret rfl rfl zfitI ?_
                        have e : (zans B r 0 (B (72 + 17 * 0) r)) = (zup (zup B 51 (r * 3 + 0) 1) 52 (r * 3 + 0) (B (72 + 17 * 0) r)) := zan_all (fun k hk => by rw [zup_ne (by omega), zup_ne (by omega)]; rintro ⟨q1, q2, q3, q4⟩; rw [zup_ne (by omega), zup_ne (by omega)] at q3 q4; rcases (show k = 0 ∨ k = 1 ∨ k = 2 by omega) with rfl | rfl | rfl <;> first | omega | contradiction)
                        rw [e, zb2_f (by rw [zup_ne (by omega), zup_ne (by omega)]; omega)]
                      ·
                        exact (by omega : False).elim
                    ·
                      exact (by omega : False).elim
                  ·
                    exact (by omega : False).elim
            ·
              exact (by omega : False).elim
          ·
            refine xg_step rfl rfl (fun k => rfl) ?_
            refine xg_get rfl rfl (zha (by decide)) zc_RefM rfl rfl ?_
            refine zg_bi rfl (by decide) ?_
            refine xg_step rfl rfl (fun k => rfl) ?_
            refine zg_mul rfl ?_
            refine xg_step rfl rfl (fun k => rfl) ?_
            refine zg_add rfl ?_
            refine zg_ald (x := B (72 + 17 * 0) r) (.inl ⟨rfl, rfl⟩) (zha (by decide)) zc_r_gave (by decide) ⟨by omega, by omega⟩ ((zvB (zk_gave (by omega) (by omega)) (by omega)).trans (zup_eq ⟨by omega, by omega⟩)) ?_
            refine xg_step rfl rfl (fun k => rfl) ?_
            refine xg_get rfl rfl (zha (by decide)) zc_RefM rfl rfl ?_
            refine zg_bi rfl (by decide) ?_
            refine xg_step rfl rfl (fun k => rfl) ?_
            refine zg_mul rfl ?_
            refine xg_step rfl rfl (fun k => rfl) ?_
            refine zg_add rfl ?_
            refine zg_ald (x := B 52 (r * 3 + 1)) (.inl ⟨rfl, rfl⟩) (zha (by decide)) zc_r_gave (by decide) ⟨by omega, by omega⟩ ((zvB (zk_gave (by omega) (by omega)) (by omega)).trans ((zup_ne (by omega)).trans (zup_ne (by omega)))) ?_
            refine zg_eq rfl rfl (fun x y k => rfl) (by first | assumption | exact hA _ _ | exact hB _ _ | exact hC _ _ | exact zrg_max (by assumption) (hA _ _) | (constructor <;> omega)) (by first | assumption | exact hA _ _ | exact hB _ _ | exact hC _ _ | exact zrg_max (by assumption) (hA _ _) | (constructor <;> omega)) (fun hc => ?_) (fun hc => ?_)
            ·
              refine xg_step rfl rfl (fun k => rfl) ?_
              refine xg_get rfl rfl (zha (by decide)) zc_RefM rfl rfl ?_
              refine xg_step rfl rfl (fun k => rfl) ?_
              refine xg_step rfl rfl (fun k => rfl) ?_
              refine zg_ast (.inr ⟨rfl, rfl, by omega⟩) (zha (by decide)) zc_r_answered (by decide) ⟨by omega, by omega⟩ (zhwB (zwB (zk_answered (by omega)) zw_r_answered (by omega))) ?_
              refine xg_step rfl rfl (fun k => rfl) ?_
              refine xg_get rfl rfl (zha (by decide)) zc_RefM rfl rfl ?_
              refine xg_step rfl rfl (fun k => rfl) ?_
              refine xg_step rfl rfl (fun k => rfl) ?_
              refine xg_get rfl rfl (zha (by decide)) zc_RefM rfl rfl ?_
              refine zg_bi rfl (by decide) ?_
              refine xg_step rfl rfl (fun k => rfl) ?_
              refine zg_mul rfl ?_
              refine xg_step rfl rfl (fun k => rfl) ?_
              refine zg_add rfl ?_
              refine zg_ald (x := B (72 + 17 * 0) r) (.inl ⟨rfl, rfl⟩) (zha (by decide)) zc_r_gave (by decide) ⟨by omega, by omega⟩ ((zvB (zk_gave (by omega) (by omega)) (by omega)).trans ((zup_ne (by omega)).trans (zup_eq ⟨by omega, by omega⟩))) ?_
              refine zg_ast (.inl ⟨rfl, rfl⟩) (zha (by decide)) zc_r_answer (by decide) ⟨by omega, by omega⟩ (zhwB (zwB (zk_answer (by omega)) zw_r_answer (by omega))) ?_
              show XG _ _ 189 [some (.ref 107), some (zci (0)), some (zci (r)), some (zci (0)), some (zci (1))] _ _ _
              refine zg_inc (y := 2) rfl rfl (by decide) rfl ?_
              refine xg_step rfl rfl (fun k => rfl) ?_
              show XG _ _ 92 [some (.ref 107), some (zci (0)), some (zci (r)), some (zci (0)), some (zci (2))] _ _ _
              refine xg_step rfl rfl (fun k => rfl) ?_
              refine xg_step rfl rfl (fun k => rfl) ?_
              refine xg_step rfl rfl (fun k => rfl) ?_
              refine xg_step rfl rfl (fun k => rfl) ?_
              refine xg_get rfl rfl (zha (by decide)) zc_RefM rfl rfl ?_
              refine xg_step rfl rfl (fun k => rfl) ?_
              refine zg_ald (x := 1) (.inr ⟨rfl, rfl⟩) (zha (by decide)) zc_r_answered (by decide) ⟨by omega, by omega⟩ ((zvB (zk_answered (by omega)) (by omega)).trans ((zup_ne (by omega)).trans (zup_eq ⟨by omega, by omega⟩))) ?_
              refine xg_step rfl rfl (fun k => rfl) ?_
              show XG _ _ 195 [some (.ref 107), some (zci (0)), some (zci (r)), some (zci (0)), some (zci (2))] _ _ _
              refine zg_inc (y := 1) rfl rfl (by decide) rfl ?_
              refine xg_step rfl rfl (fun k => rfl) ?_
              show XG _ _ 82 [some (.ref 107), some (zci (0)), some (zci (r)), some (zci (1)), some (zci (2))] _ _ _
              refine xg_step rfl rfl (fun k => rfl) ?_
              refine xg_step rfl rfl (fun k => rfl) ?_
              refine xg_step rfl rfl (fun k => rfl) ?_
              refine xg_step rfl rfl (fun k => rfl) ?_
              refine xg_step rfl rfl (fun k => rfl) ?_
              refine zg_addl (z := 2) rfl (by decide) ?_
              refine xg_step rfl rfl (fun k => rfl) ?_
              show XG _ _ 92 [some (.ref 107), some (zci (0)), some (zci (r)), some (zci (1)), some (zci (2))] _ _ _
              refine xg_step rfl rfl (fun k => rfl) ?_
              refine xg_step rfl rfl (fun k => rfl) ?_
              refine xg_step rfl rfl (fun k => rfl) ?_
              refine xg_step rfl rfl (fun k => rfl) ?_
              refine xg_get rfl rfl (zha (by decide)) zc_RefM rfl rfl ?_
              refine xg_step rfl rfl (fun k => rfl) ?_
              refine zg_ald (x := 1) (.inr ⟨rfl, rfl⟩) (zha (by decide)) zc_r_answered (by decide) ⟨by omega, by omega⟩ ((zvB (zk_answered (by omega)) (by omega)).trans ((zup_ne (by omega)).trans (zup_eq ⟨by omega, by omega⟩))) ?_
              refine xg_step rfl rfl (fun k => rfl) ?_
              show XG _ _ 195 [some (.ref 107), some (zci (0)), some (zci (r)), some (zci (1)), some (zci (2))] _ _ _
              refine zg_inc (y := 2) rfl rfl (by decide) rfl ?_
              refine xg_step rfl rfl (fun k => rfl) ?_
              show XG _ _ 82 [some (.ref 107), some (zci (0)), some (zci (r)), some (zci (2)), some (zci (2))] _ _ _
              refine xg_step rfl rfl (fun k => rfl) ?_
              refine xg_step rfl rfl (fun k => rfl) ?_
              refine xg_step rfl rfl (fun k => rfl) ?_
              refine xg_step rfl rfl (fun k => rfl) ?_
              refine xg_step rfl rfl (fun k => rfl) ?_
              refine zg_addl (z := 3) rfl (by decide) ?_
              refine xg_step rfl rfl (fun k => rfl) ?_
              show XG _ _ 92 [some (.ref 107), some (zci (0)), some (zci (r)), some (zci (2)), some (zci (3))] _ _ _
              refine xg_step rfl rfl (fun k => rfl) ?_
              refine xg_step rfl rfl (fun k => rfl) ?_
              refine xg_step rfl rfl (fun k => rfl) ?_
              show XG _ _ 195 [some (.ref 107), some (zci (0)), some (zci (r)), some (zci (2)), some (zci (3))] _ _ _
              refine zg_inc (y := 3) rfl rfl (by decide) rfl ?_
              refine xg_step rfl rfl (fun k => rfl) ?_
              show XG _ _ 82 [some (.ref 107), some (zci (0)), some (zci (r)), some (zci (3)), some (zci (3))] _ _ _
              refine xg_step rfl rfl (fun k => rfl) ?_
              refine xg_step rfl rfl (fun k => rfl) ?_
              refine xg_step rfl rfl (fun k => rfl) ?_
              show XG _ _ 201 [some (.ref 107), some (zci (0)), some (zci (r)), some (zci (3)), some (zci (3))] _ _ _
              refine xg_step rfl rfl (fun k => rfl) ?_
              refine xg_get rfl rfl (zha (by decide)) zc_RefM rfl rfl ?_
              refine xg_step rfl rfl (fun k => rfl) ?_
              refine zg_ald (x := 1) (.inr ⟨rfl, rfl⟩) (zha (by decide)) zc_r_answered (by decide) ⟨by omega, by omega⟩ ((zvB (zk_answered (by omega)) (by omega)).trans ((zup_ne (by omega)).trans (zup_eq ⟨by omega, by omega⟩))) ?_
              refine xg_step rfl rfl (fun k => rfl) ?_
              refine xg_step rfl rfl (fun k => rfl) ?_
              refine xg_step rfl rfl (fun k => rfl) ?_
              refine zg_iret rfl rfl zfitI ?_
              have e : (zans B r 0 (B (72 + 17 * 0) r)) = zup (zup (zup (zup B 51 (r * 3 + 0) 1) 52 (r * 3 + 0) (B (72 + 17 * 0) r)) 53 r 1) 54 r (B (72 + 17 * 0) r) := by first | exact zan_one 3 0 2 1 rfl (by omega) ⟨by rw [zup_ne (by omega), zup_ne (by omega)]; assumption, by omega, by rw [zup_ne (by omega), zup_ne (by omega)]; assumption, by rw [zup_ne (by omega), zup_ne (by omega)]; omega⟩ | exact zan_one 3 0 2 2 rfl (by omega) ⟨by rw [zup_ne (by omega), zup_ne (by omega)]; assumption, by omega, by rw [zup_ne (by omega), zup_ne (by omega)]; assumption, by rw [zup_ne (by omega), zup_ne (by omega)]; omega⟩
              rw [e, zb2_t (by rw [zup_ne (by omega), zup_eq ⟨rfl, rfl⟩]; decide)]
            ·
              refine xg_step rfl rfl (fun k => rfl) ?_
              show XG _ _ 189 [some (.ref 107), some (zci (0)), some (zci (r)), some (zci (0)), some (zci (1))] _ _ _
              refine zg_inc (y := 2) rfl rfl (by decide) rfl ?_
              refine xg_step rfl rfl (fun k => rfl) ?_
              show XG _ _ 92 [some (.ref 107), some (zci (0)), some (zci (r)), some (zci (0)), some (zci (2))] _ _ _
              refine xg_step rfl rfl (fun k => rfl) ?_
              refine xg_step rfl rfl (fun k => rfl) ?_
              refine xg_step rfl rfl (fun k => rfl) ?_
              refine xg_step rfl rfl (fun k => rfl) ?_
              refine xg_get rfl rfl (zha (by decide)) zc_RefM rfl rfl ?_
              refine xg_step rfl rfl (fun k => rfl) ?_
              refine zg_ald (x := B 53 r) (.inr ⟨rfl, rfl⟩) (zha (by decide)) zc_r_answered (by decide) ⟨by omega, by omega⟩ ((zvB (zk_answered (by omega)) (by omega)).trans ((zup_ne (by omega)).trans (zup_ne (by omega)))) ?_
              refine zg_eq0 rfl rfl (fun x k => rfl) (by first | assumption | exact hA _ _ | exact hB _ _ | exact hC _ _ | exact zrg_max (by assumption) (hA _ _) | (constructor <;> omega)) (fun hc => ?_) (fun hc => ?_)
              ·
                refine xg_step rfl rfl (fun k => rfl) ?_
                refine xg_get rfl rfl (zha (by decide)) zc_RefM rfl rfl ?_
                refine zg_bi rfl (by decide) ?_
                refine xg_step rfl rfl (fun k => rfl) ?_
                refine zg_mul rfl ?_
                refine xg_step rfl rfl (fun k => rfl) ?_
                refine zg_add rfl ?_
                refine zg_ald (x := 1) (.inr ⟨rfl, rfl⟩) (zha (by decide)) zc_r_got (by decide) ⟨by omega, by omega⟩ ((zvB (zk_got (by omega) (by omega)) (by omega)).trans ((zup_ne (by omega)).trans (zup_eq ⟨by omega, by omega⟩))) ?_
                refine xg_step rfl rfl (fun k => rfl) ?_
                refine xg_step rfl rfl (fun k => rfl) ?_
                refine xg_get rfl rfl (zha (by decide)) zc_RefM rfl rfl ?_
                refine zg_bi rfl (by decide) ?_
                refine xg_step rfl rfl (fun k => rfl) ?_
                refine zg_mul rfl ?_
                refine xg_step rfl rfl (fun k => rfl) ?_
                refine zg_add rfl ?_
                refine zg_ald (x := B 51 (r * 3 + 2)) (.inr ⟨rfl, rfl⟩) (zha (by decide)) zc_r_got (by decide) ⟨by omega, by omega⟩ ((zvB (zk_got (by omega) (by omega)) (by omega)).trans ((zup_ne (by omega)).trans (zup_ne (by omega)))) ?_
                refine zg_eq0 rfl rfl (fun x k => rfl) (by first | assumption | exact hA _ _ | exact hB _ _ | exact hC _ _ | exact zrg_max (by assumption) (hA _ _) | (constructor <;> omega)) (fun hc => ?_) (fun hc => ?_)
                ·
                  show XG _ _ 189 [some (.ref 107), some (zci (0)), some (zci (r)), some (zci (0)), some (zci (2))] _ _ _
                  refine zg_inc (y := 3) rfl rfl (by decide) rfl ?_
                  refine xg_step rfl rfl (fun k => rfl) ?_
                  show XG _ _ 92 [some (.ref 107), some (zci (0)), some (zci (r)), some (zci (0)), some (zci (3))] _ _ _
                  refine xg_step rfl rfl (fun k => rfl) ?_
                  refine xg_step rfl rfl (fun k => rfl) ?_
                  refine xg_step rfl rfl (fun k => rfl) ?_
                  show XG _ _ 195 [some (.ref 107), some (zci (0)), some (zci (r)), some (zci (0)), some (zci (3))] _ _ _
                  refine zg_inc (y := 1) rfl rfl (by decide) rfl ?_
                  refine xg_step rfl rfl (fun k => rfl) ?_
                  show XG _ _ 82 [some (.ref 107), some (zci (0)), some (zci (r)), some (zci (1)), some (zci (3))] _ _ _
                  refine xg_step rfl rfl (fun k => rfl) ?_
                  refine xg_step rfl rfl (fun k => rfl) ?_
                  refine xg_step rfl rfl (fun k => rfl) ?_
                  refine xg_step rfl rfl (fun k => rfl) ?_
                  refine xg_step rfl rfl (fun k => rfl) ?_
                  refine zg_addl (z := 2) rfl (by decide) ?_
                  refine xg_step rfl rfl (fun k => rfl) ?_
                  show XG _ _ 92 [some (.ref 107), some (zci (0)), some (zci (r)), some (zci (1)), some (zci (2))] _ _ _
                  refine xg_step rfl rfl (fun k => rfl) ?_
                  refine xg_step rfl rfl (fun k => rfl) ?_
                  refine xg_step rfl rfl (fun k => rfl) ?_
                  refine xg_step rfl rfl (fun k => rfl) ?_
                  refine xg_get rfl rfl (zha (by decide)) zc_RefM rfl rfl ?_
                  refine xg_step rfl rfl (fun k => rfl) ?_
                  refine zg_ald (x := B 53 r) (.inr ⟨rfl, rfl⟩) (zha (by decide)) zc_r_answered (by decide) ⟨by omega, by omega⟩ ((zvB (zk_answered (by omega)) (by omega)).trans ((zup_ne (by omega)).trans (zup_ne (by omega)))) ?_
                  refine zg_eq0 rfl rfl (fun x k => rfl) (by first | assumption | exact hA _ _ | exact hB _ _ | exact hC _ _ | exact zrg_max (by assumption) (hA _ _) | (constructor <;> omega)) (fun hc => ?_) (fun hc => ?_)
                  ·
                    refine xg_step rfl rfl (fun k => rfl) ?_
                    refine xg_get rfl rfl (zha (by decide)) zc_RefM rfl rfl ?_
                    refine zg_bi rfl (by decide) ?_
                    refine xg_step rfl rfl (fun k => rfl) ?_
                    refine zg_mul rfl ?_
                    refine xg_step rfl rfl (fun k => rfl) ?_
                    refine zg_add rfl ?_
                    refine zg_ald (x := B 51 (r * 3 + 1)) (.inr ⟨rfl, rfl⟩) (zha (by decide)) zc_r_got (by decide) ⟨by omega, by omega⟩ ((zvB (zk_got (by omega) (by omega)) (by omega)).trans ((zup_ne (by omega)).trans (zup_ne (by omega)))) ?_
                    refine zg_eq0 rfl rfl (fun x k => rfl) (by first | assumption | exact hA _ _ | exact hB _ _ | exact hC _ _ | exact zrg_max (by assumption) (hA _ _) | (constructor <;> omega)) (fun hc => ?_) (fun hc => ?_)
                    ·
                      exact (by omega : False).elim
                    ·
                      refine xg_step rfl rfl (fun k => rfl) ?_
                      refine xg_get rfl rfl (zha (by decide)) zc_RefM rfl rfl ?_
                      refine zg_bi rfl (by decide) ?_
                      refine xg_step rfl rfl (fun k => rfl) ?_
                      refine zg_mul rfl ?_
                      refine xg_step rfl rfl (fun k => rfl) ?_
                      refine zg_add rfl ?_
                      refine zg_ald (x := B 51 (r * 3 + 2)) (.inr ⟨rfl, rfl⟩) (zha (by decide)) zc_r_got (by decide) ⟨by omega, by omega⟩ ((zvB (zk_got (by omega) (by omega)) (by omega)).trans ((zup_ne (by omega)).trans (zup_ne (by omega)))) ?_
                      refine zg_eq0 rfl rfl (fun x k => rfl) (by first | assumption | exact hA _ _ | exact hB _ _ | exact hC _ _ | exact zrg_max (by assumption) (hA _ _) | (constructor <;> omega)) (fun hc => ?_) (fun hc => ?_)
                      ·
                        show XG _ _ 189 [some (.ref 107), some (zci (0)), some (zci (r)), some (zci (1)), some (zci (2))] _ _ _
                        refine zg_inc (y := 3) rfl rfl (by decide) rfl ?_
                        refine xg_step rfl rfl (fun k => rfl) ?_
                        show XG _ _ 92 [some (.ref 107), some (zci (0)), some (zci (r)), some (zci (1)), some (zci (3))] _ _ _
                        refine xg_step rfl rfl (fun k => rfl) ?_
                        refine xg_step rfl rfl (fun k => rfl) ?_
                        refine xg_step rfl rfl (fun k => rfl) ?_
                        show XG _ _ 195 [some (.ref 107), some (zci (0)), some (zci (r)), some (zci (1)), some (zci (3))] _ _ _
                        refine zg_inc (y := 2) rfl rfl (by decide) rfl ?_
                        refine xg_step rfl rfl (fun k => rfl) ?_
                        show XG _ _ 82 [some (.ref 107), some (zci (0)), some (zci (r)), some (zci (2)), some (zci (3))] _ _ _
                        refine xg_step rfl rfl (fun k => rfl) ?_
                        refine xg_step rfl rfl (fun k => rfl) ?_
                        refine xg_step rfl rfl (fun k => rfl) ?_
                        refine xg_step rfl rfl (fun k => rfl) ?_
                        refine xg_step rfl rfl (fun k => rfl) ?_
                        refine zg_addl (z := 3) rfl (by decide) ?_
                        refine xg_step rfl rfl (fun k => rfl) ?_
                        show XG _ _ 92 [some (.ref 107), some (zci (0)), some (zci (r)), some (zci (2)), some (zci (3))] _ _ _
                        refine xg_step rfl rfl (fun k => rfl) ?_
                        refine xg_step rfl rfl (fun k => rfl) ?_
                        refine xg_step rfl rfl (fun k => rfl) ?_
                        show XG _ _ 195 [some (.ref 107), some (zci (0)), some (zci (r)), some (zci (2)), some (zci (3))] _ _ _
                        refine zg_inc (y := 3) rfl rfl (by decide) rfl ?_
                        refine xg_step rfl rfl (fun k => rfl) ?_
                        show XG _ _ 82 [some (.ref 107), some (zci (0)), some (zci (r)), some (zci (3)), some (zci (3))] _ _ _
                        refine xg_step rfl rfl (fun k => rfl) ?_
                        refine xg_step rfl rfl (fun k => rfl) ?_
                        refine xg_step rfl rfl (fun k => rfl) ?_
                        show XG _ _ 201 [some (.ref 107), some (zci (0)), some (zci (r)), some (zci (3)), some (zci (3))] _ _ _
                        refine xg_step rfl rfl (fun k => rfl) ?_
                        refine xg_get rfl rfl (zha (by decide)) zc_RefM rfl rfl ?_
                        refine xg_step rfl rfl (fun k => rfl) ?_
                        refine zg_ald (x := B 53 r) (.inr ⟨rfl, rfl⟩) (zha (by decide)) zc_r_answered (by decide) ⟨by omega, by omega⟩ ((zvB (zk_answered (by omega)) (by omega)).trans ((zup_ne (by omega)).trans (zup_ne (by omega)))) ?_
                        refine zg_eq0 rfl rfl (fun x k => rfl) (by first | assumption | exact hA _ _ | exact hB _ _ | exact hC _ _ | exact zrg_max (by assumption) (hA _ _) | (constructor <;> omega)) (fun hc => ?_) (fun hc => ?_)
                        ·
                          refine xg_step rfl rfl (fun k => rfl) ?_
                          refine zg_iret rfl rfl zfitI ?_
                          have e : (zans B r 0 (B (72 + 17 * 0) r)) = (zup (zup B 51 (r * 3 + 0) 1) 52 (r * 3 + 0) (B (72 + 17 * 0) r)) := zan_all (fun k hk => by rw [zup_ne (by omega), zup_ne (by omega)]; rintro ⟨q1, q2, q3, q4⟩; rw [zup_ne (by omega), zup_ne (by omega)] at q3 q4; rcases (show k = 0 ∨ k = 1 ∨ k = 2 by omega) with rfl | rfl | rfl <;> first | omega | contradiction)
                          rw [e, zb2_f (by rw [zup_ne (by omega), zup_ne (by omega)]; omega)]
                        ·
                          exact (by omega : False).elim
                      ·
                        exact (by omega : False).elim
                  ·
                    exact (by omega : False).elim
                ·
                  refine xg_step rfl rfl (fun k => rfl) ?_
                  refine xg_get rfl rfl (zha (by decide)) zc_RefM rfl rfl ?_
                  refine zg_bi rfl (by decide) ?_
                  refine xg_step rfl rfl (fun k => rfl) ?_
                  refine zg_mul rfl ?_
                  refine xg_step rfl rfl (fun k => rfl) ?_
                  refine zg_add rfl ?_
                  refine zg_ald (x := B (72 + 17 * 0) r) (.inl ⟨rfl, rfl⟩) (zha (by decide)) zc_r_gave (by decide) ⟨by omega, by omega⟩ ((zvB (zk_gave (by omega) (by omega)) (by omega)).trans (zup_eq ⟨by omega, by omega⟩)) ?_
                  refine xg_step rfl rfl (fun k => rfl) ?_
                  refine xg_get rfl rfl (zha (by decide)) zc_RefM rfl rfl ?_
                  refine zg_bi rfl (by decide) ?_
                  refine xg_step rfl rfl (fun k => rfl) ?_
                  refine zg_mul rfl ?_
                  refine xg_step rfl rfl (fun k => rfl) ?_
                  refine zg_add rfl ?_
                  refine zg_ald (x := B 52 (r * 3 + 2)) (.inl ⟨rfl, rfl⟩) (zha (by decide)) zc_r_gave (by decide) ⟨by omega, by omega⟩ ((zvB (zk_gave (by omega) (by omega)) (by omega)).trans ((zup_ne (by omega)).trans (zup_ne (by omega)))) ?_
                  refine zg_eq rfl rfl (fun x y k => rfl) (by first | assumption | exact hA _ _ | exact hB _ _ | exact hC _ _ | exact zrg_max (by assumption) (hA _ _) | (constructor <;> omega)) (by first | assumption | exact hA _ _ | exact hB _ _ | exact hC _ _ | exact zrg_max (by assumption) (hA _ _) | (constructor <;> omega)) (fun hc => ?_) (fun hc => ?_)
                  ·
                    refine xg_step rfl rfl (fun k => rfl) ?_
                    refine xg_get rfl rfl (zha (by decide)) zc_RefM rfl rfl ?_
                    refine xg_step rfl rfl (fun k => rfl) ?_
                    refine xg_step rfl rfl (fun k => rfl) ?_
                    refine zg_ast (.inr ⟨rfl, rfl, by omega⟩) (zha (by decide)) zc_r_answered (by decide) ⟨by omega, by omega⟩ (zhwB (zwB (zk_answered (by omega)) zw_r_answered (by omega))) ?_
                    refine xg_step rfl rfl (fun k => rfl) ?_
                    refine xg_get rfl rfl (zha (by decide)) zc_RefM rfl rfl ?_
                    refine xg_step rfl rfl (fun k => rfl) ?_
                    refine xg_step rfl rfl (fun k => rfl) ?_
                    refine xg_get rfl rfl (zha (by decide)) zc_RefM rfl rfl ?_
                    refine zg_bi rfl (by decide) ?_
                    refine xg_step rfl rfl (fun k => rfl) ?_
                    refine zg_mul rfl ?_
                    refine xg_step rfl rfl (fun k => rfl) ?_
                    refine zg_add rfl ?_
                    refine zg_ald (x := B (72 + 17 * 0) r) (.inl ⟨rfl, rfl⟩) (zha (by decide)) zc_r_gave (by decide) ⟨by omega, by omega⟩ ((zvB (zk_gave (by omega) (by omega)) (by omega)).trans ((zup_ne (by omega)).trans (zup_eq ⟨by omega, by omega⟩))) ?_
                    refine zg_ast (.inl ⟨rfl, rfl⟩) (zha (by decide)) zc_r_answer (by decide) ⟨by omega, by omega⟩ (zhwB (zwB (zk_answer (by omega)) zw_r_answer (by omega))) ?_
                    show XG _ _ 189 [some (.ref 107), some (zci (0)), some (zci (r)), some (zci (0)), some (zci (2))] _ _ _
                    refine zg_inc (y := 3) rfl rfl (by decide) rfl ?_
                    refine xg_step rfl rfl (fun k => rfl) ?_
                    show XG _ _ 92 [some (.ref 107), some (zci (0)), some (zci (r)), some (zci (0)), some (zci (3))] _ _ _
                    refine xg_step rfl rfl (fun k => rfl) ?_
                    refine xg_step rfl rfl (fun k => rfl) ?_
                    refine xg_step rfl rfl (fun k => rfl) ?_
                    show XG _ _ 195 [some (.ref 107), some (zci (0)), some (zci (r)), some (zci (0)), some (zci (3))] _ _ _
                    refine zg_inc (y := 1) rfl rfl (by decide) rfl ?_
                    refine xg_step rfl rfl (fun k => rfl) ?_
                    show XG _ _ 82 [some (.ref 107), some (zci (0)), some (zci (r)), some (zci (1)), some (zci (3))] _ _ _
                    refine xg_step rfl rfl (fun k => rfl) ?_
                    refine xg_step rfl rfl (fun k => rfl) ?_
                    refine xg_step rfl rfl (fun k => rfl) ?_
                    refine xg_step rfl rfl (fun k => rfl) ?_
                    refine xg_step rfl rfl (fun k => rfl) ?_
                    refine zg_addl (z := 2) rfl (by decide) ?_
                    refine xg_step rfl rfl (fun k => rfl) ?_
                    show XG _ _ 92 [some (.ref 107), some (zci (0)), some (zci (r)), some (zci (1)), some (zci (2))] _ _ _
                    refine xg_step rfl rfl (fun k => rfl) ?_
                    refine xg_step rfl rfl (fun k => rfl) ?_
                    refine xg_step rfl rfl (fun k => rfl) ?_
                    refine xg_step rfl rfl (fun k => rfl) ?_
                    refine xg_get rfl rfl (zha (by decide)) zc_RefM rfl rfl ?_
                    refine xg_step rfl rfl (fun k => rfl) ?_
                    refine zg_ald (x := 1) (.inr ⟨rfl, rfl⟩) (zha (by decide)) zc_r_answered (by decide) ⟨by omega, by omega⟩ ((zvB (zk_answered (by omega)) (by omega)).trans ((zup_ne (by omega)).trans (zup_eq ⟨by omega, by omega⟩))) ?_
                    refine xg_step rfl rfl (fun k => rfl) ?_
                    show XG _ _ 195 [some (.ref 107), some (zci (0)), some (zci (r)), some (zci (1)), some (zci (2))] _ _ _
                    refine zg_inc (y := 2) rfl rfl (by decide) rfl ?_
                    refine xg_step rfl rfl (fun k => rfl) ?_
                    show XG _ _ 82 [some (.ref 107), some (zci (0)), some (zci (r)), some (zci (2)), some (zci (2))] _ _ _
                    refine xg_step rfl rfl (fun k => rfl) ?_
                    refine xg_step rfl rfl (fun k => rfl) ?_
                    refine xg_step rfl rfl (fun k => rfl) ?_
                    refine xg_step rfl rfl (fun k => rfl) ?_
                    refine xg_step rfl rfl (fun k => rfl) ?_
                    refine zg_addl (z := 3) rfl (by decide) ?_
                    refine xg_step rfl rfl (fun k => rfl) ?_
                    show XG _ _ 92 [some (.ref 107), some (zci (0)), some (zci (r)), some (zci (2)), some (zci (3))] _ _ _
                    refine xg_step rfl rfl (fun k => rfl) ?_
                    refine xg_step rfl rfl (fun k => rfl) ?_
                    refine xg_step rfl rfl (fun k => rfl) ?_
                    show XG _ _ 195 [some (.ref 107), some (zci (0)), some (zci (r)), some (zci (2)), some (zci (3))] _ _ _
                    refine zg_inc (y := 3) rfl rfl (by decide) rfl ?_
                    refine xg_step rfl rfl (fun k => rfl) ?_
                    show XG _ _ 82 [some (.ref 107), some (zci (0)), some (zci (r)), some (zci (3)), some (zci (3))] _ _ _
                    refine xg_step rfl rfl (fun k => rfl) ?_
                    refine xg_step rfl rfl (fun k => rfl) ?_
                    refine xg_step rfl rfl (fun k => rfl) ?_
                    show XG _ _ 201 [some (.ref 107), some (zci (0)), some (zci (r)), some (zci (3)), some (zci (3))] _ _ _
                    refine xg_step rfl rfl (fun k => rfl) ?_
                    refine xg_get rfl rfl (zha (by decide)) zc_RefM rfl rfl ?_
                    refine xg_step rfl rfl (fun k => rfl) ?_
                    refine zg_ald (x := 1) (.inr ⟨rfl, rfl⟩) (zha (by decide)) zc_r_answered (by decide) ⟨by omega, by omega⟩ ((zvB (zk_answered (by omega)) (by omega)).trans ((zup_ne (by omega)).trans (zup_eq ⟨by omega, by omega⟩))) ?_
                    refine xg_step rfl rfl (fun k => rfl) ?_
                    refine xg_step rfl rfl (fun k => rfl) ?_
                    refine xg_step rfl rfl (fun k => rfl) ?_
                    refine zg_iret rfl rfl zfitI ?_
                    have e : (zans B r 0 (B (72 + 17 * 0) r)) = zup (zup (zup (zup B 51 (r * 3 + 0) 1) 52 (r * 3 + 0) (B (72 + 17 * 0) r)) 53 r 1) 54 r (B (72 + 17 * 0) r) := by first | exact zan_one 3 0 2 1 rfl (by omega) ⟨by rw [zup_ne (by omega), zup_ne (by omega)]; assumption, by omega, by rw [zup_ne (by omega), zup_ne (by omega)]; assumption, by rw [zup_ne (by omega), zup_ne (by omega)]; omega⟩ | exact zan_one 3 0 2 2 rfl (by omega) ⟨by rw [zup_ne (by omega), zup_ne (by omega)]; assumption, by omega, by rw [zup_ne (by omega), zup_ne (by omega)]; assumption, by rw [zup_ne (by omega), zup_ne (by omega)]; omega⟩
                    rw [e, zb2_t (by rw [zup_ne (by omega), zup_eq ⟨rfl, rfl⟩]; decide)]
                  ·
                    refine xg_step rfl rfl (fun k => rfl) ?_
                    show XG _ _ 189 [some (.ref 107), some (zci (0)), some (zci (r)), some (zci (0)), some (zci (2))] _ _ _
                    refine zg_inc (y := 3) rfl rfl (by decide) rfl ?_
                    refine xg_step rfl rfl (fun k => rfl) ?_
                    show XG _ _ 92 [some (.ref 107), some (zci (0)), some (zci (r)), some (zci (0)), some (zci (3))] _ _ _
                    refine xg_step rfl rfl (fun k => rfl) ?_
                    refine xg_step rfl rfl (fun k => rfl) ?_
                    refine xg_step rfl rfl (fun k => rfl) ?_
                    show XG _ _ 195 [some (.ref 107), some (zci (0)), some (zci (r)), some (zci (0)), some (zci (3))] _ _ _
                    refine zg_inc (y := 1) rfl rfl (by decide) rfl ?_
                    refine xg_step rfl rfl (fun k => rfl) ?_
                    show XG _ _ 82 [some (.ref 107), some (zci (0)), some (zci (r)), some (zci (1)), some (zci (3))] _ _ _
                    refine xg_step rfl rfl (fun k => rfl) ?_
                    refine xg_step rfl rfl (fun k => rfl) ?_
                    refine xg_step rfl rfl (fun k => rfl) ?_
                    refine xg_step rfl rfl (fun k => rfl) ?_
                    refine xg_step rfl rfl (fun k => rfl) ?_
                    refine zg_addl (z := 2) rfl (by decide) ?_
                    refine xg_step rfl rfl (fun k => rfl) ?_
                    show XG _ _ 92 [some (.ref 107), some (zci (0)), some (zci (r)), some (zci (1)), some (zci (2))] _ _ _
                    refine xg_step rfl rfl (fun k => rfl) ?_
                    refine xg_step rfl rfl (fun k => rfl) ?_
                    refine xg_step rfl rfl (fun k => rfl) ?_
                    refine xg_step rfl rfl (fun k => rfl) ?_
                    refine xg_get rfl rfl (zha (by decide)) zc_RefM rfl rfl ?_
                    refine xg_step rfl rfl (fun k => rfl) ?_
                    refine zg_ald (x := B 53 r) (.inr ⟨rfl, rfl⟩) (zha (by decide)) zc_r_answered (by decide) ⟨by omega, by omega⟩ ((zvB (zk_answered (by omega)) (by omega)).trans ((zup_ne (by omega)).trans (zup_ne (by omega)))) ?_
                    refine zg_eq0 rfl rfl (fun x k => rfl) (by first | assumption | exact hA _ _ | exact hB _ _ | exact hC _ _ | exact zrg_max (by assumption) (hA _ _) | (constructor <;> omega)) (fun hc => ?_) (fun hc => ?_)
                    ·
                      refine xg_step rfl rfl (fun k => rfl) ?_
                      refine xg_get rfl rfl (zha (by decide)) zc_RefM rfl rfl ?_
                      refine zg_bi rfl (by decide) ?_
                      refine xg_step rfl rfl (fun k => rfl) ?_
                      refine zg_mul rfl ?_
                      refine xg_step rfl rfl (fun k => rfl) ?_
                      refine zg_add rfl ?_
                      refine zg_ald (x := B 51 (r * 3 + 1)) (.inr ⟨rfl, rfl⟩) (zha (by decide)) zc_r_got (by decide) ⟨by omega, by omega⟩ ((zvB (zk_got (by omega) (by omega)) (by omega)).trans ((zup_ne (by omega)).trans (zup_ne (by omega)))) ?_
                      refine zg_eq0 rfl rfl (fun x k => rfl) (by first | assumption | exact hA _ _ | exact hB _ _ | exact hC _ _ | exact zrg_max (by assumption) (hA _ _) | (constructor <;> omega)) (fun hc => ?_) (fun hc => ?_)
                      ·
                        exact (by omega : False).elim
                      ·
                        refine xg_step rfl rfl (fun k => rfl) ?_
                        refine xg_get rfl rfl (zha (by decide)) zc_RefM rfl rfl ?_
                        refine zg_bi rfl (by decide) ?_
                        refine xg_step rfl rfl (fun k => rfl) ?_
                        refine zg_mul rfl ?_
                        refine xg_step rfl rfl (fun k => rfl) ?_
                        refine zg_add rfl ?_
                        refine zg_ald (x := B 51 (r * 3 + 2)) (.inr ⟨rfl, rfl⟩) (zha (by decide)) zc_r_got (by decide) ⟨by omega, by omega⟩ ((zvB (zk_got (by omega) (by omega)) (by omega)).trans ((zup_ne (by omega)).trans (zup_ne (by omega)))) ?_
                        refine zg_eq0 rfl rfl (fun x k => rfl) (by first | assumption | exact hA _ _ | exact hB _ _ | exact hC _ _ | exact zrg_max (by assumption) (hA _ _) | (constructor <;> omega)) (fun hc => ?_) (fun hc => ?_)
                        ·
                          exact (by omega : False).elim
                        ·
                          refine xg_step rfl rfl (fun k => rfl) ?_
                          refine xg_get rfl rfl (zha (by decide)) zc_RefM rfl rfl ?_
                          refine zg_bi rfl (by decide) ?_
                          refine xg_step rfl rfl (fun k => rfl) ?_
                          refine zg_mul rfl ?_
                          refine xg_step rfl rfl (fun k => rfl) ?_
                          refine zg_add rfl ?_
                          refine zg_ald (x := B 52 (r * 3 + 1)) (.inl ⟨rfl, rfl⟩) (zha (by decide)) zc_r_gave (by decide) ⟨by omega, by omega⟩ ((zvB (zk_gave (by omega) (by omega)) (by omega)).trans ((zup_ne (by omega)).trans (zup_ne (by omega)))) ?_
                          refine xg_step rfl rfl (fun k => rfl) ?_
                          refine xg_get rfl rfl (zha (by decide)) zc_RefM rfl rfl ?_
                          refine zg_bi rfl (by decide) ?_
                          refine xg_step rfl rfl (fun k => rfl) ?_
                          refine zg_mul rfl ?_
                          refine xg_step rfl rfl (fun k => rfl) ?_
                          refine zg_add rfl ?_
                          refine zg_ald (x := B 52 (r * 3 + 2)) (.inl ⟨rfl, rfl⟩) (zha (by decide)) zc_r_gave (by decide) ⟨by omega, by omega⟩ ((zvB (zk_gave (by omega) (by omega)) (by omega)).trans ((zup_ne (by omega)).trans (zup_ne (by omega)))) ?_
                          refine zg_eq rfl rfl (fun x y k => rfl) (by first | assumption | exact hA _ _ | exact hB _ _ | exact hC _ _ | exact zrg_max (by assumption) (hA _ _) | (constructor <;> omega)) (by first | assumption | exact hA _ _ | exact hB _ _ | exact hC _ _ | exact zrg_max (by assumption) (hA _ _) | (constructor <;> omega)) (fun hc => ?_) (fun hc => ?_)
                          ·
                            refine xg_step rfl rfl (fun k => rfl) ?_
                            refine xg_get rfl rfl (zha (by decide)) zc_RefM rfl rfl ?_
                            refine xg_step rfl rfl (fun k => rfl) ?_
                            refine xg_step rfl rfl (fun k => rfl) ?_
                            refine zg_ast (.inr ⟨rfl, rfl, by omega⟩) (zha (by decide)) zc_r_answered (by decide) ⟨by omega, by omega⟩ (zhwB (zwB (zk_answered (by omega)) zw_r_answered (by omega))) ?_
                            refine xg_step rfl rfl (fun k => rfl) ?_
                            refine xg_get rfl rfl (zha (by decide)) zc_RefM rfl rfl ?_
                            refine xg_step rfl rfl (fun k => rfl) ?_
                            refine xg_step rfl rfl (fun k => rfl) ?_
                            refine xg_get rfl rfl (zha (by decide)) zc_RefM rfl rfl ?_
                            refine zg_bi rfl (by decide) ?_
                            refine xg_step rfl rfl (fun k => rfl) ?_
                            refine zg_mul rfl ?_
                            refine xg_step rfl rfl (fun k => rfl) ?_
                            refine zg_add rfl ?_
                            refine zg_ald (x := B 52 (r * 3 + 1)) (.inl ⟨rfl, rfl⟩) (zha (by decide)) zc_r_gave (by decide) ⟨by omega, by omega⟩ ((zvB (zk_gave (by omega) (by omega)) (by omega)).trans ((zup_ne (by omega)).trans ((zup_ne (by omega)).trans (zup_ne (by omega))))) ?_
                            refine zg_ast (.inl ⟨rfl, rfl⟩) (zha (by decide)) zc_r_answer (by decide) ⟨by omega, by omega⟩ (zhwB (zwB (zk_answer (by omega)) zw_r_answer (by omega))) ?_
                            show XG _ _ 189 [some (.ref 107), some (zci (0)), some (zci (r)), some (zci (1)), some (zci (2))] _ _ _
                            refine zg_inc (y := 3) rfl rfl (by decide) rfl ?_
                            refine xg_step rfl rfl (fun k => rfl) ?_
                            show XG _ _ 92 [some (.ref 107), some (zci (0)), some (zci (r)), some (zci (1)), some (zci (3))] _ _ _
                            refine xg_step rfl rfl (fun k => rfl) ?_
                            refine xg_step rfl rfl (fun k => rfl) ?_
                            refine xg_step rfl rfl (fun k => rfl) ?_
                            show XG _ _ 195 [some (.ref 107), some (zci (0)), some (zci (r)), some (zci (1)), some (zci (3))] _ _ _
                            refine zg_inc (y := 2) rfl rfl (by decide) rfl ?_
                            refine xg_step rfl rfl (fun k => rfl) ?_
                            show XG _ _ 82 [some (.ref 107), some (zci (0)), some (zci (r)), some (zci (2)), some (zci (3))] _ _ _
                            refine xg_step rfl rfl (fun k => rfl) ?_
                            refine xg_step rfl rfl (fun k => rfl) ?_
                            refine xg_step rfl rfl (fun k => rfl) ?_
                            refine xg_step rfl rfl (fun k => rfl) ?_
                            refine xg_step rfl rfl (fun k => rfl) ?_
                            refine zg_addl (z := 3) rfl (by decide) ?_
                            refine xg_step rfl rfl (fun k => rfl) ?_
                            show XG _ _ 92 [some (.ref 107), some (zci (0)), some (zci (r)), some (zci (2)), some (zci (3))] _ _ _
                            refine xg_step rfl rfl (fun k => rfl) ?_
                            refine xg_step rfl rfl (fun k => rfl) ?_
                            refine xg_step rfl rfl (fun k => rfl) ?_
                            show XG _ _ 195 [some (.ref 107), some (zci (0)), some (zci (r)), some (zci (2)), some (zci (3))] _ _ _
                            refine zg_inc (y := 3) rfl rfl (by decide) rfl ?_
                            refine xg_step rfl rfl (fun k => rfl) ?_
                            show XG _ _ 82 [some (.ref 107), some (zci (0)), some (zci (r)), some (zci (3)), some (zci (3))] _ _ _
                            refine xg_step rfl rfl (fun k => rfl) ?_
                            refine xg_step rfl rfl (fun k => rfl) ?_
                            refine xg_step rfl rfl (fun k => rfl) ?_
                            show XG _ _ 201 [some (.ref 107), some (zci (0)), some (zci (r)), some (zci (3)), some (zci (3))] _ _ _
                            refine xg_step rfl rfl (fun k => rfl) ?_
                            refine xg_get rfl rfl (zha (by decide)) zc_RefM rfl rfl ?_
                            refine xg_step rfl rfl (fun k => rfl) ?_
                            refine zg_ald (x := 1) (.inr ⟨rfl, rfl⟩) (zha (by decide)) zc_r_answered (by decide) ⟨by omega, by omega⟩ ((zvB (zk_answered (by omega)) (by omega)).trans ((zup_ne (by omega)).trans (zup_eq ⟨by omega, by omega⟩))) ?_
                            refine xg_step rfl rfl (fun k => rfl) ?_
                            refine xg_step rfl rfl (fun k => rfl) ?_
                            refine xg_step rfl rfl (fun k => rfl) ?_
                            refine zg_iret rfl rfl zfitI ?_
                            have e : (zans B r 0 (B (72 + 17 * 0) r)) = zup (zup (zup (zup B 51 (r * 3 + 0) 1) 52 (r * 3 + 0) (B (72 + 17 * 0) r)) 53 r 1) 54 r (B (72 + 17 * 0) r) := by first | exact zan_one 3 0 2 1 rfl (by omega) ⟨by rw [zup_ne (by omega), zup_ne (by omega)]; assumption, by omega, by rw [zup_ne (by omega), zup_ne (by omega)]; assumption, by rw [zup_ne (by omega), zup_ne (by omega)]; omega⟩ | exact zan_one 3 0 2 2 rfl (by omega) ⟨by rw [zup_ne (by omega), zup_ne (by omega)]; assumption, by omega, by rw [zup_ne (by omega), zup_ne (by omega)]; assumption, by rw [zup_ne (by omega), zup_ne (by omega)]; omega⟩
                            rw [e, zb2_t (by rw [zup_ne (by omega), zup_eq ⟨rfl, rfl⟩]; decide), show B 52 (r * 3 + 1) = B (72 + 17 * 0) r by omega]
                          ·
                            refine xg_step rfl rfl (fun k => rfl) ?_
                            show XG _ _ 189 [some (.ref 107), some (zci (0)), some (zci (r)), some (zci (1)), some (zci (2))] _ _ _
                            refine zg_inc (y := 3) rfl rfl (by decide) rfl ?_
                            refine xg_step rfl rfl (fun k => rfl) ?_
                            show XG _ _ 92 [some (.ref 107), some (zci (0)), some (zci (r)), some (zci (1)), some (zci (3))] _ _ _
                            refine xg_step rfl rfl (fun k => rfl) ?_
                            refine xg_step rfl rfl (fun k => rfl) ?_
                            refine xg_step rfl rfl (fun k => rfl) ?_
                            show XG _ _ 195 [some (.ref 107), some (zci (0)), some (zci (r)), some (zci (1)), some (zci (3))] _ _ _
                            refine zg_inc (y := 2) rfl rfl (by decide) rfl ?_
                            refine xg_step rfl rfl (fun k => rfl) ?_
                            show XG _ _ 82 [some (.ref 107), some (zci (0)), some (zci (r)), some (zci (2)), some (zci (3))] _ _ _
                            refine xg_step rfl rfl (fun k => rfl) ?_
                            refine xg_step rfl rfl (fun k => rfl) ?_
                            refine xg_step rfl rfl (fun k => rfl) ?_
                            refine xg_step rfl rfl (fun k => rfl) ?_
                            refine xg_step rfl rfl (fun k => rfl) ?_
                            refine zg_addl (z := 3) rfl (by decide) ?_
                            refine xg_step rfl rfl (fun k => rfl) ?_
                            show XG _ _ 92 [some (.ref 107), some (zci (0)), some (zci (r)), some (zci (2)), some (zci (3))] _ _ _
                            refine xg_step rfl rfl (fun k => rfl) ?_
                            refine xg_step rfl rfl (fun k => rfl) ?_
                            refine xg_step rfl rfl (fun k => rfl) ?_
                            show XG _ _ 195 [some (.ref 107), some (zci (0)), some (zci (r)), some (zci (2)), some (zci (3))] _ _ _
                            refine zg_inc (y := 3) rfl rfl (by decide) rfl ?_
                            refine xg_step rfl rfl (fun k => rfl) ?_
                            show XG _ _ 82 [some (.ref 107), some (zci (0)), some (zci (r)), some (zci (3)), some (zci (3))] _ _ _
                            refine xg_step rfl rfl (fun k => rfl) ?_
                            refine xg_step rfl rfl (fun k => rfl) ?_
                            refine xg_step rfl rfl (fun k => rfl) ?_
                            show XG _ _ 201 [some (.ref 107), some (zci (0)), some (zci (r)), some (zci (3)), some (zci (3))] _ _ _
                            refine xg_step rfl rfl (fun k => rfl) ?_
                            refine xg_get rfl rfl (zha (by decide)) zc_RefM rfl rfl ?_
                            refine xg_step rfl rfl (fun k => rfl) ?_
                            refine zg_ald (x := B 53 r) (.inr ⟨rfl, rfl⟩) (zha (by decide)) zc_r_answered (by decide) ⟨by omega, by omega⟩ ((zvB (zk_answered (by omega)) (by omega)).trans ((zup_ne (by omega)).trans (zup_ne (by omega)))) ?_
                            refine zg_eq0 rfl rfl (fun x k => rfl) (by first | assumption | exact hA _ _ | exact hB _ _ | exact hC _ _ | exact zrg_max (by assumption) (hA _ _) | (constructor <;> omega)) (fun hc => ?_) (fun hc => ?_)
                            ·
                              refine xg_step rfl rfl (fun k => rfl) ?_
                              refine zg_iret rfl rfl zfitI ?_
                              have e : (zans B r 0 (B (72 + 17 * 0) r)) = (zup (zup B 51 (r * 3 + 0) 1) 52 (r * 3 + 0) (B (72 + 17 * 0) r)) := zan_all (fun k hk => by rw [zup_ne (by omega), zup_ne (by omega)]; rintro ⟨q1, q2, q3, q4⟩; rw [zup_ne (by omega), zup_ne (by omega)] at q3 q4; rcases (show k = 0 ∨ k = 1 ∨ k = 2 by omega) with rfl | rfl | rfl <;> first | omega | contradiction)
                              rw [e, zb2_f (by rw [zup_ne (by omega), zup_ne (by omega)]; omega)]
                            ·
                              exact (by omega : False).elim
                    ·
                      exact (by omega : False).elim
              ·
                exact (by omega : False).elim
        ·
          show XG _ _ 195 [some (.ref 107), some (zci (0)), some (zci (r)), some (zci (0)), some (zci (1))] _ _ _
          refine zg_inc (y := 1) rfl rfl (by decide) rfl ?_
          refine xg_step rfl rfl (fun k => rfl) ?_
          show XG _ _ 82 [some (.ref 107), some (zci (0)), some (zci (r)), some (zci (1)), some (zci (1))] _ _ _
          refine xg_step rfl rfl (fun k => rfl) ?_
          refine xg_step rfl rfl (fun k => rfl) ?_
          refine xg_step rfl rfl (fun k => rfl) ?_
          refine xg_step rfl rfl (fun k => rfl) ?_
          refine xg_step rfl rfl (fun k => rfl) ?_
          refine zg_addl (z := 2) rfl (by decide) ?_
          refine xg_step rfl rfl (fun k => rfl) ?_
          show XG _ _ 92 [some (.ref 107), some (zci (0)), some (zci (r)), some (zci (1)), some (zci (2))] _ _ _
          refine xg_step rfl rfl (fun k => rfl) ?_
          refine xg_step rfl rfl (fun k => rfl) ?_
          refine xg_step rfl rfl (fun k => rfl) ?_
          refine xg_step rfl rfl (fun k => rfl) ?_
          refine xg_get rfl rfl (zha (by decide)) zc_RefM rfl rfl ?_
          refine xg_step rfl rfl (fun k => rfl) ?_
          refine zg_ald (x := B 53 r) (.inr ⟨rfl, rfl⟩) (zha (by decide)) zc_r_answered (by decide) ⟨by omega, by omega⟩ ((zvB (zk_answered (by omega)) (by omega)).trans ((zup_ne (by omega)).trans (zup_ne (by omega)))) ?_
          refine zg_eq0 rfl rfl (fun x k => rfl) (by first | assumption | exact hA _ _ | exact hB _ _ | exact hC _ _ | exact zrg_max (by assumption) (hA _ _) | (constructor <;> omega)) (fun hc => ?_) (fun hc => ?_)
          ·
            exact (by omega : False).elim
          ·
            show XG _ _ 195 [some (.ref 107), some (zci (0)), some (zci (r)), some (zci (1)), some (zci (2))] _ _ _
            refine zg_inc (y := 2) rfl rfl (by decide) rfl ?_
            refine xg_step rfl rfl (fun k => rfl) ?_
            show XG _ _ 82 [some (.ref 107), some (zci (0)), some (zci (r)), some (zci (2)), some (zci (2))] _ _ _
            refine xg_step rfl rfl (fun k => rfl) ?_
            refine xg_step rfl rfl (fun k => rfl) ?_
            refine xg_step rfl rfl (fun k => rfl) ?_
            refine xg_step rfl rfl (fun k => rfl) ?_
            refine xg_step rfl rfl (fun k => rfl) ?_
            refine zg_addl (z := 3) rfl (by decide) ?_
            refine xg_step rfl rfl (fun k => rfl) ?_
            show XG _ _ 92 [some (.ref 107), some (zci (0)), some (zci (r)), some (zci (2)), some (zci (3))] _ _ _
            refine xg_step rfl rfl (fun k => rfl) ?_
            refine xg_step rfl rfl (fun k => rfl) ?_
            refine xg_step rfl rfl (fun k => rfl) ?_
            show XG _ _ 195 [some (.ref 107), some (zci (0)), some (zci (r)), some (zci (2)), some (zci (3))] _ _ _
            refine zg_inc (y := 3) rfl rfl (by decide) rfl ?_
            refine xg_step rfl rfl (fun k => rfl) ?_
            show XG _ _ 82 [some (.ref 107), some (zci (0)), some (zci (r)), some (zci (3)), some (zci (3))] _ _ _
            refine xg_step rfl rfl (fun k => rfl) ?_
            refine xg_step rfl rfl (fun k => rfl) ?_
            refine xg_step rfl rfl (fun k => rfl) ?_
            show XG _ _ 201 [some (.ref 107), some (zci (0)), some (zci (r)), some (zci (3)), some (zci (3))] _ _ _
            refine xg_step rfl rfl (fun k => rfl) ?_
            refine xg_get rfl rfl (zha (by decide)) zc_RefM rfl rfl ?_
            refine xg_step rfl rfl (fun k => rfl) ?_
            refine zg_ald (x := B 53 r) (.inr ⟨rfl, rfl⟩) (zha (by decide)) zc_r_answered (by decide) ⟨by omega, by omega⟩ ((zvB (zk_answered (by omega)) (by omega)).trans ((zup_ne (by omega)).trans (zup_ne (by omega)))) ?_
            refine zg_eq0 rfl rfl (fun x k => rfl) (by first | assumption | exact hA _ _ | exact hB _ _ | exact hC _ _ | exact zrg_max (by assumption) (hA _ _) | (constructor <;> omega)) (fun hc => ?_) (fun hc => ?_)
            ·
              exact (by omega : False).elim
            ·
              refine xg_step rfl rfl (fun k => rfl) ?_
              refine xg_step rfl rfl (fun k => rfl) ?_
              refine zg_iret rfl rfl zfitI ?_
              have e : (zans B r 0 (B (72 + 17 * 0) r)) = (zup (zup B 51 (r * 3 + 0) 1) 52 (r * 3 + 0) (B (72 + 17 * 0) r)) := zan_all (fun k hk => by rw [zup_ne (by omega), zup_ne (by omega)]; rintro ⟨q1, q2, q3, q4⟩; rw [zup_ne (by omega), zup_ne (by omega)] at q3 q4; rcases (show k = 0 ∨ k = 1 ∨ k = 2 by omega) with rfl | rfl | rfl <;> first | omega | contradiction)
              rw [e, zb2_t (by rw [zup_ne (by omega), zup_ne (by omega)]; omega)]
    ·
      refine xg_step rfl rfl (fun k => rfl) ?_
      refine xg_step rfl rfl (fun k => rfl) ?_
      refine xg_step rfl rfl (fun k => rfl) ?_
      refine xg_step rfl rfl (fun k => rfl) ?_
      refine zg_cvi rfl rfl rfl (Nat.le_of_ble_eq_true rfl) (zha (by decide)) zc_RefM rfl rfl zq_132t ?_
      refine xg_step rfl rfl (fun k => rfl) ?_
      exact (by omega : False).elim
  ·
    refine xg_step rfl rfl (fun k => rfl) ?_
    refine xg_step rfl rfl (fun k => rfl) ?_
    refine xg_step rfl rfl (fun k => rfl) ?_
    refine xg_step rfl rfl (fun k => rfl) ?_
    refine zg_cvi rfl rfl rfl (Nat.le_of_ble_eq_true rfl) (zha (by decide)) zc_RefM rfl rfl zq_132t ?_
    refine xg_step rfl rfl (fun k => rfl) ?_
    exact (by omega : False).elim
set_option maxRecDepth 10000 in
theorem zo_138_1 {d : Nat} {A B C : ZM} (hB : zRg B) (hC : zRg C) {r : Int} (hr : zrg r) (h2 : 0 ≤ r ∧ r < B 1 6) (hq60 : B 1 6 ≤ 60) (h3 : ¬ B (71 + 17 * 1) r = 0) (hinv : B 53 r = 0 → ¬ (¬ B 51 (r * 3 + 0) = 0 ∧ ¬ B 51 (r * 3 + 2) = 0 ∧ B 52 (r * 3 + 0) = B 52 (r * 3 + 2))) : XR (d + 2) 138 [.ref 107, zci 1, zci r] (zhp A (zmg B C)) (some (zci (zb2 (¬ (zans B r 1 (B (72 + 17 * 1) r)) 53 r = 0))), zhp A (zmg (zans B r 1 (B (72 + 17 * 1) r)) (zup C 107 0 0))) := by
  refine XR.of (Nat.le_of_ble_eq_true rfl) rfl ?_
  refine xg_step rfl rfl (fun k => rfl) ?_
  refine xg_step rfl rfl (fun k => rfl) ?_
  refine zg_csb rfl rfl (by decide) rfl rfl (Nat.le_of_ble_eq_true rfl) rfl (zq_130 hB hC (by first | assumption | exact hA _ _ | exact hB _ _ | exact hC _ _ | exact zrg_max (by assumption) (hA _ _) | (constructor <;> omega))) (fun hc => ?_) (fun hc => ?_)
  ·
    refine xg_step rfl rfl (fun k => rfl) ?_
    refine xg_step rfl rfl (fun k => rfl) ?_
    refine xg_step rfl rfl (fun k => rfl) ?_
    refine zg_cvb rfl rfl rfl (Nat.le_of_ble_eq_true rfl) (zha (by decide)) zc_RefM rfl rfl (zq_131 hB hC (by first | assumption | exact hA _ _ | exact hB _ _ | exact hC _ _ | exact zrg_max (by assumption) (hA _ _) | (constructor <;> omega))) (fun hc => ?_) (fun hc => ?_)
    ·
      refine xg_step rfl rfl (fun k => rfl) ?_
      refine xg_step rfl rfl (fun k => rfl) ?_
      refine xg_step rfl rfl (fun k => rfl) ?_
      refine zg_cvi rfl rfl rfl (Nat.le_of_ble_eq_true rfl) (zha (by decide)) zc_RefM rfl rfl zq_132f ?_
      refine xg_step rfl rfl (fun k => rfl) ?_
      refine xg_step rfl rfl (fun k => rfl) ?_
      refine xg_get rfl rfl (zha (by decide)) zc_RefM rfl rfl ?_
      refine zg_bi rfl (by decide) ?_
      refine xg_step rfl rfl (fun k => rfl) ?_
      refine zg_mul rfl ?_
      refine xg_step rfl rfl (fun k => rfl) ?_
      refine zg_add rfl ?_
      refine zg_ald (.inr ⟨rfl, rfl⟩) (zha (by decide)) zc_r_hasReply (by decide) ⟨by omega, by omega⟩ (zvB (zk_hasReply (by omega) (by omega)) (by omega)) ?_
      refine zg_eq0 rfl rfl (fun x k => rfl) (by first | assumption | exact hA _ _ | exact hB _ _ | exact hC _ _ | exact zrg_max (by assumption) (hA _ _) | (constructor <;> omega)) (fun hc => ?_) (fun hc => ?_)
      ·
        refine xg_step rfl rfl (fun k => rfl) ?_
        refine zg_iret rfl rfl zfitI ?_
        exact (by omega : False).elim
      ·
        refine xg_step rfl rfl (fun k => rfl) ?_
        refine xg_get rfl rfl (zha (by decide)) zc_RefM rfl rfl ?_
        refine zg_bi rfl (by decide) ?_
        refine xg_step rfl rfl (fun k => rfl) ?_
        refine zg_mul rfl ?_
        refine xg_step rfl rfl (fun k => rfl) ?_
        refine zg_add rfl ?_
        refine xg_step rfl rfl (fun k => rfl) ?_
        refine zg_ast (.inr ⟨rfl, rfl, by omega⟩) (zha (by decide)) zc_r_got (by decide) ⟨by omega, by omega⟩ (zhwB (zwB (zk_got (by omega) (by omega)) zw_r_got (by omega))) ?_
        refine xg_step rfl rfl (fun k => rfl) ?_
        refine xg_get rfl rfl (zha (by decide)) zc_RefM rfl rfl ?_
        refine zg_bi rfl (by decide) ?_
        refine xg_step rfl rfl (fun k => rfl) ?_
        refine zg_mul rfl ?_
        refine xg_step rfl rfl (fun k => rfl) ?_
        refine zg_add rfl ?_
        refine xg_step rfl rfl (fun k => rfl) ?_
        refine xg_get rfl rfl (zha (by decide)) zc_RefM rfl rfl ?_
        refine zg_bi rfl (by decide) ?_
        refine xg_step rfl rfl (fun k => rfl) ?_
        refine zg_mul rfl ?_
        refine xg_step rfl rfl (fun k => rfl) ?_
        refine zg_add rfl ?_
        refine zg_ald (x := B (72 + 17 * 1) r) (.inl ⟨rfl, rfl⟩) (zha (by decide)) zc_r_replies (by decide) ⟨by omega, by omega⟩ ((zvB (zk_replies (by omega) (by omega)) (by omega)).trans (zup_ne (by omega))) ?_
        refine zg_ast (.inl ⟨rfl, rfl⟩) (zha (by decide)) zc_r_gave (by decide) ⟨by omega, by omega⟩ (zhwB (zwB (zk_gave (by omega) (by omega)) zw_r_gave (by omega))) ?_
        refine xg_step rfl rfl (fun k => rfl) ?_
        refine xg_step rfl rfl (fun k => rfl) ?_
        show XG _ _ 82 [some (.ref 107), some (zci (1)), some (zci (r)), some (zci (0)), none] _ _ _
        refine xg_step rfl rfl (fun k => rfl) ?_
        refine xg_step rfl rfl (fun k => rfl) ?_
        refine xg_step rfl rfl (fun k => rfl) ?_
        refine xg_step rfl rfl (fun k => rfl) ?_
        refine xg_step rfl rfl (fun k => rfl) ?_
        refine zg_addl (z := 1) rfl (by decide) ?_
        refine xg_step rfl rfl (fun k => rfl) ?_
        show XG _ _ 92 [some (.ref 107), some (zci (1)), some (zci (r)), some (zci (0)), some (zci (1))] _ _ _
        refine xg_step rfl rfl (fun k => rfl) ?_
        refine xg_step rfl rfl (fun k => rfl) ?_
        refine xg_step rfl rfl (fun k => rfl) ?_
        refine xg_step rfl rfl (fun k => rfl) ?_
        refine xg_get rfl rfl (zha (by decide)) zc_RefM rfl rfl ?_
        refine xg_step rfl rfl (fun k => rfl) ?_
        refine zg_ald (x := B 53 r) (.inr ⟨rfl, rfl⟩) (zha (by decide)) zc_r_answered (by decide) ⟨by omega, by omega⟩ ((zvB (zk_answered (by omega)) (by omega)).trans ((zup_ne (by omega)).trans (zup_ne (by omega)))) ?_
        refine zg_eq0 rfl rfl (fun x k => rfl) (by first | assumption | exact hA _ _ | exact hB _ _ | exact hC _ _ | exact zrg_max (by assumption) (hA _ _) | (constructor <;> omega)) (fun hc => ?_) (fun hc => ?_)
        ·
          refine xg_step rfl rfl (fun k => rfl) ?_
          refine xg_get rfl rfl (zha (by decide)) zc_RefM rfl rfl ?_
          refine zg_bi rfl (by decide) ?_
          refine xg_step rfl rfl (fun k => rfl) ?_
          refine zg_mul rfl ?_
          refine xg_step rfl rfl (fun k => rfl) ?_
          refine zg_add rfl ?_
          refine zg_ald (x := B 51 (r * 3 + 0)) (.inr ⟨rfl, rfl⟩) (zha (by decide)) zc_r_got (by decide) ⟨by omega, by omega⟩ ((zvB (zk_got (by omega) (by omega)) (by omega)).trans ((zup_ne (by omega)).trans (zup_ne (by omega)))) ?_
          refine zg_eq0 rfl rfl (fun x k => rfl) (by first | assumption | exact hA _ _ | exact hB _ _ | exact hC _ _ | exact zrg_max (by assumption) (hA _ _) | (constructor <;> omega)) (fun hc => ?_) (fun hc => ?_)
          ·
            show XG _ _ 189 [some (.ref 107), some (zci (1)), some (zci (r)), some (zci (0)), some (zci (1))] _ _ _
            refine zg_inc (y := 2) rfl rfl (by decide) rfl ?_
            refine xg_step rfl rfl (fun k => rfl) ?_
            show XG _ _ 92 [some (.ref 107), some (zci (1)), some (zci (r)), some (zci (0)), some (zci (2))] _ _ _
            refine xg_step rfl rfl (fun k => rfl) ?_
            refine xg_step rfl rfl (fun k => rfl) ?_
            refine xg_step rfl rfl (fun k => rfl) ?_
            refine xg_step rfl rfl (fun k => rfl) ?_
            refine xg_get rfl rfl (zha (by decide)) zc_RefM rfl rfl ?_
            refine xg_step rfl rfl (fun k => rfl) ?_
            refine zg_ald (x := B 53 r) (.inr ⟨rfl, rfl⟩) (zha (by decide)) zc_r_answered (by decide) ⟨by omega, by omega⟩ ((zvB (zk_answered (by omega)) (by omega)).trans ((zup_ne (by omega)).trans (zup_ne (by omega)))) ?_
            refine zg_eq0 rfl rfl (fun x k => rfl) (by first | assumption | exact hA _ _ | exact hB _ _ | exact hC _ _ | exact zrg_max (by assumption) (hA _ _) | (constructor <;> omega)) (fun hc => ?_) (fun hc => ?_)
            ·
              refine xg_step rfl rfl (fun k => rfl) ?_
              refine xg_get rfl rfl (zha (by decide)) zc_RefM rfl rfl ?_
              refine zg_bi rfl (by decide) ?_
              refine xg_step rfl rfl (fun k => rfl) ?_
              refine zg_mul rfl ?_
              refine xg_step rfl rfl (fun k => rfl) ?_
              refine zg_add rfl ?_
              refine zg_ald (x := B 51 (r * 3 + 0)) (.inr ⟨rfl, rfl⟩) (zha (by decide)) zc_r_got (by decide) ⟨by omega, by omega⟩ ((zvB (zk_got (by omega) (by omega)) (by omega)).trans ((zup_ne (by omega)).trans (zup_ne (by omega)))) ?_
              refine zg_eq0 rfl rfl (fun x k => rfl) (by first | assumption | exact hA _ _ | exact hB _ _ | exact hC _ _ | exact zrg_max (by assumption) (hA _ _) | (constructor <;> omega)) (fun hc => ?_) (fun hc => ?_)
              ·
                show XG _ _ 189 [some (.ref 107), some (zci (1)), some (zci (r)), some (zci (0)), some (zci (2))] _ _ _
                refine zg_inc (y := 3) rfl rfl (by decide) rfl ?_
                refine xg_step rfl rfl (fun k => rfl) ?_
                show XG _ _ 92 [some (.ref 107), some (zci (1)), some (zci (r)), some (zci (0)), some (zci (3))] _ _ _
                refine xg_step rfl rfl (fun k => rfl) ?_
                refine xg_step rfl rfl (fun k => rfl) ?_
                refine xg_step rfl rfl (fun k => rfl) ?_
                show XG _ _ 195 [some (.ref 107), some (zci (1)), some (zci (r)), some (zci (0)), some (zci (3))] _ _ _
                refine zg_inc (y := 1) rfl rfl (by decide) rfl ?_
                refine xg_step rfl rfl (fun k => rfl) ?_
                show XG _ _ 82 [some (.ref 107), some (zci (1)), some (zci (r)), some (zci (1)), some (zci (3))] _ _ _
                refine xg_step rfl rfl (fun k => rfl) ?_
                refine xg_step rfl rfl (fun k => rfl) ?_
                refine xg_step rfl rfl (fun k => rfl) ?_
                refine xg_step rfl rfl (fun k => rfl) ?_
                refine xg_step rfl rfl (fun k => rfl) ?_
                refine zg_addl (z := 2) rfl (by decide) ?_
                refine xg_step rfl rfl (fun k => rfl) ?_
                show XG _ _ 92 [some (.ref 107), some (zci (1)), some (zci (r)), some (zci (1)), some (zci (2))] _ _ _
                refine xg_step rfl rfl (fun k => rfl) ?_
                refine xg_step rfl rfl (fun k => rfl) ?_
                refine xg_step rfl rfl (fun k => rfl) ?_
                refine xg_step rfl rfl (fun k => rfl) ?_
                refine xg_get rfl rfl (zha (by decide)) zc_RefM rfl rfl ?_
                refine xg_step rfl rfl (fun k => rfl) ?_
                refine zg_ald (x := B 53 r) (.inr ⟨rfl, rfl⟩) (zha (by decide)) zc_r_answered (by decide) ⟨by omega, by omega⟩ ((zvB (zk_answered (by omega)) (by omega)).trans ((zup_ne (by omega)).trans (zup_ne (by omega)))) ?_
                refine zg_eq0 rfl rfl (fun x k => rfl) (by first | assumption | exact hA _ _ | exact hB _ _ | exact hC _ _ | exact zrg_max (by assumption) (hA _ _) | (constructor <;> omega)) (fun hc => ?_) (fun hc => ?_)
                ·
                  refine xg_step rfl rfl (fun k => rfl) ?_
                  refine xg_get rfl rfl (zha (by decide)) zc_RefM rfl rfl ?_
                  refine zg_bi rfl (by decide) ?_
                  refine xg_step rfl rfl (fun k => rfl) ?_
                  refine zg_mul rfl ?_
                  refine xg_step rfl rfl (fun k => rfl) ?_
                  refine zg_add rfl ?_
                  refine zg_ald (x := 1) (.inr ⟨rfl, rfl⟩) (zha (by decide)) zc_r_got (by decide) ⟨by omega, by omega⟩ ((zvB (zk_got (by omega) (by omega)) (by omega)).trans ((zup_ne (by omega)).trans (zup_eq ⟨by omega, by omega⟩))) ?_
                  refine xg_step rfl rfl (fun k => rfl) ?_
                  refine xg_step rfl rfl (fun k => rfl) ?_
                  refine xg_get rfl rfl (zha (by decide)) zc_RefM rfl rfl ?_
                  refine zg_bi rfl (by decide) ?_
                  refine xg_step rfl rfl (fun k => rfl) ?_
                  refine zg_mul rfl ?_
                  refine xg_step rfl rfl (fun k => rfl) ?_
                  refine zg_add rfl ?_
                  refine zg_ald (x := B 51 (r * 3 + 2)) (.inr ⟨rfl, rfl⟩) (zha (by decide)) zc_r_got (by decide) ⟨by omega, by omega⟩ ((zvB (zk_got (by omega) (by omega)) (by omega)).trans ((zup_ne (by omega)).trans (zup_ne (by omega)))) ?_
                  refine zg_eq0 rfl rfl (fun x k => rfl) (by first | assumption | exact hA _ _ | exact hB _ _ | exact hC _ _ | exact zrg_max (by assumption) (hA _ _) | (constructor <;> omega)) (fun hc => ?_) (fun hc => ?_)
                  ·
                    show XG _ _ 189 [some (.ref 107), some (zci (1)), some (zci (r)), some (zci (1)), some (zci (2))] _ _ _
                    refine zg_inc (y := 3) rfl rfl (by decide) rfl ?_
                    refine xg_step rfl rfl (fun k => rfl) ?_
                    show XG _ _ 92 [some (.ref 107), some (zci (1)), some (zci (r)), some (zci (1)), some (zci (3))] _ _ _
                    refine xg_step rfl rfl (fun k => rfl) ?_
                    refine xg_step rfl rfl (fun k => rfl) ?_
                    refine xg_step rfl rfl (fun k => rfl) ?_
                    show XG _ _ 195 [some (.ref 107), some (zci (1)), some (zci (r)), some (zci (1)), some (zci (3))] _ _ _
                    refine zg_inc (y := 2) rfl rfl (by decide) rfl ?_
                    refine xg_step rfl rfl (fun k => rfl) ?_
                    show XG _ _ 82 [some (.ref 107), some (zci (1)), some (zci (r)), some (zci (2)), some (zci (3))] _ _ _
                    refine xg_step rfl rfl (fun k => rfl) ?_
                    refine xg_step rfl rfl (fun k => rfl) ?_
                    refine xg_step rfl rfl (fun k => rfl) ?_
                    refine xg_step rfl rfl (fun k => rfl) ?_
                    refine xg_step rfl rfl (fun k => rfl) ?_
                    refine zg_addl (z := 3) rfl (by decide) ?_
                    refine xg_step rfl rfl (fun k => rfl) ?_
                    show XG _ _ 92 [some (.ref 107), some (zci (1)), some (zci (r)), some (zci (2)), some (zci (3))] _ _ _
                    refine xg_step rfl rfl (fun k => rfl) ?_
                    refine xg_step rfl rfl (fun k => rfl) ?_
                    refine xg_step rfl rfl (fun k => rfl) ?_
                    show XG _ _ 195 [some (.ref 107), some (zci (1)), some (zci (r)), some (zci (2)), some (zci (3))] _ _ _
                    refine zg_inc (y := 3) rfl rfl (by decide) rfl ?_
                    refine xg_step rfl rfl (fun k => rfl) ?_
                    show XG _ _ 82 [some (.ref 107), some (zci (1)), some (zci (r)), some (zci (3)), some (zci (3))] _ _ _
                    refine xg_step rfl rfl (fun k => rfl) ?_
                    refine xg_step rfl rfl (fun k => rfl) ?_
                    refine xg_step rfl rfl (fun k => rfl) ?_
                    show XG _ _ 201 [some (.ref 107), some (zci (1)), some (zci (r)), some (zci (3)), some (zci (3))] _ _ _
                    refine xg_step rfl rfl (fun k => rfl) ?_
                    refine xg_get rfl rfl (zha (by decide)) zc_RefM rfl rfl ?_
                    refine xg_step rfl rfl (fun k => rfl) ?_
                    refine zg_ald (x := B 53 r) (.inr ⟨rfl, rfl⟩) (zha (by decide)) zc_r_answered (by decide) ⟨by omega, by omega⟩ ((zvB (zk_answered (by omega)) (by omega)).trans ((zup_ne (by omega)).trans (zup_ne (by omega)))) ?_
                    refine zg_eq0 rfl rfl (fun x k => rfl) (by first | assumption | exact hA _ _ | exact hB _ _ | exact hC _ _ | exact zrg_max (by assumption) (hA _ _) | (constructor <;> omega)) (fun hc => ?_) (fun hc => ?_)
                    ·
                      refine xg_step rfl rfl (fun k => rfl) ?_
                      refine zg_iret rfl rfl zfitI ?_
                      have e : (zans B r 1 (B (72 + 17 * 1) r)) = (zup (zup B 51 (r * 3 + 1) 1) 52 (r * 3 + 1) (B (72 + 17 * 1) r)) := zan_all (fun k hk => by rw [zup_ne (by omega), zup_ne (by omega)]; rintro ⟨q1, q2, q3, q4⟩; rw [zup_ne (by omega), zup_ne (by omega)] at q3 q4; rcases (show k = 0 ∨ k = 1 ∨ k = 2 by omega) with rfl | rfl | rfl <;> first | omega | contradiction)
                      rw [e, zb2_f (by rw [zup_ne (by omega), zup_ne (by omega)]; omega)]
                    ·
                      exact (by omega : False).elim
                  ·
                    refine xg_step rfl rfl (fun k => rfl) ?_
                    refine xg_get rfl rfl (zha (by decide)) zc_RefM rfl rfl ?_
                    refine zg_bi rfl (by decide) ?_
                    refine xg_step rfl rfl (fun k => rfl) ?_
                    refine zg_mul rfl ?_
                    refine xg_step rfl rfl (fun k => rfl) ?_
                    refine zg_add rfl ?_
                    refine zg_ald (x := B (72 + 17 * 1) r) (.inl ⟨rfl, rfl⟩) (zha (by decide)) zc_r_gave (by decide) ⟨by omega, by omega⟩ ((zvB (zk_gave (by omega) (by omega)) (by omega)).trans (zup_eq ⟨by omega, by omega⟩)) ?_
                    refine xg_step rfl rfl (fun k => rfl) ?_
                    refine xg_get rfl rfl (zha (by decide)) zc_RefM rfl rfl ?_
                    refine zg_bi rfl (by decide) ?_
                    refine xg_step rfl rfl (fun k => rfl) ?_
                    refine zg_mul rfl ?_
                    refine xg_step rfl rfl (fun k => rfl) ?_
                    refine zg_add rfl ?_
                    refine zg_ald (x := B 52 (r * 3 + 2)) (.inl ⟨rfl, rfl⟩) (zha (by decide)) zc_r_gave (by decide) ⟨by omega, by omega⟩ ((zvB (zk_gave (by omega) (by omega)) (by omega)).trans ((zup_ne (by omega)).trans (zup_ne (by omega)))) ?_
                    refine zg_eq rfl rfl (fun x y k => rfl) (by first | assumption | exact hA _ _ | exact hB _ _ | exact hC _ _ | exact zrg_max (by assumption) (hA _ _) | (constructor <;> omega)) (by first | assumption | exact hA _ _ | exact hB _ _ | exact hC _ _ | exact zrg_max (by assumption) (hA _ _) | (constructor <;> omega)) (fun hc => ?_) (fun hc => ?_)
                    ·
                      refine xg_step rfl rfl (fun k => rfl) ?_
                      refine xg_get rfl rfl (zha (by decide)) zc_RefM rfl rfl ?_
                      refine xg_step rfl rfl (fun k => rfl) ?_
                      refine xg_step rfl rfl (fun k => rfl) ?_
                      refine zg_ast (.inr ⟨rfl, rfl, by omega⟩) (zha (by decide)) zc_r_answered (by decide) ⟨by omega, by omega⟩ (zhwB (zwB (zk_answered (by omega)) zw_r_answered (by omega))) ?_
                      refine xg_step rfl rfl (fun k => rfl) ?_
                      refine xg_get rfl rfl (zha (by decide)) zc_RefM rfl rfl ?_
                      refine xg_step rfl rfl (fun k => rfl) ?_
                      refine xg_step rfl rfl (fun k => rfl) ?_
                      refine xg_get rfl rfl (zha (by decide)) zc_RefM rfl rfl ?_
                      refine zg_bi rfl (by decide) ?_
                      refine xg_step rfl rfl (fun k => rfl) ?_
                      refine zg_mul rfl ?_
                      refine xg_step rfl rfl (fun k => rfl) ?_
                      refine zg_add rfl ?_
                      refine zg_ald (x := B (72 + 17 * 1) r) (.inl ⟨rfl, rfl⟩) (zha (by decide)) zc_r_gave (by decide) ⟨by omega, by omega⟩ ((zvB (zk_gave (by omega) (by omega)) (by omega)).trans ((zup_ne (by omega)).trans (zup_eq ⟨by omega, by omega⟩))) ?_
                      refine zg_ast (.inl ⟨rfl, rfl⟩) (zha (by decide)) zc_r_answer (by decide) ⟨by omega, by omega⟩ (zhwB (zwB (zk_answer (by omega)) zw_r_answer (by omega))) ?_
                      show XG _ _ 189 [some (.ref 107), some (zci (1)), some (zci (r)), some (zci (1)), some (zci (2))] _ _ _
                      refine zg_inc (y := 3) rfl rfl (by decide) rfl ?_
                      refine xg_step rfl rfl (fun k => rfl) ?_
                      show XG _ _ 92 [some (.ref 107), some (zci (1)), some (zci (r)), some (zci (1)), some (zci (3))] _ _ _
                      refine xg_step rfl rfl (fun k => rfl) ?_
                      refine xg_step rfl rfl (fun k => rfl) ?_
                      refine xg_step rfl rfl (fun k => rfl) ?_
                      show XG _ _ 195 [some (.ref 107), some (zci (1)), some (zci (r)), some (zci (1)), some (zci (3))] _ _ _
                      refine zg_inc (y := 2) rfl rfl (by decide) rfl ?_
                      refine xg_step rfl rfl (fun k => rfl) ?_
                      show XG _ _ 82 [some (.ref 107), some (zci (1)), some (zci (r)), some (zci (2)), some (zci (3))] _ _ _
                      refine xg_step rfl rfl (fun k => rfl) ?_
                      refine xg_step rfl rfl (fun k => rfl) ?_
                      refine xg_step rfl rfl (fun k => rfl) ?_
                      refine xg_step rfl rfl (fun k => rfl) ?_
                      refine xg_step rfl rfl (fun k => rfl) ?_
                      refine zg_addl (z := 3) rfl (by decide) ?_
                      refine xg_step rfl rfl (fun k => rfl) ?_
                      show XG _ _ 92 [some (.ref 107), some (zci (1)), some (zci (r)), some (zci (2)), some (zci (3))] _ _ _
                      refine xg_step rfl rfl (fun k => rfl) ?_
                      refine xg_step rfl rfl (fun k => rfl) ?_
                      refine xg_step rfl rfl (fun k => rfl) ?_
                      show XG _ _ 195 [some (.ref 107), some (zci (1)), some (zci (r)), some (zci (2)), some (zci (3))] _ _ _
                      refine zg_inc (y := 3) rfl rfl (by decide) rfl ?_
                      refine xg_step rfl rfl (fun k => rfl) ?_
                      show XG _ _ 82 [some (.ref 107), some (zci (1)), some (zci (r)), some (zci (3)), some (zci (3))] _ _ _
                      refine xg_step rfl rfl (fun k => rfl) ?_
                      refine xg_step rfl rfl (fun k => rfl) ?_
                      refine xg_step rfl rfl (fun k => rfl) ?_
                      show XG _ _ 201 [some (.ref 107), some (zci (1)), some (zci (r)), some (zci (3)), some (zci (3))] _ _ _
                      refine xg_step rfl rfl (fun k => rfl) ?_
                      refine xg_get rfl rfl (zha (by decide)) zc_RefM rfl rfl ?_
                      refine xg_step rfl rfl (fun k => rfl) ?_
                      refine zg_ald (x := 1) (.inr ⟨rfl, rfl⟩) (zha (by decide)) zc_r_answered (by decide) ⟨by omega, by omega⟩ ((zvB (zk_answered (by omega)) (by omega)).trans ((zup_ne (by omega)).trans (zup_eq ⟨by omega, by omega⟩))) ?_
                      refine xg_step rfl rfl (fun k => rfl) ?_
                      refine xg_step rfl rfl (fun k => rfl) ?_
                      refine xg_step rfl rfl (fun k => rfl) ?_
                      refine zg_iret rfl rfl zfitI ?_
                      have e : (zans B r 1 (B (72 + 17 * 1) r)) = zup (zup (zup (zup B 51 (r * 3 + 1) 1) 52 (r * 3 + 1) (B (72 + 17 * 1) r)) 53 r 1) 54 r (B (72 + 17 * 1) r) := by first | exact zan_one 3 0 2 0 rfl (by omega) ⟨by rw [zup_ne (by omega), zup_ne (by omega)]; assumption, by omega, by rw [zup_ne (by omega), zup_ne (by omega)]; assumption, by rw [zup_ne (by omega), zup_ne (by omega)]; omega⟩ | exact zan_one 3 0 2 2 rfl (by omega) ⟨by rw [zup_ne (by omega), zup_ne (by omega)]; assumption, by omega, by rw [zup_ne (by omega), zup_ne (by omega)]; assumption, by rw [zup_ne (by omega), zup_ne (by omega)]; omega⟩
                      rw [e, zb2_t (by rw [zup_ne (by omega), zup_eq ⟨rfl, rfl⟩]; decide)]
                    ·
                      refine xg_step rfl rfl (fun k => rfl) ?_
                      show XG _ _ 189 [some (.ref 107), some (zci (1)), some (zci (r)), some (zci (1)), some (zci (2))] _ _ _
                      refine zg_inc (y := 3) rfl rfl (by decide) rfl ?_
                      refine xg_step rfl rfl (fun k => rfl) ?_
                      show XG _ _ 92 [some (.ref 107), some (zci (1)), some (zci (r)), some (zci (1)), some (zci (3))] _ _ _
                      refine xg_step rfl rfl (fun k => rfl) ?_
                      refine xg_step rfl rfl (fun k => rfl) ?_
                      refine xg_step rfl rfl (fun k => rfl) ?_
                      show XG _ _ 195 [some (.ref 107), some (zci (1)), some (zci (r)), some (zci (1)), some (zci (3))] _ _ _
                      refine zg_inc (y := 2) rfl rfl (by decide) rfl ?_
                      refine xg_step rfl rfl (fun k => rfl) ?_
                      show XG _ _ 82 [some (.ref 107), some (zci (1)), some (zci (r)), some (zci (2)), some (zci (3))] _ _ _
                      refine xg_step rfl rfl (fun k => rfl) ?_
                      refine xg_step rfl rfl (fun k => rfl) ?_
                      refine xg_step rfl rfl (fun k => rfl) ?_
                      refine xg_step rfl rfl (fun k => rfl) ?_
                      refine xg_step rfl rfl (fun k => rfl) ?_
                      refine zg_addl (z := 3) rfl (by decide) ?_
                      refine xg_step rfl rfl (fun k => rfl) ?_
                      show XG _ _ 92 [some (.ref 107), some (zci (1)), some (zci (r)), some (zci (2)), some (zci (3))] _ _ _
                      refine xg_step rfl rfl (fun k => rfl) ?_
                      refine xg_step rfl rfl (fun k => rfl) ?_
                      refine xg_step rfl rfl (fun k => rfl) ?_
                      show XG _ _ 195 [some (.ref 107), some (zci (1)), some (zci (r)), some (zci (2)), some (zci (3))] _ _ _
                      refine zg_inc (y := 3) rfl rfl (by decide) rfl ?_
                      refine xg_step rfl rfl (fun k => rfl) ?_
                      show XG _ _ 82 [some (.ref 107), some (zci (1)), some (zci (r)), some (zci (3)), some (zci (3))] _ _ _
                      refine xg_step rfl rfl (fun k => rfl) ?_
                      refine xg_step rfl rfl (fun k => rfl) ?_
                      refine xg_step rfl rfl (fun k => rfl) ?_
                      show XG _ _ 201 [some (.ref 107), some (zci (1)), some (zci (r)), some (zci (3)), some (zci (3))] _ _ _
                      refine xg_step rfl rfl (fun k => rfl) ?_
                      refine xg_get rfl rfl (zha (by decide)) zc_RefM rfl rfl ?_
                      refine xg_step rfl rfl (fun k => rfl) ?_
                      refine zg_ald (x := B 53 r) (.inr ⟨rfl, rfl⟩) (zha (by decide)) zc_r_answered (by decide) ⟨by omega, by omega⟩ ((zvB (zk_answered (by omega)) (by omega)).trans ((zup_ne (by omega)).trans (zup_ne (by omega)))) ?_
                      refine zg_eq0 rfl rfl (fun x k => rfl) (by first | assumption | exact hA _ _ | exact hB _ _ | exact hC _ _ | exact zrg_max (by assumption) (hA _ _) | (constructor <;> omega)) (fun hc => ?_) (fun hc => ?_)
                      ·
                        refine xg_step rfl rfl (fun k => rfl) ?_
                        refine zg_iret rfl rfl zfitI ?_
                        have e : (zans B r 1 (B (72 + 17 * 1) r)) = (zup (zup B 51 (r * 3 + 1) 1) 52 (r * 3 + 1) (B (72 + 17 * 1) r)) := zan_all (fun k hk => by rw [zup_ne (by omega), zup_ne (by omega)]; rintro ⟨q1, q2, q3, q4⟩; rw [zup_ne (by omega), zup_ne (by omega)] at q3 q4; rcases (show k = 0 ∨ k = 1 ∨ k = 2 by omega) with rfl | rfl | rfl <;> first | omega | contradiction)
                        rw [e, zb2_f (by rw [zup_ne (by omega), zup_ne (by omega)]; omega)]
                      ·
                        exact (by omega : False).elim
                ·
                  exact (by omega : False).elim
              ·
                exact (by omega : False).elim
            ·
              exact (by omega : False).elim
          ·
            refine xg_step rfl rfl (fun k => rfl) ?_
            refine xg_get rfl rfl (zha (by decide)) zc_RefM rfl rfl ?_
            refine zg_bi rfl (by decide) ?_
            refine xg_step rfl rfl (fun k => rfl) ?_
            refine zg_mul rfl ?_
            refine xg_step rfl rfl (fun k => rfl) ?_
            refine zg_add rfl ?_
            refine zg_ald (x := 1) (.inr ⟨rfl, rfl⟩) (zha (by decide)) zc_r_got (by decide) ⟨by omega, by omega⟩ ((zvB (zk_got (by omega) (by omega)) (by omega)).trans ((zup_ne (by omega)).trans (zup_eq ⟨by omega, by omega⟩))) ?_
            refine xg_step rfl rfl (fun k => rfl) ?_
            refine xg_step rfl rfl (fun k => rfl) ?_
            refine xg_get rfl rfl (zha (by decide)) zc_RefM rfl rfl ?_
            refine zg_bi rfl (by decide) ?_
            refine xg_step rfl rfl (fun k => rfl) ?_
            refine zg_mul rfl ?_
            refine xg_step rfl rfl (fun k => rfl) ?_
            refine zg_add rfl ?_
            refine zg_ald (x := B 52 (r * 3 + 0)) (.inl ⟨rfl, rfl⟩) (zha (by decide)) zc_r_gave (by decide) ⟨by omega, by omega⟩ ((zvB (zk_gave (by omega) (by omega)) (by omega)).trans ((zup_ne (by omega)).trans (zup_ne (by omega)))) ?_
            refine xg_step rfl rfl (fun k => rfl) ?_
            refine xg_get rfl rfl (zha (by decide)) zc_RefM rfl rfl ?_
            refine zg_bi rfl (by decide) ?_
            refine xg_step rfl rfl (fun k => rfl) ?_
            refine zg_mul rfl ?_
            refine xg_step rfl rfl (fun k => rfl) ?_
            refine zg_add rfl ?_
            refine zg_ald (x := B (72 + 17 * 1) r) (.inl ⟨rfl, rfl⟩) (zha (by decide)) zc_r_gave (by decide) ⟨by omega, by omega⟩ ((zvB (zk_gave (by omega) (by omega)) (by omega)).trans (zup_eq ⟨by omega, by omega⟩)) ?_
            refine zg_eq rfl rfl (fun x y k => rfl) (by first | assumption | exact hA _ _ | exact hB _ _ | exact hC _ _ | exact zrg_max (by assumption) (hA _ _) | (constructor <;> omega)) (by first | assumption | exact hA _ _ | exact hB _ _ | exact hC _ _ | exact zrg_max (by assumption) (hA _ _) | (constructor <;> omega)) (fun hc => ?_) (fun hc => ?_)
            ·
              refine xg_step rfl rfl (fun k => rfl) ?_
              refine xg_get rfl rfl (zha (by decide)) zc_RefM rfl rfl ?_
              refine xg_step rfl rfl (fun k => rfl) ?_
              refine xg_step rfl rfl (fun k => rfl) ?_
              refine zg_ast (.inr ⟨rfl, rfl, by omega⟩) (zha (by decide)) zc_r_answered (by decide) ⟨by omega, by omega⟩ (zhwB (zwB (zk_answered (by omega)) zw_r_answered (by omega))) ?_
              refine xg_step rfl rfl (fun k => rfl) ?_
              refine xg_get rfl rfl (zha (by decide)) zc_RefM rfl rfl ?_
              refine xg_step rfl rfl (fun k => rfl) ?_
              refine xg_step rfl rfl (fun k => rfl) ?_
              refine xg_get rfl rfl (zha (by decide)) zc_RefM rfl rfl ?_
              refine zg_bi rfl (by decide) ?_
              refine xg_step rfl rfl (fun k => rfl) ?_
              refine zg_mul rfl ?_
              refine xg_step rfl rfl (fun k => rfl) ?_
              refine zg_add rfl ?_
              refine zg_ald (x := B 52 (r * 3 + 0)) (.inl ⟨rfl, rfl⟩) (zha (by decide)) zc_r_gave (by decide) ⟨by omega, by omega⟩ ((zvB (zk_gave (by omega) (by omega)) (by omega)).trans ((zup_ne (by omega)).trans ((zup_ne (by omega)).trans (zup_ne (by omega))))) ?_
              refine zg_ast (.inl ⟨rfl, rfl⟩) (zha (by decide)) zc_r_answer (by decide) ⟨by omega, by omega⟩ (zhwB (zwB (zk_answer (by omega)) zw_r_answer (by omega))) ?_
              show XG _ _ 189 [some (.ref 107), some (zci (1)), some (zci (r)), some (zci (0)), some (zci (1))] _ _ _
              refine zg_inc (y := 2) rfl rfl (by decide) rfl ?_
              refine xg_step rfl rfl (fun k => rfl) ?_
              show XG _ _ 92 [some (.ref 107), some (zci (1)), some (zci (r)), some (zci (0)), some (zci (2))] _ _ _
              refine xg_step rfl rfl (fun k => rfl) ?_
              refine xg_step rfl rfl (fun k => rfl) ?_
              refine xg_step rfl rfl (fun k => rfl) ?_
              refine xg_step rfl rfl (fun k => rfl) ?_
              refine xg_get rfl rfl (zha (by decide)) zc_RefM rfl rfl ?_
              refine xg_step rfl rfl (fun k => rfl) ?_
              refine zg_ald (x := 1) (.inr ⟨rfl, rfl⟩) (zha (by decide)) zc_r_answered (by decide) ⟨by omega, by omega⟩ ((zvB (zk_answered (by omega)) (by omega)).trans ((zup_ne (by omega)).trans (zup_eq ⟨by omega, by omega⟩))) ?_
              refine xg_step rfl rfl (fun k => rfl) ?_
              show XG _ _ 195 [some (.ref 107), some (zci (1)), some (zci (r)), some (zci (0)), some (zci (2))] _ _ _
              refine zg_inc (y := 1) rfl rfl (by decide) rfl ?_
              refine xg_step rfl rfl (fun k => rfl) ?_
              show XG _ _ 82 [some (.ref 107), some (zci (1)), some (zci (r)), some (zci (1)), some (zci (2))] _ _ _
              refine xg_step rfl rfl (fun k => rfl) ?_
              refine xg_step rfl rfl (fun k => rfl) ?_
              refine xg_step rfl rfl (fun k => rfl) ?_
              refine xg_step rfl rfl (fun k => rfl) ?_
              refine xg_step rfl rfl (fun k => rfl) ?_
              refine zg_addl (z := 2) rfl (by decide) ?_
              refine xg_step rfl rfl (fun k => rfl) ?_
              show XG _ _ 92 [some (.ref 107), some (zci (1)), some (zci (r)), some (zci (1)), some (zci (2))] _ _ _
              refine xg_step rfl rfl (fun k => rfl) ?_
              refine xg_step rfl rfl (fun k => rfl) ?_
              refine xg_step rfl rfl (fun k => rfl) ?_
              refine xg_step rfl rfl (fun k => rfl) ?_
              refine xg_get rfl rfl (zha (by decide)) zc_RefM rfl rfl ?_
              refine xg_step rfl rfl (fun k => rfl) ?_
              refine zg_ald (x := 1) (.inr ⟨rfl, rfl⟩) (zha (by decide)) zc_r_answered (by decide) ⟨by omega, by omega⟩ ((zvB (zk_answered (by omega)) (by omega)).trans ((zup_ne (by omega)).trans (zup_eq ⟨by omega, by omega⟩))) ?_
              refine xg_step rfl rfl (fun k => rfl) ?_
              show XG _ _ 195 [some (.ref 107), some (zci (1)), some (zci (r)), some (zci (1)), some (zci (2))] _ _ _
              refine zg_inc (y := 2) rfl rfl (by decide) rfl ?_
              refine xg_step rfl rfl (fun k => rfl) ?_
              show XG _ _ 82 [some (.ref 107), some (zci (1)), some (zci (r)), some (zci (2)), some (zci (2))] _ _ _
              refine xg_step rfl rfl (fun k => rfl) ?_
              refine xg_step rfl rfl (fun k => rfl) ?_
              refine xg_step rfl rfl (fun k => rfl) ?_
              refine xg_step rfl rfl (fun k => rfl) ?_
              refine xg_step rfl rfl (fun k => rfl) ?_
              refine zg_addl (z := 3) rfl (by decide) ?_
              refine xg_step rfl rfl (fun k => rfl) ?_
              show XG _ _ 92 [some (.ref 107), some (zci (1)), some (zci (r)), some (zci (2)), some (zci (3))] _ _ _
              refine xg_step rfl rfl (fun k => rfl) ?_
              refine xg_step rfl rfl (fun k => rfl) ?_
              refine xg_step rfl rfl (fun k => rfl) ?_
              show XG _ _ 195 [some (.ref 107), some (zci (1)), some (zci (r)), some (zci (2)), some (zci (3))] _ _ _
              refine zg_inc (y := 3) rfl rfl (by decide) rfl ?_
              refine xg_step rfl rfl (fun k => rfl) ?_
              show XG _ _ 82 [some (.ref 107), some (zci (1)), some (zci (r)), some (zci (3)), some (zci (3))] _ _ _
              refine xg_step rfl rfl (fun k => rfl) ?_
              refine xg_step rfl rfl (fun k => rfl) ?_
              refine xg_step rfl rfl (fun k => rfl) ?_
              show XG _ _ 201 [some (.ref 107), some (zci (1)), some (zci (r)), some (zci (3)), some (zci (3))] _ _ _
              refine xg_step rfl rfl (fun k => rfl) ?_
              refine xg_get rfl rfl (zha (by decide)) zc_RefM rfl rfl ?_
              refine xg_step rfl rfl (fun k => rfl) ?_
              refine zg_ald (x := 1) (.inr ⟨rfl, rfl⟩) (zha (by decide)) zc_r_answered (by decide) ⟨by omega, by omega⟩ ((zvB (zk_answered (by omega)) (by omega)).trans ((zup_ne (by omega)).trans (zup_eq ⟨by omega, by omega⟩))) ?_
              refine xg_step rfl rfl (fun k => rfl) ?_
              refine xg_step rfl rfl (fun k => rfl) ?_
              refine xg_step rfl rfl (fun k => rfl) ?_
              refine zg_iret rfl rfl zfitI ?_
              have e : (zans B r 1 (B (72 + 17 * 1) r)) = zup (zup (zup (zup B 51 (r * 3 + 1) 1) 52 (r * 3 + 1) (B (72 + 17 * 1) r)) 53 r 1) 54 r (B (72 + 17 * 1) r) := by first | exact zan_one 3 0 2 0 rfl (by omega) ⟨by rw [zup_ne (by omega), zup_ne (by omega)]; assumption, by omega, by rw [zup_ne (by omega), zup_ne (by omega)]; assumption, by rw [zup_ne (by omega), zup_ne (by omega)]; omega⟩ | exact zan_one 3 0 2 2 rfl (by omega) ⟨by rw [zup_ne (by omega), zup_ne (by omega)]; assumption, by omega, by rw [zup_ne (by omega), zup_ne (by omega)]; assumption, by rw [zup_ne (by omega), zup_ne (by omega)]; omega⟩
              rw [e, zb2_t (by rw [zup_ne (by omega), zup_eq ⟨rfl, rfl⟩]; decide), show B 52 (r * 3 + 0) = B (72 + 17 * 1) r by omega]
            ·
              refine xg_step rfl rfl (fun k => rfl) ?_
              show XG _ _ 189 [some (.ref 107), some (zci (1)), some (zci (r)), some (zci (0)), some (zci (1))] _ _ _
              refine zg_inc (y := 2) rfl rfl (by decide) rfl ?_
              refine xg_step rfl rfl (fun k => rfl) ?_
              show XG _ _ 92 [some (.ref 107), some (zci (1)), some (zci (r)), some (zci (0)), some (zci (2))] _ _ _
              refine xg_step rfl rfl (fun k => rfl) ?_
              refine xg_step rfl rfl (fun k => rfl) ?_
              refine xg_step rfl rfl (fun k => rfl) ?_
              refine xg_step rfl rfl (fun k => rfl) ?_
              refine xg_get rfl rfl (zha (by decide)) zc_RefM rfl rfl ?_
              refine xg_step rfl rfl (fun k => rfl) ?_
              refine zg_ald (x := B 53 r) (.inr ⟨rfl, rfl⟩) (zha (by decide)) zc_r_answered (by decide) ⟨by omega, by omega⟩ ((zvB (zk_answered (by omega)) (by omega)).trans ((zup_ne (by omega)).trans (zup_ne (by omega)))) ?_
              refine zg_eq0 rfl rfl (fun x k => rfl) (by first | assumption | exact hA _ _ | exact hB _ _ | exact hC _ _ | exact zrg_max (by assumption) (hA _ _) | (constructor <;> omega)) (fun hc => ?_) (fun hc => ?_)
              ·
                refine xg_step rfl rfl (fun k => rfl) ?_
                refine xg_get rfl rfl (zha (by decide)) zc_RefM rfl rfl ?_
                refine zg_bi rfl (by decide) ?_
                refine xg_step rfl rfl (fun k => rfl) ?_
                refine zg_mul rfl ?_
                refine xg_step rfl rfl (fun k => rfl) ?_
                refine zg_add rfl ?_
                refine zg_ald (x := B 51 (r * 3 + 0)) (.inr ⟨rfl, rfl⟩) (zha (by decide)) zc_r_got (by decide) ⟨by omega, by omega⟩ ((zvB (zk_got (by omega) (by omega)) (by omega)).trans ((zup_ne (by omega)).trans (zup_ne (by omega)))) ?_
                refine zg_eq0 rfl rfl (fun x k => rfl) (by first | assumption | exact hA _ _ | exact hB _ _ | exact hC _ _ | exact zrg_max (by assumption) (hA _ _) | (constructor <;> omega)) (fun hc => ?_) (fun hc => ?_)
                ·
                  exact (by omega : False).elim
                ·
                  refine xg_step rfl rfl (fun k => rfl) ?_
                  refine xg_get rfl rfl (zha (by decide)) zc_RefM rfl rfl ?_
                  refine zg_bi rfl (by decide) ?_
                  refine xg_step rfl rfl (fun k => rfl) ?_
                  refine zg_mul rfl ?_
                  refine xg_step rfl rfl (fun k => rfl) ?_
                  refine zg_add rfl ?_
                  refine zg_ald (x := B 51 (r * 3 + 2)) (.inr ⟨rfl, rfl⟩) (zha (by decide)) zc_r_got (by decide) ⟨by omega, by omega⟩ ((zvB (zk_got (by omega) (by omega)) (by omega)).trans ((zup_ne (by omega)).trans (zup_ne (by omega)))) ?_
                  refine zg_eq0 rfl rfl (fun x k => rfl) (by first | assumption | exact hA _ _ | exact hB _ _ | exact hC _ _ | exact zrg_max (by assumption) (hA _ _) | (constructor <;> omega)) (fun hc => ?_) (fun hc => ?_)
                  ·
                    show XG _ _ 189 [some (.ref 107), some (zci (1)), some (zci (r)), some (zci (0)), some (zci (2))] _ _ _
                    refine zg_inc (y := 3) rfl rfl (by decide) rfl ?_
                    refine xg_step rfl rfl (fun k => rfl) ?_
                    show XG _ _ 92 [some (.ref 107), some (zci (1)), some (zci (r)), some (zci (0)), some (zci (3))] _ _ _
                    refine xg_step rfl rfl (fun k => rfl) ?_
                    refine xg_step rfl rfl (fun k => rfl) ?_
                    refine xg_step rfl rfl (fun k => rfl) ?_
                    show XG _ _ 195 [some (.ref 107), some (zci (1)), some (zci (r)), some (zci (0)), some (zci (3))] _ _ _
                    refine zg_inc (y := 1) rfl rfl (by decide) rfl ?_
                    refine xg_step rfl rfl (fun k => rfl) ?_
                    show XG _ _ 82 [some (.ref 107), some (zci (1)), some (zci (r)), some (zci (1)), some (zci (3))] _ _ _
                    refine xg_step rfl rfl (fun k => rfl) ?_
                    refine xg_step rfl rfl (fun k => rfl) ?_
                    refine xg_step rfl rfl (fun k => rfl) ?_
                    refine xg_step rfl rfl (fun k => rfl) ?_
                    refine xg_step rfl rfl (fun k => rfl) ?_
                    refine zg_addl (z := 2) rfl (by decide) ?_
                    refine xg_step rfl rfl (fun k => rfl) ?_
                    show XG _ _ 92 [some (.ref 107), some (zci (1)), some (zci (r)), some (zci (1)), some (zci (2))] _ _ _
                    refine xg_step rfl rfl (fun k => rfl) ?_
                    refine xg_step rfl rfl (fun k => rfl) ?_
                    refine xg_step rfl rfl (fun k => rfl) ?_
                    refine xg_step rfl rfl (fun k => rfl) ?_
                    refine xg_get rfl rfl (zha (by decide)) zc_RefM rfl rfl ?_
                    refine xg_step rfl rfl (fun k => rfl) ?_
                    refine zg_ald (x := B 53 r) (.inr ⟨rfl, rfl⟩) (zha (by decide)) zc_r_answered (by decide) ⟨by omega, by omega⟩ ((zvB (zk_answered (by omega)) (by omega)).trans ((zup_ne (by omega)).trans (zup_ne (by omega)))) ?_
                    refine zg_eq0 rfl rfl (fun x k => rfl) (by first | assumption | exact hA _ _ | exact hB _ _ | exact hC _ _ | exact zrg_max (by assumption) (hA _ _) | (constructor <;> omega)) (fun hc => ?_) (fun hc => ?_)
                    ·
                      refine xg_step rfl rfl (fun k => rfl) ?_
                      refine xg_get rfl rfl (zha (by decide)) zc_RefM rfl rfl ?_
                      refine zg_bi rfl (by decide) ?_
                      refine xg_step rfl rfl (fun k => rfl) ?_
                      refine zg_mul rfl ?_
                      refine xg_step rfl rfl (fun k => rfl) ?_
                      refine zg_add rfl ?_
                      refine zg_ald (x := 1) (.inr ⟨rfl, rfl⟩) (zha (by decide)) zc_r_got (by decide) ⟨by omega, by omega⟩ ((zvB (zk_got (by omega) (by omega)) (by omega)).trans ((zup_ne (by omega)).trans (zup_eq ⟨by omega, by omega⟩))) ?_
                      refine xg_step rfl rfl (fun k => rfl) ?_
                      refine xg_step rfl rfl (fun k => rfl) ?_
                      refine xg_get rfl rfl (zha (by decide)) zc_RefM rfl rfl ?_
                      refine zg_bi rfl (by decide) ?_
                      refine xg_step rfl rfl (fun k => rfl) ?_
                      refine zg_mul rfl ?_
                      refine xg_step rfl rfl (fun k => rfl) ?_
                      refine zg_add rfl ?_
                      refine zg_ald (x := B 51 (r * 3 + 2)) (.inr ⟨rfl, rfl⟩) (zha (by decide)) zc_r_got (by decide) ⟨by omega, by omega⟩ ((zvB (zk_got (by omega) (by omega)) (by omega)).trans ((zup_ne (by omega)).trans (zup_ne (by omega)))) ?_
                      refine zg_eq0 rfl rfl (fun x k => rfl) (by first | assumption | exact hA _ _ | exact hB _ _ | exact hC _ _ | exact zrg_max (by assumption) (hA _ _) | (constructor <;> omega)) (fun hc => ?_) (fun hc => ?_)
                      ·
                        show XG _ _ 189 [some (.ref 107), some (zci (1)), some (zci (r)), some (zci (1)), some (zci (2))] _ _ _
                        refine zg_inc (y := 3) rfl rfl (by decide) rfl ?_
                        refine xg_step rfl rfl (fun k => rfl) ?_
                        show XG _ _ 92 [some (.ref 107), some (zci (1)), some (zci (r)), some (zci (1)), some (zci (3))] _ _ _
                        refine xg_step rfl rfl (fun k => rfl) ?_
                        refine xg_step rfl rfl (fun k => rfl) ?_
                        refine xg_step rfl rfl (fun k => rfl) ?_
                        show XG _ _ 195 [some (.ref 107), some (zci (1)), some (zci (r)), some (zci (1)), some (zci (3))] _ _ _
                        refine zg_inc (y := 2) rfl rfl (by decide) rfl ?_
                        refine xg_step rfl rfl (fun k => rfl) ?_
                        show XG _ _ 82 [some (.ref 107), some (zci (1)), some (zci (r)), some (zci (2)), some (zci (3))] _ _ _
                        refine xg_step rfl rfl (fun k => rfl) ?_
                        refine xg_step rfl rfl (fun k => rfl) ?_
                        refine xg_step rfl rfl (fun k => rfl) ?_
                        refine xg_step rfl rfl (fun k => rfl) ?_
                        refine xg_step rfl rfl (fun k => rfl) ?_
                        refine zg_addl (z := 3) rfl (by decide) ?_
                        refine xg_step rfl rfl (fun k => rfl) ?_
                        show XG _ _ 92 [some (.ref 107), some (zci (1)), some (zci (r)), some (zci (2)), some (zci (3))] _ _ _
                        refine xg_step rfl rfl (fun k => rfl) ?_
                        refine xg_step rfl rfl (fun k => rfl) ?_
                        refine xg_step rfl rfl (fun k => rfl) ?_
                        show XG _ _ 195 [some (.ref 107), some (zci (1)), some (zci (r)), some (zci (2)), some (zci (3))] _ _ _
                        refine zg_inc (y := 3) rfl rfl (by decide) rfl ?_
                        refine xg_step rfl rfl (fun k => rfl) ?_
                        show XG _ _ 82 [some (.ref 107), some (zci (1)), some (zci (r)), some (zci (3)), some (zci (3))] _ _ _
                        refine xg_step rfl rfl (fun k => rfl) ?_
                        refine xg_step rfl rfl (fun k => rfl) ?_
                        refine xg_step rfl rfl (fun k => rfl) ?_
                        show XG _ _ 201 [some (.ref 107), some (zci (1)), some (zci (r)), some (zci (3)), some (zci (3))] _ _ _
                        refine xg_step rfl rfl (fun k => rfl) ?_
                        refine xg_get rfl rfl (zha (by decide)) zc_RefM rfl rfl ?_
                        refine xg_step rfl rfl (fun k => rfl) ?_
                        refine zg_ald (x := B 53 r) (.inr ⟨rfl, rfl⟩) (zha (by decide)) zc_r_answered (by decide) ⟨by omega, by omega⟩ ((zvB (zk_answered (by omega)) (by omega)).trans ((zup_ne (by omega)).trans (zup_ne (by omega)))) ?_
                        refine zg_eq0 rfl rfl (fun x k => rfl) (by first | assumption | exact hA _ _ | exact hB _ _ | exact hC _ _ | exact zrg_max (by assumption) (hA _ _) | (constructor <;> omega)) (fun hc => ?_) (fun hc => ?_)
                        ·
                          refine xg_step rfl rfl (fun k => rfl) ?_
                          refine zg_iret rfl rfl zfitI ?_
                          have e : (zans B r 1 (B (72 + 17 * 1) r)) = (zup (zup B 51 (r * 3 + 1) 1) 52 (r * 3 + 1) (B (72 + 17 * 1) r)) := zan_all (fun k hk => by rw [zup_ne (by omega), zup_ne (by omega)]; rintro ⟨q1, q2, q3, q4⟩; rw [zup_ne (by omega), zup_ne (by omega)] at q3 q4; rcases (show k = 0 ∨ k = 1 ∨ k = 2 by omega) with rfl | rfl | rfl <;> first | omega | contradiction)
                          rw [e, zb2_f (by rw [zup_ne (by omega), zup_ne (by omega)]; omega)]
                        ·
                          exact (by omega : False).elim
                      ·
                        exact (by omega : False).elim
                    ·
                      exact (by omega : False).elim
                  ·
                    refine xg_step rfl rfl (fun k => rfl) ?_
                    refine xg_get rfl rfl (zha (by decide)) zc_RefM rfl rfl ?_
                    refine zg_bi rfl (by decide) ?_
                    refine xg_step rfl rfl (fun k => rfl) ?_
                    refine zg_mul rfl ?_
                    refine xg_step rfl rfl (fun k => rfl) ?_
                    refine zg_add rfl ?_
                    refine zg_ald (x := B 52 (r * 3 + 0)) (.inl ⟨rfl, rfl⟩) (zha (by decide)) zc_r_gave (by decide) ⟨by omega, by omega⟩ ((zvB (zk_gave (by omega) (by omega)) (by omega)).trans ((zup_ne (by omega)).trans (zup_ne (by omega)))) ?_
                    refine xg_step rfl rfl (fun k => rfl) ?_
                    refine xg_get rfl rfl (zha (by decide)) zc_RefM rfl rfl ?_
                    refine zg_bi rfl (by decide) ?_
                    refine xg_step rfl rfl (fun k => rfl) ?_
                    refine zg_mul rfl ?_
                    refine xg_step rfl rfl (fun k => rfl) ?_
                    refine zg_add rfl ?_
                    refine zg_ald (x := B 52 (r * 3 + 2)) (.inl ⟨rfl, rfl⟩) (zha (by decide)) zc_r_gave (by decide) ⟨by omega, by omega⟩ ((zvB (zk_gave (by omega) (by omega)) (by omega)).trans ((zup_ne (by omega)).trans (zup_ne (by omega)))) ?_
                    refine zg_eq rfl rfl (fun x y k => rfl) (by first | assumption | exact hA _ _ | exact hB _ _ | exact hC _ _ | exact zrg_max (by assumption) (hA _ _) | (constructor <;> omega)) (by first | assumption | exact hA _ _ | exact hB _ _ | exact hC _ _ | exact zrg_max (by assumption) (hA _ _) | (constructor <;> omega)) (fun hc => ?_) (fun hc => ?_)
                    ·
                      refine xg_step rfl rfl (fun k => rfl) ?_
                      refine xg_get rfl rfl (zha (by decide)) zc_RefM rfl rfl ?_
                      refine xg_step rfl rfl (fun k => rfl) ?_
                      refine xg_step rfl rfl (fun k => rfl) ?_
                      refine zg_ast (.inr ⟨rfl, rfl, by omega⟩) (zha (by decide)) zc_r_answered (by decide) ⟨by omega, by omega⟩ (zhwB (zwB (zk_answered (by omega)) zw_r_answered (by omega))) ?_
                      refine xg_step rfl rfl (fun k => rfl) ?_
                      refine xg_get rfl rfl (zha (by decide)) zc_RefM rfl rfl ?_
                      refine xg_step rfl rfl (fun k => rfl) ?_
                      refine xg_step rfl rfl (fun k => rfl) ?_
                      refine xg_get rfl rfl (zha (by decide)) zc_RefM rfl rfl ?_
                      refine zg_bi rfl (by decide) ?_
                      refine xg_step rfl rfl (fun k => rfl) ?_
                      refine zg_mul rfl ?_
                      refine xg_step rfl rfl (fun k => rfl) ?_
                      refine zg_add rfl ?_
                      refine zg_ald (x := B 52 (r * 3 + 0)) (.inl ⟨rfl, rfl⟩) (zha (by decide)) zc_r_gave (by decide) ⟨by omega, by omega⟩ ((zvB (zk_gave (by omega) (by omega)) (by omega)).trans ((zup_ne (by omega)).trans ((zup_ne (by omega)).trans (zup_ne (by omega))))) ?_
                      refine zg_ast (.inl ⟨rfl, rfl⟩) (zha (by decide)) zc_r_answer (by decide) ⟨by omega, by omega⟩ (zhwB (zwB (zk_answer (by omega)) zw_r_answer (by omega))) ?_
                      show XG _ _ 189 [some (.ref 107), some (zci (1)), some (zci (r)), some (zci (0)), some (zci (2))] _ _ _
                      refine zg_inc (y := 3) rfl rfl (by decide) rfl ?_
                      refine xg_step rfl rfl (fun k => rfl) ?_
                      show XG _ _ 92 [some (.ref 107), some (zci (1)), some (zci (r)), some (zci (0)), some (zci (3))] _ _ _
                      refine xg_step rfl rfl (fun k => rfl) ?_
                      refine xg_step rfl rfl (fun k => rfl) ?_
                      refine xg_step rfl rfl (fun k => rfl) ?_
                      show XG _ _ 195 [some (.ref 107), some (zci (1)), some (zci (r)), some (zci (0)), some (zci (3))] _ _ _
                      refine zg_inc (y := 1) rfl rfl (by decide) rfl ?_
                      refine xg_step rfl rfl (fun k => rfl) ?_
                      show XG _ _ 82 [some (.ref 107), some (zci (1)), some (zci (r)), some (zci (1)), some (zci (3))] _ _ _
                      refine xg_step rfl rfl (fun k => rfl) ?_
                      refine xg_step rfl rfl (fun k => rfl) ?_
                      refine xg_step rfl rfl (fun k => rfl) ?_
                      refine xg_step rfl rfl (fun k => rfl) ?_
                      refine xg_step rfl rfl (fun k => rfl) ?_
                      refine zg_addl (z := 2) rfl (by decide) ?_
                      refine xg_step rfl rfl (fun k => rfl) ?_
                      show XG _ _ 92 [some (.ref 107), some (zci (1)), some (zci (r)), some (zci (1)), some (zci (2))] _ _ _
                      refine xg_step rfl rfl (fun k => rfl) ?_
                      refine xg_step rfl rfl (fun k => rfl) ?_
                      refine xg_step rfl rfl (fun k => rfl) ?_
                      refine xg_step rfl rfl (fun k => rfl) ?_
                      refine xg_get rfl rfl (zha (by decide)) zc_RefM rfl rfl ?_
                      refine xg_step rfl rfl (fun k => rfl) ?_
                      refine zg_ald (x := 1) (.inr ⟨rfl, rfl⟩) (zha (by decide)) zc_r_answered (by decide) ⟨by omega, by omega⟩ ((zvB (zk_answered (by omega)) (by omega)).trans ((zup_ne (by omega)).trans (zup_eq ⟨by omega, by omega⟩))) ?_
                      refine xg_step rfl rfl (fun k => rfl) ?_
                      show XG _ _ 195 [some (.ref 107), some (zci (1)), some (zci (r)), some (zci (1)), some (zci (2))] _ _ _
                      refine zg_inc (y := 2) rfl rfl (by decide) rfl ?_
                      refine xg_step rfl rfl (fun k => rfl) ?_
                      show XG _ _ 82 [some (.ref 107), some (zci (1)), some (zci (r)), some (zci (2)), some (zci (2))] _ _ _
                      refine xg_step rfl rfl (fun k => rfl) ?_
                      refine xg_step rfl rfl (fun k => rfl) ?_
                      refine xg_step rfl rfl (fun k => rfl) ?_
                      refine xg_step rfl rfl (fun k => rfl) ?_
                      refine xg_step rfl rfl (fun k => rfl) ?_
                      refine zg_addl (z := 3) rfl (by decide) ?_
                      refine xg_step rfl rfl (fun k => rfl) ?_
                      show XG _ _ 92 [some (.ref 107), some (zci (1)), some (zci (r)), some (zci (2)), some (zci (3))] _ _ _
                      refine xg_step rfl rfl (fun k => rfl) ?_
                      refine xg_step rfl rfl (fun k => rfl) ?_
                      refine xg_step rfl rfl (fun k => rfl) ?_
                      show XG _ _ 195 [some (.ref 107), some (zci (1)), some (zci (r)), some (zci (2)), some (zci (3))] _ _ _
                      refine zg_inc (y := 3) rfl rfl (by decide) rfl ?_
                      refine xg_step rfl rfl (fun k => rfl) ?_
                      show XG _ _ 82 [some (.ref 107), some (zci (1)), some (zci (r)), some (zci (3)), some (zci (3))] _ _ _
                      refine xg_step rfl rfl (fun k => rfl) ?_
                      refine xg_step rfl rfl (fun k => rfl) ?_
                      refine xg_step rfl rfl (fun k => rfl) ?_
                      show XG _ _ 201 [some (.ref 107), some (zci (1)), some (zci (r)), some (zci (3)), some (zci (3))] _ _ _
                      refine xg_step rfl rfl (fun k => rfl) ?_
                      refine xg_get rfl rfl (zha (by decide)) zc_RefM rfl rfl ?_
                      refine xg_step rfl rfl (fun k => rfl) ?_
                      refine zg_ald (x := 1) (.inr ⟨rfl, rfl⟩) (zha (by decide)) zc_r_answered (by decide) ⟨by omega, by omega⟩ ((zvB (zk_answered (by omega)) (by omega)).trans ((zup_ne (by omega)).trans (zup_eq ⟨by omega, by omega⟩))) ?_
                      refine xg_step rfl rfl (fun k => rfl) ?_
                      refine xg_step rfl rfl (fun k => rfl) ?_
                      refine xg_step rfl rfl (fun k => rfl) ?_
                      refine zg_iret rfl rfl zfitI ?_
                      have e : (zans B r 1 (B (72 + 17 * 1) r)) = zup (zup (zup (zup B 51 (r * 3 + 1) 1) 52 (r * 3 + 1) (B (72 + 17 * 1) r)) 53 r 1) 54 r (B (72 + 17 * 1) r) := by first | exact zan_one 3 0 2 0 rfl (by omega) ⟨by rw [zup_ne (by omega), zup_ne (by omega)]; assumption, by omega, by rw [zup_ne (by omega), zup_ne (by omega)]; assumption, by rw [zup_ne (by omega), zup_ne (by omega)]; omega⟩ | exact zan_one 3 0 2 2 rfl (by omega) ⟨by rw [zup_ne (by omega), zup_ne (by omega)]; assumption, by omega, by rw [zup_ne (by omega), zup_ne (by omega)]; assumption, by rw [zup_ne (by omega), zup_ne (by omega)]; omega⟩
                      rw [e, zb2_t (by rw [zup_ne (by omega), zup_eq ⟨rfl, rfl⟩]; decide), show B 52 (r * 3 + 0) = B (72 + 17 * 1) r by omega]
                    ·
                      refine xg_step rfl rfl (fun k => rfl) ?_
                      show XG _ _ 189 [some (.ref 107), some (zci (1)), some (zci (r)), some (zci (0)), some (zci (2))] _ _ _
                      refine zg_inc (y := 3) rfl rfl (by decide) rfl ?_
                      refine xg_step rfl rfl (fun k => rfl) ?_
                      show XG _ _ 92 [some (.ref 107), some (zci (1)), some (zci (r)), some (zci (0)), some (zci (3))] _ _ _
                      refine xg_step rfl rfl (fun k => rfl) ?_
                      refine xg_step rfl rfl (fun k => rfl) ?_
                      refine xg_step rfl rfl (fun k => rfl) ?_
                      show XG _ _ 195 [some (.ref 107), some (zci (1)), some (zci (r)), some (zci (0)), some (zci (3))] _ _ _
                      refine zg_inc (y := 1) rfl rfl (by decide) rfl ?_
                      refine xg_step rfl rfl (fun k => rfl) ?_
                      show XG _ _ 82 [some (.ref 107), some (zci (1)), some (zci (r)), some (zci (1)), some (zci (3))] _ _ _
                      refine xg_step rfl rfl (fun k => rfl) ?_
                      refine xg_step rfl rfl (fun k => rfl) ?_
                      refine xg_step rfl rfl (fun k => rfl) ?_
                      refine xg_step rfl rfl (fun k => rfl) ?_
                      refine xg_step rfl rfl (fun k => rfl) ?_
                      refine zg_addl (z := 2) rfl (by decide) ?_
                      refine xg_step rfl rfl (fun k => rfl) ?_
                      show XG _ _ 92 [some (.ref 107), some (zci (1)), some (zci (r)), some (zci (1)), some (zci (2))] _ _ _
                      refine xg_step rfl rfl (fun k => rfl) ?_
                      refine xg_step rfl rfl (fun k => rfl) ?_
                      refine xg_step rfl rfl (fun k => rfl) ?_
                      refine xg_step rfl rfl (fun k => rfl) ?_
                      refine xg_get rfl rfl (zha (by decide)) zc_RefM rfl rfl ?_
                      refine xg_step rfl rfl (fun k => rfl) ?_
                      refine zg_ald (x := B 53 r) (.inr ⟨rfl, rfl⟩) (zha (by decide)) zc_r_answered (by decide) ⟨by omega, by omega⟩ ((zvB (zk_answered (by omega)) (by omega)).trans ((zup_ne (by omega)).trans (zup_ne (by omega)))) ?_
                      refine zg_eq0 rfl rfl (fun x k => rfl) (by first | assumption | exact hA _ _ | exact hB _ _ | exact hC _ _ | exact zrg_max (by assumption) (hA _ _) | (constructor <;> omega)) (fun hc => ?_) (fun hc => ?_)
                      ·
                        refine xg_step rfl rfl (fun k => rfl) ?_
                        refine xg_get rfl rfl (zha (by decide)) zc_RefM rfl rfl ?_
                        refine zg_bi rfl (by decide) ?_
                        refine xg_step rfl rfl (fun k => rfl) ?_
                        refine zg_mul rfl ?_
                        refine xg_step rfl rfl (fun k => rfl) ?_
                        refine zg_add rfl ?_
                        refine zg_ald (x := 1) (.inr ⟨rfl, rfl⟩) (zha (by decide)) zc_r_got (by decide) ⟨by omega, by omega⟩ ((zvB (zk_got (by omega) (by omega)) (by omega)).trans ((zup_ne (by omega)).trans (zup_eq ⟨by omega, by omega⟩))) ?_
                        refine xg_step rfl rfl (fun k => rfl) ?_
                        refine xg_step rfl rfl (fun k => rfl) ?_
                        refine xg_get rfl rfl (zha (by decide)) zc_RefM rfl rfl ?_
                        refine zg_bi rfl (by decide) ?_
                        refine xg_step rfl rfl (fun k => rfl) ?_
                        refine zg_mul rfl ?_
                        refine xg_step rfl rfl (fun k => rfl) ?_
                        refine zg_add rfl ?_
                        refine zg_ald (x := B 51 (r * 3 + 2)) (.inr ⟨rfl, rfl⟩) (zha (by decide)) zc_r_got (by decide) ⟨by omega, by omega⟩ ((zvB (zk_got (by omega) (by omega)) (by omega)).trans ((zup_ne (by omega)).trans (zup_ne (by omega)))) ?_
                        refine zg_eq0 rfl rfl (fun x k => rfl) (by first | assumption | exact hA _ _ | exact hB _ _ | exact hC _ _ | exact zrg_max (by assumption) (hA _ _) | (constructor <;> omega)) (fun hc => ?_) (fun hc => ?_)
                        ·
                          exact (by omega : False).elim
                        ·
                          refine xg_step rfl rfl (fun k => rfl) ?_
                          refine xg_get rfl rfl (zha (by decide)) zc_RefM rfl rfl ?_
                          refine zg_bi rfl (by decide) ?_
                          refine xg_step rfl rfl (fun k => rfl) ?_
                          refine zg_mul rfl ?_
                          refine xg_step rfl rfl (fun k => rfl) ?_
                          refine zg_add rfl ?_
                          refine zg_ald (x := B (72 + 17 * 1) r) (.inl ⟨rfl, rfl⟩) (zha (by decide)) zc_r_gave (by decide) ⟨by omega, by omega⟩ ((zvB (zk_gave (by omega) (by omega)) (by omega)).trans (zup_eq ⟨by omega, by omega⟩)) ?_
                          refine xg_step rfl rfl (fun k => rfl) ?_
                          refine xg_get rfl rfl (zha (by decide)) zc_RefM rfl rfl ?_
                          refine zg_bi rfl (by decide) ?_
                          refine xg_step rfl rfl (fun k => rfl) ?_
                          refine zg_mul rfl ?_
                          refine xg_step rfl rfl (fun k => rfl) ?_
                          refine zg_add rfl ?_
                          refine zg_ald (x := B 52 (r * 3 + 2)) (.inl ⟨rfl, rfl⟩) (zha (by decide)) zc_r_gave (by decide) ⟨by omega, by omega⟩ ((zvB (zk_gave (by omega) (by omega)) (by omega)).trans ((zup_ne (by omega)).trans (zup_ne (by omega)))) ?_
                          refine zg_eq rfl rfl (fun x y k => rfl) (by first | assumption | exact hA _ _ | exact hB _ _ | exact hC _ _ | exact zrg_max (by assumption) (hA _ _) | (constructor <;> omega)) (by first | assumption | exact hA _ _ | exact hB _ _ | exact hC _ _ | exact zrg_max (by assumption) (hA _ _) | (constructor <;> omega)) (fun hc => ?_) (fun hc => ?_)
                          ·
                            refine xg_step rfl rfl (fun k => rfl) ?_
                            refine xg_get rfl rfl (zha (by decide)) zc_RefM rfl rfl ?_
                            refine xg_step rfl rfl (fun k => rfl) ?_
                            refine xg_step rfl rfl (fun k => rfl) ?_
                            refine zg_ast (.inr ⟨rfl, rfl, by omega⟩) (zha (by decide)) zc_r_answered (by decide) ⟨by omega, by omega⟩ (zhwB (zwB (zk_answered (by omega)) zw_r_answered (by omega))) ?_
                            refine xg_step rfl rfl (fun k => rfl) ?_
                            refine xg_get rfl rfl (zha (by decide)) zc_RefM rfl rfl ?_
                            refine xg_step rfl rfl (fun k => rfl) ?_
                            refine xg_step rfl rfl (fun k => rfl) ?_
                            refine xg_get rfl rfl (zha (by decide)) zc_RefM rfl rfl ?_
                            refine zg_bi rfl (by decide) ?_
                            refine xg_step rfl rfl (fun k => rfl) ?_
                            refine zg_mul rfl ?_
                            refine xg_step rfl rfl (fun k => rfl) ?_
                            refine zg_add rfl ?_
                            refine zg_ald (x := B (72 + 17 * 1) r) (.inl ⟨rfl, rfl⟩) (zha (by decide)) zc_r_gave (by decide) ⟨by omega, by omega⟩ ((zvB (zk_gave (by omega) (by omega)) (by omega)).trans ((zup_ne (by omega)).trans (zup_eq ⟨by omega, by omega⟩))) ?_
                            refine zg_ast (.inl ⟨rfl, rfl⟩) (zha (by decide)) zc_r_answer (by decide) ⟨by omega, by omega⟩ (zhwB (zwB (zk_answer (by omega)) zw_r_answer (by omega))) ?_
                            show XG _ _ 189 [some (.ref 107), some (zci (1)), some (zci (r)), some (zci (1)), some (zci (2))] _ _ _
                            refine zg_inc (y := 3) rfl rfl (by decide) rfl ?_
                            refine xg_step rfl rfl (fun k => rfl) ?_
                            show XG _ _ 92 [some (.ref 107), some (zci (1)), some (zci (r)), some (zci (1)), some (zci (3))] _ _ _
                            refine xg_step rfl rfl (fun k => rfl) ?_
                            refine xg_step rfl rfl (fun k => rfl) ?_
                            refine xg_step rfl rfl (fun k => rfl) ?_
                            show XG _ _ 195 [some (.ref 107), some (zci (1)), some (zci (r)), some (zci (1)), some (zci (3))] _ _ _
                            refine zg_inc (y := 2) rfl rfl (by decide) rfl ?_
                            refine xg_step rfl rfl (fun k => rfl) ?_
                            show XG _ _ 82 [some (.ref 107), some (zci (1)), some (zci (r)), some (zci (2)), some (zci (3))] _ _ _
                            refine xg_step rfl rfl (fun k => rfl) ?_
                            refine xg_step rfl rfl (fun k => rfl) ?_
                            refine xg_step rfl rfl (fun k => rfl) ?_
                            refine xg_step rfl rfl (fun k => rfl) ?_
                            refine xg_step rfl rfl (fun k => rfl) ?_
                            refine zg_addl (z := 3) rfl (by decide) ?_
                            refine xg_step rfl rfl (fun k => rfl) ?_
                            show XG _ _ 92 [some (.ref 107), some (zci (1)), some (zci (r)), some (zci (2)), some (zci (3))] _ _ _
                            refine xg_step rfl rfl (fun k => rfl) ?_
                            refine xg_step rfl rfl (fun k => rfl) ?_
                            refine xg_step rfl rfl (fun k => rfl) ?_
                            show XG _ _ 195 [some (.ref 107), some (zci (1)), some (zci (r)), some (zci (2)), some (zci (3))] _ _ _
                            refine zg_inc (y := 3) rfl rfl (by decide) rfl ?_
                            refine xg_step rfl rfl (fun k => rfl) ?_
                            show XG _ _ 82 [some (.ref 107), some (zci (1)), some (zci (r)), some (zci (3)), some (zci (3))] _ _ _
                            refine xg_step rfl rfl (fun k => rfl) ?_
                            refine xg_step rfl rfl (fun k => rfl) ?_
                            refine xg_step rfl rfl (fun k => rfl) ?_
                            show XG _ _ 201 [some (.ref 107), some (zci (1)), some (zci (r)), some (zci (3)), some (zci (3))] _ _ _
                            refine xg_step rfl rfl (fun k => rfl) ?_
                            refine xg_get rfl rfl (zha (by decide)) zc_RefM rfl rfl ?_
                            refine xg_step rfl rfl (fun k => rfl) ?_
                            refine zg_ald (x := 1) (.inr ⟨rfl, rfl⟩) (zha (by decide)) zc_r_answered (by decide) ⟨by omega, by omega⟩ ((zvB (zk_answered (by omega)) (by omega)).trans ((zup_ne (by omega)).trans (zup_eq ⟨by omega, by omega⟩))) ?_
                            refine xg_step rfl rfl (fun k => rfl) ?_
                            refine xg_step rfl rfl (fun k => rfl) ?_
                            refine xg_step rfl rfl (fun k => rfl) ?_
                            refine zg_iret rfl rfl zfitI ?_
                            have e : (zans B r 1 (B (72 + 17 * 1) r)) = zup (zup (zup (zup B 51 (r * 3 + 1) 1) 52 (r * 3 + 1) (B (72 + 17 * 1) r)) 53 r 1) 54 r (B (72 + 17 * 1) r) := by first | exact zan_one 3 0 2 0 rfl (by omega) ⟨by rw [zup_ne (by omega), zup_ne (by omega)]; assumption, by omega, by rw [zup_ne (by omega), zup_ne (by omega)]; assumption, by rw [zup_ne (by omega), zup_ne (by omega)]; omega⟩ | exact zan_one 3 0 2 2 rfl (by omega) ⟨by rw [zup_ne (by omega), zup_ne (by omega)]; assumption, by omega, by rw [zup_ne (by omega), zup_ne (by omega)]; assumption, by rw [zup_ne (by omega), zup_ne (by omega)]; omega⟩
                            rw [e, zb2_t (by rw [zup_ne (by omega), zup_eq ⟨rfl, rfl⟩]; decide)]
                          ·
                            refine xg_step rfl rfl (fun k => rfl) ?_
                            show XG _ _ 189 [some (.ref 107), some (zci (1)), some (zci (r)), some (zci (1)), some (zci (2))] _ _ _
                            refine zg_inc (y := 3) rfl rfl (by decide) rfl ?_
                            refine xg_step rfl rfl (fun k => rfl) ?_
                            show XG _ _ 92 [some (.ref 107), some (zci (1)), some (zci (r)), some (zci (1)), some (zci (3))] _ _ _
                            refine xg_step rfl rfl (fun k => rfl) ?_
                            refine xg_step rfl rfl (fun k => rfl) ?_
                            refine xg_step rfl rfl (fun k => rfl) ?_
                            show XG _ _ 195 [some (.ref 107), some (zci (1)), some (zci (r)), some (zci (1)), some (zci (3))] _ _ _
                            refine zg_inc (y := 2) rfl rfl (by decide) rfl ?_
                            refine xg_step rfl rfl (fun k => rfl) ?_
                            show XG _ _ 82 [some (.ref 107), some (zci (1)), some (zci (r)), some (zci (2)), some (zci (3))] _ _ _
                            refine xg_step rfl rfl (fun k => rfl) ?_
                            refine xg_step rfl rfl (fun k => rfl) ?_
                            refine xg_step rfl rfl (fun k => rfl) ?_
                            refine xg_step rfl rfl (fun k => rfl) ?_
                            refine xg_step rfl rfl (fun k => rfl) ?_
                            refine zg_addl (z := 3) rfl (by decide) ?_
                            refine xg_step rfl rfl (fun k => rfl) ?_
                            show XG _ _ 92 [some (.ref 107), some (zci (1)), some (zci (r)), some (zci (2)), some (zci (3))] _ _ _
                            refine xg_step rfl rfl (fun k => rfl) ?_
                            refine xg_step rfl rfl (fun k => rfl) ?_
                            refine xg_step rfl rfl (fun k => rfl) ?_
                            show XG _ _ 195 [some (.ref 107), some (zci (1)), some (zci (r)), some (zci (2)), some (zci (3))] _ _ _
                            refine zg_inc (y := 3) rfl rfl (by decide) rfl ?_
                            refine xg_step rfl rfl (fun k => rfl) ?_
                            show XG _ _ 82 [some (.ref 107), some (zci (1)), some (zci (r)), some (zci (3)), some (zci (3))] _ _ _
                            refine xg_step rfl rfl (fun k => rfl) ?_
                            refine xg_step rfl rfl (fun k => rfl) ?_
                            refine xg_step rfl rfl (fun k => rfl) ?_
                            show XG _ _ 201 [some (.ref 107), some (zci (1)), some (zci (r)), some (zci (3)), some (zci (3))] _ _ _
                            refine xg_step rfl rfl (fun k => rfl) ?_
                            refine xg_get rfl rfl (zha (by decide)) zc_RefM rfl rfl ?_
                            refine xg_step rfl rfl (fun k => rfl) ?_
                            refine zg_ald (x := B 53 r) (.inr ⟨rfl, rfl⟩) (zha (by decide)) zc_r_answered (by decide) ⟨by omega, by omega⟩ ((zvB (zk_answered (by omega)) (by omega)).trans ((zup_ne (by omega)).trans (zup_ne (by omega)))) ?_
                            refine zg_eq0 rfl rfl (fun x k => rfl) (by first | assumption | exact hA _ _ | exact hB _ _ | exact hC _ _ | exact zrg_max (by assumption) (hA _ _) | (constructor <;> omega)) (fun hc => ?_) (fun hc => ?_)
                            ·
                              refine xg_step rfl rfl (fun k => rfl) ?_
                              refine zg_iret rfl rfl zfitI ?_
                              have e : (zans B r 1 (B (72 + 17 * 1) r)) = (zup (zup B 51 (r * 3 + 1) 1) 52 (r * 3 + 1) (B (72 + 17 * 1) r)) := zan_all (fun k hk => by rw [zup_ne (by omega), zup_ne (by omega)]; rintro ⟨q1, q2, q3, q4⟩; rw [zup_ne (by omega), zup_ne (by omega)] at q3 q4; rcases (show k = 0 ∨ k = 1 ∨ k = 2 by omega) with rfl | rfl | rfl <;> first | omega | contradiction)
                              rw [e, zb2_f (by rw [zup_ne (by omega), zup_ne (by omega)]; omega)]
                            ·
                              exact (by omega : False).elim
                      ·
                        exact (by omega : False).elim
              ·
                exact (by omega : False).elim
        ·
          show XG _ _ 195 [some (.ref 107), some (zci (1)), some (zci (r)), some (zci (0)), some (zci (1))] _ _ _
          refine zg_inc (y := 1) rfl rfl (by decide) rfl ?_
          refine xg_step rfl rfl (fun k => rfl) ?_
          show XG _ _ 82 [some (.ref 107), some (zci (1)), some (zci (r)), some (zci (1)), some (zci (1))] _ _ _
          refine xg_step rfl rfl (fun k => rfl) ?_
          refine xg_step rfl rfl (fun k => rfl) ?_
          refine xg_step rfl rfl (fun k => rfl) ?_
          refine xg_step rfl rfl (fun k => rfl) ?_
          refine xg_step rfl rfl (fun k => rfl) ?_
          refine zg_addl (z := 2) rfl (by decide) ?_
          refine xg_step rfl rfl (fun k => rfl) ?_
          show XG _ _ 92 [some (.ref 107), some (zci (1)), some (zci (r)), some (zci (1)), some (zci (2))] _ _ _
          refine xg_step rfl rfl (fun k => rfl) ?_
          refine xg_step rfl rfl (fun k => rfl) ?_
          refine xg_step rfl rfl (fun k => rfl) ?_
          refine xg_step rfl rfl (fun k => rfl) ?_
          refine xg_get rfl rfl (zha (by decide)) zc_RefM rfl rfl ?_
          refine xg_step rfl rfl (fun k => rfl) ?_
          refine zg_ald (x := B 53 r) (.inr ⟨rfl, rfl⟩) (zha (by decide)) zc_r_answered (by decide) ⟨by omega, by omega⟩ ((zvB (zk_answered (by omega)) (by omega)).trans ((zup_ne (by omega)).trans (zup_ne (by omega)))) ?_
          refine zg_eq0 rfl rfl (fun x k => rfl) (by first | assumption | exact hA _ _ | exact hB _ _ | exact hC _ _ | exact zrg_max (by assumption) (hA _ _) | (constructor <;> omega)) (fun hc => ?_) (fun hc => ?_)
          ·
            exact (by omega : False).elim
          ·
            show XG _ _ 195 [some (.ref 107), some (zci (1)), some (zci (r)), some (zci (1)), some (zci (2))] _ _ _
            refine zg_inc (y := 2) rfl rfl (by decide) rfl ?_
            refine xg_step rfl rfl (fun k => rfl) ?_
            show XG _ _ 82 [some (.ref 107), some (zci (1)), some (zci (r)), some (zci (2)), some (zci (2))] _ _ _
            refine xg_step rfl rfl (fun k => rfl) ?_
            refine xg_step rfl rfl (fun k => rfl) ?_
            refine xg_step rfl rfl (fun k => rfl) ?_
            refine xg_step rfl rfl (fun k => rfl) ?_
            refine xg_step rfl rfl (fun k => rfl) ?_
            refine zg_addl (z := 3) rfl (by decide) ?_
            refine xg_step rfl rfl (fun k => rfl) ?_
            show XG _ _ 92 [some (.ref 107), some (zci (1)), some (zci (r)), some (zci (2)), some (zci (3))] _ _ _
            refine xg_step rfl rfl (fun k => rfl) ?_
            refine xg_step rfl rfl (fun k => rfl) ?_
            refine xg_step rfl rfl (fun k => rfl) ?_
            show XG _ _ 195 [some (.ref 107), some (zci (1)), some (zci (r)), some (zci (2)), some (zci (3))] _ _ _
            refine zg_inc (y := 3) rfl rfl (by decide) rfl ?_
            refine xg_step rfl rfl (fun k => rfl) ?_
            show XG _ _ 82 [some (.ref 107), some (zci (1)), some (zci (r)), some (zci (3)), some (zci (3))] _ _ _
            refine xg_step rfl rfl (fun k => rfl) ?_
            refine xg_step rfl rfl (fun k => rfl) ?_
            refine xg_step rfl rfl (fun k => rfl) ?_
            show XG _ _ 201 [some (.ref 107), some (zci (1)), some (zci (r)), some (zci (3)), some (zci (3))] _ _ _
            refine xg_step rfl rfl (fun k => rfl) ?_
            refine xg_get rfl rfl (zha (by decide)) zc_RefM rfl rfl ?_
            refine xg_step rfl rfl (fun k => rfl) ?_
            refine zg_ald (x := B 53 r) (.inr ⟨rfl, rfl⟩) (zha (by decide)) zc_r_answered (by decide) ⟨by omega, by omega⟩ ((zvB (zk_answered (by omega)) (by omega)).trans ((zup_ne (by omega)).trans (zup_ne (by omega)))) ?_
            refine zg_eq0 rfl rfl (fun x k => rfl) (by first | assumption | exact hA _ _ | exact hB _ _ | exact hC _ _ | exact zrg_max (by assumption) (hA _ _) | (constructor <;> omega)) (fun hc => ?_) (fun hc => ?_)
            ·
              exact (by omega : False).elim
            ·
              refine xg_step rfl rfl (fun k => rfl) ?_
              refine xg_step rfl rfl (fun k => rfl) ?_
              refine zg_iret rfl rfl zfitI ?_
              have e : (zans B r 1 (B (72 + 17 * 1) r)) = (zup (zup B 51 (r * 3 + 1) 1) 52 (r * 3 + 1) (B (72 + 17 * 1) r)) := zan_all (fun k hk => by rw [zup_ne (by omega), zup_ne (by omega)]; rintro ⟨q1, q2, q3, q4⟩; rw [zup_ne (by omega), zup_ne (by omega)] at q3 q4; rcases (show k = 0 ∨ k = 1 ∨ k = 2 by omega) with rfl | rfl | rfl <;> first | omega | contradiction)
              rw [e, zb2_t (by rw [zup_ne (by omega), zup_ne (by omega)]; omega)]
    ·
      refine xg_step rfl rfl (fun k => rfl) ?_
      refine xg_step rfl rfl (fun k => rfl) ?_
      refine xg_step rfl rfl (fun k => rfl) ?_
      refine xg_step rfl rfl (fun k => rfl) ?_
      refine zg_cvi rfl rfl rfl (Nat.le_of_ble_eq_true rfl) (zha (by decide)) zc_RefM rfl rfl zq_132t ?_
      refine xg_step rfl rfl (fun k => rfl) ?_
      exact (by omega : False).elim
  ·
    refine xg_step rfl rfl (fun k => rfl) ?_
    refine xg_step rfl rfl (fun k => rfl) ?_
    refine xg_step rfl rfl (fun k => rfl) ?_
    refine xg_step rfl rfl (fun k => rfl) ?_
    refine zg_cvi rfl rfl rfl (Nat.le_of_ble_eq_true rfl) (zha (by decide)) zc_RefM rfl rfl zq_132t ?_
    refine xg_step rfl rfl (fun k => rfl) ?_
    exact (by omega : False).elim
set_option maxRecDepth 10000 in
theorem zo_138_2 {d : Nat} {A B C : ZM} (hB : zRg B) (hC : zRg C) {r : Int} (hr : zrg r) (h2 : 0 ≤ r ∧ r < B 1 6) (hq60 : B 1 6 ≤ 60) (h3 : ¬ B (71 + 17 * 2) r = 0) (hinv : B 53 r = 0 → ¬ (¬ B 51 (r * 3 + 0) = 0 ∧ ¬ B 51 (r * 3 + 1) = 0 ∧ B 52 (r * 3 + 0) = B 52 (r * 3 + 1))) : XR (d + 2) 138 [.ref 107, zci 2, zci r] (zhp A (zmg B C)) (some (zci (zb2 (¬ (zans B r 2 (B (72 + 17 * 2) r)) 53 r = 0))), zhp A (zmg (zans B r 2 (B (72 + 17 * 2) r)) (zup C 107 0 0))) := by
  refine XR.of (Nat.le_of_ble_eq_true rfl) rfl ?_
  refine xg_step rfl rfl (fun k => rfl) ?_
  refine xg_step rfl rfl (fun k => rfl) ?_
  refine zg_csb rfl rfl (by decide) rfl rfl (Nat.le_of_ble_eq_true rfl) rfl (zq_130 hB hC (by first | assumption | exact hA _ _ | exact hB _ _ | exact hC _ _ | exact zrg_max (by assumption) (hA _ _) | (constructor <;> omega))) (fun hc => ?_) (fun hc => ?_)
  ·
    refine xg_step rfl rfl (fun k => rfl) ?_
    refine xg_step rfl rfl (fun k => rfl) ?_
    refine xg_step rfl rfl (fun k => rfl) ?_
    refine zg_cvb rfl rfl rfl (Nat.le_of_ble_eq_true rfl) (zha (by decide)) zc_RefM rfl rfl (zq_131 hB hC (by first | assumption | exact hA _ _ | exact hB _ _ | exact hC _ _ | exact zrg_max (by assumption) (hA _ _) | (constructor <;> omega))) (fun hc => ?_) (fun hc => ?_)
    ·
      refine xg_step rfl rfl (fun k => rfl) ?_
      refine xg_step rfl rfl (fun k => rfl) ?_
      refine xg_step rfl rfl (fun k => rfl) ?_
      refine zg_cvi rfl rfl rfl (Nat.le_of_ble_eq_true rfl) (zha (by decide)) zc_RefM rfl rfl zq_132f ?_
      refine xg_step rfl rfl (fun k => rfl) ?_
      refine xg_step rfl rfl (fun k => rfl) ?_
      refine xg_get rfl rfl (zha (by decide)) zc_RefM rfl rfl ?_
      refine zg_bi rfl (by decide) ?_
      refine xg_step rfl rfl (fun k => rfl) ?_
      refine zg_mul rfl ?_
      refine xg_step rfl rfl (fun k => rfl) ?_
      refine zg_add rfl ?_
      refine zg_ald (.inr ⟨rfl, rfl⟩) (zha (by decide)) zc_r_hasReply (by decide) ⟨by omega, by omega⟩ (zvB (zk_hasReply (by omega) (by omega)) (by omega)) ?_
      refine zg_eq0 rfl rfl (fun x k => rfl) (by first | assumption | exact hA _ _ | exact hB _ _ | exact hC _ _ | exact zrg_max (by assumption) (hA _ _) | (constructor <;> omega)) (fun hc => ?_) (fun hc => ?_)
      ·
        refine xg_step rfl rfl (fun k => rfl) ?_
        refine zg_iret rfl rfl zfitI ?_
        exact (by omega : False).elim
      ·
        refine xg_step rfl rfl (fun k => rfl) ?_
        refine xg_get rfl rfl (zha (by decide)) zc_RefM rfl rfl ?_
        refine zg_bi rfl (by decide) ?_
        refine xg_step rfl rfl (fun k => rfl) ?_
        refine zg_mul rfl ?_
        refine xg_step rfl rfl (fun k => rfl) ?_
        refine zg_add rfl ?_
        refine xg_step rfl rfl (fun k => rfl) ?_
        refine zg_ast (.inr ⟨rfl, rfl, by omega⟩) (zha (by decide)) zc_r_got (by decide) ⟨by omega, by omega⟩ (zhwB (zwB (zk_got (by omega) (by omega)) zw_r_got (by omega))) ?_
        refine xg_step rfl rfl (fun k => rfl) ?_
        refine xg_get rfl rfl (zha (by decide)) zc_RefM rfl rfl ?_
        refine zg_bi rfl (by decide) ?_
        refine xg_step rfl rfl (fun k => rfl) ?_
        refine zg_mul rfl ?_
        refine xg_step rfl rfl (fun k => rfl) ?_
        refine zg_add rfl ?_
        refine xg_step rfl rfl (fun k => rfl) ?_
        refine xg_get rfl rfl (zha (by decide)) zc_RefM rfl rfl ?_
        refine zg_bi rfl (by decide) ?_
        refine xg_step rfl rfl (fun k => rfl) ?_
        refine zg_mul rfl ?_
        refine xg_step rfl rfl (fun k => rfl) ?_
        refine zg_add rfl ?_
        refine zg_ald (x := B (72 + 17 * 2) r) (.inl ⟨rfl, rfl⟩) (zha (by decide)) zc_r_replies (by decide) ⟨by omega, by omega⟩ ((zvB (zk_replies (by omega) (by omega)) (by omega)).trans (zup_ne (by omega))) ?_
        refine zg_ast (.inl ⟨rfl, rfl⟩) (zha (by decide)) zc_r_gave (by decide) ⟨by omega, by omega⟩ (zhwB (zwB (zk_gave (by omega) (by omega)) zw_r_gave (by omega))) ?_
        refine xg_step rfl rfl (fun k => rfl) ?_
        refine xg_step rfl rfl (fun k => rfl) ?_
        show XG _ _ 82 [some (.ref 107), some (zci (2)), some (zci (r)), some (zci (0)), none] _ _ _
        refine xg_step rfl rfl (fun k => rfl) ?_
        refine xg_step rfl rfl (fun k => rfl) ?_
        refine xg_step rfl rfl (fun k => rfl) ?_
        refine xg_step rfl rfl (fun k => rfl) ?_
        refine xg_step rfl rfl (fun k => rfl) ?_
        refine zg_addl (z := 1) rfl (by decide) ?_
        refine xg_step rfl rfl (fun k => rfl) ?_
        show XG _ _ 92 [some (.ref 107), some (zci (2)), some (zci (r)), some (zci (0)), some (zci (1))] _ _ _
        refine xg_step rfl rfl (fun k => rfl) ?_
        refine xg_step rfl rfl (fun k => rfl) ?_
        refine xg_step rfl rfl (fun k => rfl) ?_
        refine xg_step rfl rfl (fun k => rfl) ?_
        refine xg_get rfl rfl (zha (by decide)) zc_RefM rfl rfl ?_
        refine xg_step rfl rfl (fun k => rfl) ?_
        refine zg_ald (x := B 53 r) (.inr ⟨rfl, rfl⟩) (zha (by decide)) zc_r_answered (by decide) ⟨by omega, by omega⟩ ((zvB (zk_answered (by omega)) (by omega)).trans ((zup_ne (by omega)).trans (zup_ne (by omega)))) ?_
        refine zg_eq0 rfl rfl (fun x k => rfl) (by first | assumption | exact hA _ _ | exact hB _ _ | exact hC _ _ | exact zrg_max (by assumption) (hA _ _) | (constructor <;> omega)) (fun hc => ?_) (fun hc => ?_)
        ·
          refine xg_step rfl rfl (fun k => rfl) ?_
          refine xg_get rfl rfl (zha (by decide)) zc_RefM rfl rfl ?_
          refine zg_bi rfl (by decide) ?_
          refine xg_step rfl rfl (fun k => rfl) ?_
          refine zg_mul rfl ?_
          refine xg_step rfl rfl (fun k => rfl) ?_
          refine zg_add rfl ?_
          refine zg_ald (x := B 51 (r * 3 + 0)) (.inr ⟨rfl, rfl⟩) (zha (by decide)) zc_r_got (by decide) ⟨by omega, by omega⟩ ((zvB (zk_got (by omega) (by omega)) (by omega)).trans ((zup_ne (by omega)).trans (zup_ne (by omega)))) ?_
          refine zg_eq0 rfl rfl (fun x k => rfl) (by first | assumption | exact hA _ _ | exact hB _ _ | exact hC _ _ | exact zrg_max (by assumption) (hA _ _) | (constructor <;> omega)) (fun hc => ?_) (fun hc => ?_)
          ·
            show XG _ _ 189 [some (.ref 107), some (zci (2)), some (zci (r)), some (zci (0)), some (zci (1))] _ _ _
            refine zg_inc (y := 2) rfl rfl (by decide) rfl ?_
            refine xg_step rfl rfl (fun k => rfl) ?_
            show XG _ _ 92 [some (.ref 107), some (zci (2)), some (zci (r)), some (zci (0)), some (zci (2))] _ _ _
            refine xg_step rfl rfl (fun k => rfl) ?_
            refine xg_step rfl rfl (fun k => rfl) ?_
            refine xg_step rfl rfl (fun k => rfl) ?_
            refine xg_step rfl rfl (fun k => rfl) ?_
            refine xg_get rfl rfl (zha (by decide)) zc_RefM rfl rfl ?_
            refine xg_step rfl rfl (fun k => rfl) ?_
            refine zg_ald (x := B 53 r) (.inr ⟨rfl, rfl⟩) (zha (by decide)) zc_r_answered (by decide) ⟨by omega, by omega⟩ ((zvB (zk_answered (by omega)) (by omega)).trans ((zup_ne (by omega)).trans (zup_ne (by omega)))) ?_
            refine zg_eq0 rfl rfl (fun x k => rfl) (by first | assumption | exact hA _ _ | exact hB _ _ | exact hC _ _ | exact zrg_max (by assumption) (hA _ _) | (constructor <;> omega)) (fun hc => ?_) (fun hc => ?_)
            ·
              refine xg_step rfl rfl (fun k => rfl) ?_
              refine xg_get rfl rfl (zha (by decide)) zc_RefM rfl rfl ?_
              refine zg_bi rfl (by decide) ?_
              refine xg_step rfl rfl (fun k => rfl) ?_
              refine zg_mul rfl ?_
              refine xg_step rfl rfl (fun k => rfl) ?_
              refine zg_add rfl ?_
              refine zg_ald (x := B 51 (r * 3 + 0)) (.inr ⟨rfl, rfl⟩) (zha (by decide)) zc_r_got (by decide) ⟨by omega, by omega⟩ ((zvB (zk_got (by omega) (by omega)) (by omega)).trans ((zup_ne (by omega)).trans (zup_ne (by omega)))) ?_
              refine zg_eq0 rfl rfl (fun x k => rfl) (by first | assumption | exact hA _ _ | exact hB _ _ | exact hC _ _ | exact zrg_max (by assumption) (hA _ _) | (constructor <;> omega)) (fun hc => ?_) (fun hc => ?_)
              ·
                show XG _ _ 189 [some (.ref 107), some (zci (2)), some (zci (r)), some (zci (0)), some (zci (2))] _ _ _
                refine zg_inc (y := 3) rfl rfl (by decide) rfl ?_
                refine xg_step rfl rfl (fun k => rfl) ?_
                show XG _ _ 92 [some (.ref 107), some (zci (2)), some (zci (r)), some (zci (0)), some (zci (3))] _ _ _
                refine xg_step rfl rfl (fun k => rfl) ?_
                refine xg_step rfl rfl (fun k => rfl) ?_
                refine xg_step rfl rfl (fun k => rfl) ?_
                show XG _ _ 195 [some (.ref 107), some (zci (2)), some (zci (r)), some (zci (0)), some (zci (3))] _ _ _
                refine zg_inc (y := 1) rfl rfl (by decide) rfl ?_
                refine xg_step rfl rfl (fun k => rfl) ?_
                show XG _ _ 82 [some (.ref 107), some (zci (2)), some (zci (r)), some (zci (1)), some (zci (3))] _ _ _
                refine xg_step rfl rfl (fun k => rfl) ?_
                refine xg_step rfl rfl (fun k => rfl) ?_
                refine xg_step rfl rfl (fun k => rfl) ?_
                refine xg_step rfl rfl (fun k => rfl) ?_
                refine xg_step rfl rfl (fun k => rfl) ?_
                refine zg_addl (z := 2) rfl (by decide) ?_
                refine xg_step rfl rfl (fun k => rfl) ?_
                show XG _ _ 92 [some (.ref 107), some (zci (2)), some (zci (r)), some (zci (1)), some (zci (2))] _ _ _
                refine xg_step rfl rfl (fun k => rfl) ?_
                refine xg_step rfl rfl (fun k => rfl) ?_
                refine xg_step rfl rfl (fun k => rfl) ?_
                refine xg_step rfl rfl (fun k => rfl) ?_
                refine xg_get rfl rfl (zha (by decide)) zc_RefM rfl rfl ?_
                refine xg_step rfl rfl (fun k => rfl) ?_
                refine zg_ald (x := B 53 r) (.inr ⟨rfl, rfl⟩) (zha (by decide)) zc_r_answered (by decide) ⟨by omega, by omega⟩ ((zvB (zk_answered (by omega)) (by omega)).trans ((zup_ne (by omega)).trans (zup_ne (by omega)))) ?_
                refine zg_eq0 rfl rfl (fun x k => rfl) (by first | assumption | exact hA _ _ | exact hB _ _ | exact hC _ _ | exact zrg_max (by assumption) (hA _ _) | (constructor <;> omega)) (fun hc => ?_) (fun hc => ?_)
                ·
                  refine xg_step rfl rfl (fun k => rfl) ?_
                  refine xg_get rfl rfl (zha (by decide)) zc_RefM rfl rfl ?_
                  refine zg_bi rfl (by decide) ?_
                  refine xg_step rfl rfl (fun k => rfl) ?_
                  refine zg_mul rfl ?_
                  refine xg_step rfl rfl (fun k => rfl) ?_
                  refine zg_add rfl ?_
                  refine zg_ald (x := B 51 (r * 3 + 1)) (.inr ⟨rfl, rfl⟩) (zha (by decide)) zc_r_got (by decide) ⟨by omega, by omega⟩ ((zvB (zk_got (by omega) (by omega)) (by omega)).trans ((zup_ne (by omega)).trans (zup_ne (by omega)))) ?_
                  refine zg_eq0 rfl rfl (fun x k => rfl) (by first | assumption | exact hA _ _ | exact hB _ _ | exact hC _ _ | exact zrg_max (by assumption) (hA _ _) | (constructor <;> omega)) (fun hc => ?_) (fun hc => ?_)
                  ·
                    show XG _ _ 189 [some (.ref 107), some (zci (2)), some (zci (r)), some (zci (1)), some (zci (2))] _ _ _
                    refine zg_inc (y := 3) rfl rfl (by decide) rfl ?_
                    refine xg_step rfl rfl (fun k => rfl) ?_
                    show XG _ _ 92 [some (.ref 107), some (zci (2)), some (zci (r)), some (zci (1)), some (zci (3))] _ _ _
                    refine xg_step rfl rfl (fun k => rfl) ?_
                    refine xg_step rfl rfl (fun k => rfl) ?_
                    refine xg_step rfl rfl (fun k => rfl) ?_
                    show XG _ _ 195 [some (.ref 107), some (zci (2)), some (zci (r)), some (zci (1)), some (zci (3))] _ _ _
                    refine zg_inc (y := 2) rfl rfl (by decide) rfl ?_
                    refine xg_step rfl rfl (fun k => rfl) ?_
                    show XG _ _ 82 [some (.ref 107), some (zci (2)), some (zci (r)), some (zci (2)), some (zci (3))] _ _ _
                    refine xg_step rfl rfl (fun k => rfl) ?_
                    refine xg_step rfl rfl (fun k => rfl) ?_
                    refine xg_step rfl rfl (fun k => rfl) ?_
                    refine xg_step rfl rfl (fun k => rfl) ?_
                    refine xg_step rfl rfl (fun k => rfl) ?_
                    refine zg_addl (z := 3) rfl (by decide) ?_
                    refine xg_step rfl rfl (fun k => rfl) ?_
                    show XG _ _ 92 [some (.ref 107), some (zci (2)), some (zci (r)), some (zci (2)), some (zci (3))] _ _ _
                    refine xg_step rfl rfl (fun k => rfl) ?_
                    refine xg_step rfl rfl (fun k => rfl) ?_
                    refine xg_step rfl rfl (fun k => rfl) ?_
                    show XG _ _ 195 [some (.ref 107), some (zci (2)), some (zci (r)), some (zci (2)), some (zci (3))] _ _ _
                    refine zg_inc (y := 3) rfl rfl (by decide) rfl ?_
                    refine xg_step rfl rfl (fun k => rfl) ?_
                    show XG _ _ 82 [some (.ref 107), some (zci (2)), some (zci (r)), some (zci (3)), some (zci (3))] _ _ _
                    refine xg_step rfl rfl (fun k => rfl) ?_
                    refine xg_step rfl rfl (fun k => rfl) ?_
                    refine xg_step rfl rfl (fun k => rfl) ?_
                    show XG _ _ 201 [some (.ref 107), some (zci (2)), some (zci (r)), some (zci (3)), some (zci (3))] _ _ _
                    refine xg_step rfl rfl (fun k => rfl) ?_
                    refine xg_get rfl rfl (zha (by decide)) zc_RefM rfl rfl ?_
                    refine xg_step rfl rfl (fun k => rfl) ?_
                    refine zg_ald (x := B 53 r) (.inr ⟨rfl, rfl⟩) (zha (by decide)) zc_r_answered (by decide) ⟨by omega, by omega⟩ ((zvB (zk_answered (by omega)) (by omega)).trans ((zup_ne (by omega)).trans (zup_ne (by omega)))) ?_
                    refine zg_eq0 rfl rfl (fun x k => rfl) (by first | assumption | exact hA _ _ | exact hB _ _ | exact hC _ _ | exact zrg_max (by assumption) (hA _ _) | (constructor <;> omega)) (fun hc => ?_) (fun hc => ?_)
                    ·
                      refine xg_step rfl rfl (fun k => rfl) ?_
                      refine zg_iret rfl rfl zfitI ?_
                      have e : (zans B r 2 (B (72 + 17 * 2) r)) = (zup (zup B 51 (r * 3 + 2) 1) 52 (r * 3 + 2) (B (72 + 17 * 2) r)) := zan_all (fun k hk => by rw [zup_ne (by omega), zup_ne (by omega)]; rintro ⟨q1, q2, q3, q4⟩; rw [zup_ne (by omega), zup_ne (by omega)] at q3 q4; rcases (show k = 0 ∨ k = 1 ∨ k = 2 by omega) with rfl | rfl | rfl <;> first | omega | contradiction)
                      rw [e, zb2_f (by rw [zup_ne (by omega), zup_ne (by omega)]; omega)]
                    ·
                      exact (by omega : False).elim
                  ·
                    refine xg_step rfl rfl (fun k => rfl) ?_
                    refine xg_get rfl rfl (zha (by decide)) zc_RefM rfl rfl ?_
                    refine zg_bi rfl (by decide) ?_
                    refine xg_step rfl rfl (fun k => rfl) ?_
                    refine zg_mul rfl ?_
                    refine xg_step rfl rfl (fun k => rfl) ?_
                    refine zg_add rfl ?_
                    refine zg_ald (x := 1) (.inr ⟨rfl, rfl⟩) (zha (by decide)) zc_r_got (by decide) ⟨by omega, by omega⟩ ((zvB (zk_got (by omega) (by omega)) (by omega)).trans ((zup_ne (by omega)).trans (zup_eq ⟨by omega, by omega⟩))) ?_
                    refine xg_step rfl rfl (fun k => rfl) ?_
                    refine xg_step rfl rfl (fun k => rfl) ?_
                    refine xg_get rfl rfl (zha (by decide)) zc_RefM rfl rfl ?_
                    refine zg_bi rfl (by decide) ?_
                    refine xg_step rfl rfl (fun k => rfl) ?_
                    refine zg_mul rfl ?_
                    refine xg_step rfl rfl (fun k => rfl) ?_
                    refine zg_add rfl ?_
                    refine zg_ald (x := B 52 (r * 3 + 1)) (.inl ⟨rfl, rfl⟩) (zha (by decide)) zc_r_gave (by decide) ⟨by omega, by omega⟩ ((zvB (zk_gave (by omega) (by omega)) (by omega)).trans ((zup_ne (by omega)).trans (zup_ne (by omega)))) ?_
                    refine xg_step rfl rfl (fun k => rfl) ?_
                    refine xg_get rfl rfl (zha (by decide)) zc_RefM rfl rfl ?_
                    refine zg_bi rfl (by decide) ?_
                    refine xg_step rfl rfl (fun k => rfl) ?_
                    refine zg_mul rfl ?_
                    refine xg_step rfl rfl (fun k => rfl) ?_
                    refine zg_add rfl ?_
                    refine zg_ald (x := B (72 + 17 * 2) r) (.inl ⟨rfl, rfl⟩) (zha (by decide)) zc_r_gave (by decide) ⟨by omega, by omega⟩ ((zvB (zk_gave (by omega) (by omega)) (by omega)).trans (zup_eq ⟨by omega, by omega⟩)) ?_
                    refine zg_eq rfl rfl (fun x y k => rfl) (by first | assumption | exact hA _ _ | exact hB _ _ | exact hC _ _ | exact zrg_max (by assumption) (hA _ _) | (constructor <;> omega)) (by first | assumption | exact hA _ _ | exact hB _ _ | exact hC _ _ | exact zrg_max (by assumption) (hA _ _) | (constructor <;> omega)) (fun hc => ?_) (fun hc => ?_)
                    ·
                      refine xg_step rfl rfl (fun k => rfl) ?_
                      refine xg_get rfl rfl (zha (by decide)) zc_RefM rfl rfl ?_
                      refine xg_step rfl rfl (fun k => rfl) ?_
                      refine xg_step rfl rfl (fun k => rfl) ?_
                      refine zg_ast (.inr ⟨rfl, rfl, by omega⟩) (zha (by decide)) zc_r_answered (by decide) ⟨by omega, by omega⟩ (zhwB (zwB (zk_answered (by omega)) zw_r_answered (by omega))) ?_
                      refine xg_step rfl rfl (fun k => rfl) ?_
                      refine xg_get rfl rfl (zha (by decide)) zc_RefM rfl rfl ?_
                      refine xg_step rfl rfl (fun k => rfl) ?_
                      refine xg_step rfl rfl (fun k => rfl) ?_
                      refine xg_get rfl rfl (zha (by decide)) zc_RefM rfl rfl ?_
                      refine zg_bi rfl (by decide) ?_
                      refine xg_step rfl rfl (fun k => rfl) ?_
                      refine zg_mul rfl ?_
                      refine xg_step rfl rfl (fun k => rfl) ?_
                      refine zg_add rfl ?_
                      refine zg_ald (x := B 52 (r * 3 + 1)) (.inl ⟨rfl, rfl⟩) (zha (by decide)) zc_r_gave (by decide) ⟨by omega, by omega⟩ ((zvB (zk_gave (by omega) (by omega)) (by omega)).trans ((zup_ne (by omega)).trans ((zup_ne (by omega)).trans (zup_ne (by omega))))) ?_
                      refine zg_ast (.inl ⟨rfl, rfl⟩) (zha (by decide)) zc_r_answer (by decide) ⟨by omega, by omega⟩ (zhwB (zwB (zk_answer (by omega)) zw_r_answer (by omega))) ?_
                      show XG _ _ 189 [some (.ref 107), some (zci (2)), some (zci (r)), some (zci (1)), some (zci (2))] _ _ _
                      refine zg_inc (y := 3) rfl rfl (by decide) rfl ?_
                      refine xg_step rfl rfl (fun k => rfl) ?_
                      show XG _ _ 92 [some (.ref 107), some (zci (2)), some (zci (r)), some (zci (1)), some (zci (3))] _ _ _
                      refine xg_step rfl rfl (fun k => rfl) ?_
                      refine xg_step rfl rfl (fun k => rfl) ?_
                      refine xg_step rfl rfl (fun k => rfl) ?_
                      show XG _ _ 195 [some (.ref 107), some (zci (2)), some (zci (r)), some (zci (1)), some (zci (3))] _ _ _
                      refine zg_inc (y := 2) rfl rfl (by decide) rfl ?_
                      refine xg_step rfl rfl (fun k => rfl) ?_
                      show XG _ _ 82 [some (.ref 107), some (zci (2)), some (zci (r)), some (zci (2)), some (zci (3))] _ _ _
                      refine xg_step rfl rfl (fun k => rfl) ?_
                      refine xg_step rfl rfl (fun k => rfl) ?_
                      refine xg_step rfl rfl (fun k => rfl) ?_
                      refine xg_step rfl rfl (fun k => rfl) ?_
                      refine xg_step rfl rfl (fun k => rfl) ?_
                      refine zg_addl (z := 3) rfl (by decide) ?_
                      refine xg_step rfl rfl (fun k => rfl) ?_
                      show XG _ _ 92 [some (.ref 107), some (zci (2)), some (zci (r)), some (zci (2)), some (zci (3))] _ _ _
                      refine xg_step rfl rfl (fun k => rfl) ?_
                      refine xg_step rfl rfl (fun k => rfl) ?_
                      refine xg_step rfl rfl (fun k => rfl) ?_
                      show XG _ _ 195 [some (.ref 107), some (zci (2)), some (zci (r)), some (zci (2)), some (zci (3))] _ _ _
                      refine zg_inc (y := 3) rfl rfl (by decide) rfl ?_
                      refine xg_step rfl rfl (fun k => rfl) ?_
                      show XG _ _ 82 [some (.ref 107), some (zci (2)), some (zci (r)), some (zci (3)), some (zci (3))] _ _ _
                      refine xg_step rfl rfl (fun k => rfl) ?_
                      refine xg_step rfl rfl (fun k => rfl) ?_
                      refine xg_step rfl rfl (fun k => rfl) ?_
                      show XG _ _ 201 [some (.ref 107), some (zci (2)), some (zci (r)), some (zci (3)), some (zci (3))] _ _ _
                      refine xg_step rfl rfl (fun k => rfl) ?_
                      refine xg_get rfl rfl (zha (by decide)) zc_RefM rfl rfl ?_
                      refine xg_step rfl rfl (fun k => rfl) ?_
                      refine zg_ald (x := 1) (.inr ⟨rfl, rfl⟩) (zha (by decide)) zc_r_answered (by decide) ⟨by omega, by omega⟩ ((zvB (zk_answered (by omega)) (by omega)).trans ((zup_ne (by omega)).trans (zup_eq ⟨by omega, by omega⟩))) ?_
                      refine xg_step rfl rfl (fun k => rfl) ?_
                      refine xg_step rfl rfl (fun k => rfl) ?_
                      refine xg_step rfl rfl (fun k => rfl) ?_
                      refine zg_iret rfl rfl zfitI ?_
                      have e : (zans B r 2 (B (72 + 17 * 2) r)) = zup (zup (zup (zup B 51 (r * 3 + 2) 1) 52 (r * 3 + 2) (B (72 + 17 * 2) r)) 53 r 1) 54 r (B (72 + 17 * 2) r) := by first | exact zan_one 3 0 2 0 rfl (by omega) ⟨by rw [zup_ne (by omega), zup_ne (by omega)]; assumption, by omega, by rw [zup_ne (by omega), zup_ne (by omega)]; assumption, by rw [zup_ne (by omega), zup_ne (by omega)]; omega⟩ | exact zan_one 3 0 2 1 rfl (by omega) ⟨by rw [zup_ne (by omega), zup_ne (by omega)]; assumption, by omega, by rw [zup_ne (by omega), zup_ne (by omega)]; assumption, by rw [zup_ne (by omega), zup_ne (by omega)]; omega⟩
                      rw [e, zb2_t (by rw [zup_ne (by omega), zup_eq ⟨rfl, rfl⟩]; decide), show B 52 (r * 3 + 1) = B (72 + 17 * 2) r by omega]
                    ·
                      refine xg_step rfl rfl (fun k => rfl) ?_
                      show XG _ _ 189 [some (.ref 107), some (zci (2)), some (zci (r)), some (zci (1)), some (zci (2))] _ _ _
                      refine zg_inc (y := 3) rfl rfl (by decide) rfl ?_
                      refine xg_step rfl rfl (fun k => rfl) ?_
                      show XG _ _ 92 [some (.ref 107), some (zci (2)), some (zci (r)), some (zci (1)), some (zci (3))] _ _ _
                      refine xg_step rfl rfl (fun k => rfl) ?_
                      refine xg_step rfl rfl (fun k => rfl) ?_
                      refine xg_step rfl rfl (fun k => rfl) ?_
                      show XG _ _ 195 [some (.ref 107), some (zci (2)), some (zci (r)), some (zci (1)), some (zci (3))] _ _ _
                      refine zg_inc (y := 2) rfl rfl (by decide) rfl ?_
                      refine xg_step rfl rfl (fun k => rfl) ?_
                      show XG _ _ 82 [some (.ref 107), some (zci (2)), some (zci (r)), some (zci (2)), some (zci (3))] _ _ _
                      refine xg_step rfl rfl (fun k => rfl) ?_
                      refine xg_step rfl rfl (fun k => rfl) ?_
                      refine xg_step rfl rfl (fun k => rfl) ?_
                      refine xg_step rfl rfl (fun k => rfl) ?_
                      refine xg_step rfl rfl (fun k => rfl) ?_
                      refine zg_addl (z := 3) rfl (by decide) ?_
                      refine xg_step rfl rfl (fun k => rfl) ?_
                      show XG _ _ 92 [some (.ref 107), some (zci (2)), some (zci (r)), some (zci (2)), some (zci (3))] _ _ _
                      refine xg_step rfl rfl (fun k => rfl) ?_
                      refine xg_step rfl rfl (fun k => rfl) ?_
                      refine xg_step rfl rfl (fun k => rfl) ?_
                      show XG _ _ 195 [some (.ref 107), some (zci (2)), some (zci (r)), some (zci (2)), some (zci (3))] _ _ _
                      refine zg_inc (y := 3) rfl rfl (by decide) rfl ?_
                      refine xg_step rfl rfl (fun k => rfl) ?_
                      show XG _ _ 82 [some (.ref 107), some (zci (2)), some (zci (r)), some (zci (3)), some (zci (3))] _ _ _
                      refine xg_step rfl rfl (fun k => rfl) ?_
                      refine xg_step rfl rfl (fun k => rfl) ?_
                      refine xg_step rfl rfl (fun k => rfl) ?_
                      show XG _ _ 201 [some (.ref 107), some (zci (2)), some (zci (r)), some (zci (3)), some (zci (3))] _ _ _
                      refine xg_step rfl rfl (fun k => rfl) ?_
                      refine xg_get rfl rfl (zha (by decide)) zc_RefM rfl rfl ?_
                      refine xg_step rfl rfl (fun k => rfl) ?_
                      refine zg_ald (x := B 53 r) (.inr ⟨rfl, rfl⟩) (zha (by decide)) zc_r_answered (by decide) ⟨by omega, by omega⟩ ((zvB (zk_answered (by omega)) (by omega)).trans ((zup_ne (by omega)).trans (zup_ne (by omega)))) ?_
                      refine zg_eq0 rfl rfl (fun x k => rfl) (by first | assumption | exact hA _ _ | exact hB _ _ | exact hC _ _ | exact zrg_max (by assumption) (hA _ _) | (constructor <;> omega)) (fun hc => ?_) (fun hc => ?_)
                      ·
                        refine xg_step rfl rfl (fun k => rfl) ?_
                        refine zg_iret rfl rfl zfitI ?_
                        have e : (zans B r 2 (B (72 + 17 * 2) r)) = (zup (zup B 51 (r * 3 + 2) 1) 52 (r * 3 + 2) (B (72 + 17 * 2) r)) := zan_all (fun k hk => by rw [zup_ne (by omega), zup_ne (by omega)]; rintro ⟨q1, q2, q3, q4⟩; rw [zup_ne (by omega), zup_ne (by omega)] at q3 q4; rcases (show k = 0 ∨ k = 1 ∨ k = 2 by omega) with rfl | rfl | rfl <;> first | omega | contradiction)
                        rw [e, zb2_f (by rw [zup_ne (by omega), zup_ne (by omega)]; omega)]
                      ·
                        exact (by omega : False).elim
                ·
                  exact (by omega : False).elim
              ·
                exact (by omega : False).elim
            ·
              exact (by omega : False).elim
          ·
            refine xg_step rfl rfl (fun k => rfl) ?_
            refine xg_get rfl rfl (zha (by decide)) zc_RefM rfl rfl ?_
            refine zg_bi rfl (by decide) ?_
            refine xg_step rfl rfl (fun k => rfl) ?_
            refine zg_mul rfl ?_
            refine xg_step rfl rfl (fun k => rfl) ?_
            refine zg_add rfl ?_
            refine zg_ald (x := B 51 (r * 3 + 1)) (.inr ⟨rfl, rfl⟩) (zha (by decide)) zc_r_got (by decide) ⟨by omega, by omega⟩ ((zvB (zk_got (by omega) (by omega)) (by omega)).trans ((zup_ne (by omega)).trans (zup_ne (by omega)))) ?_
            refine zg_eq0 rfl rfl (fun x k => rfl) (by first | assumption | exact hA _ _ | exact hB _ _ | exact hC _ _ | exact zrg_max (by assumption) (hA _ _) | (constructor <;> omega)) (fun hc => ?_) (fun hc => ?_)
            ·
              show XG _ _ 189 [some (.ref 107), some (zci (2)), some (zci (r)), some (zci (0)), some (zci (1))] _ _ _
              refine zg_inc (y := 2) rfl rfl (by decide) rfl ?_
              refine xg_step rfl rfl (fun k => rfl) ?_
              show XG _ _ 92 [some (.ref 107), some (zci (2)), some (zci (r)), some (zci (0)), some (zci (2))] _ _ _
              refine xg_step rfl rfl (fun k => rfl) ?_
              refine xg_step rfl rfl (fun k => rfl) ?_
              refine xg_step rfl rfl (fun k => rfl) ?_
              refine xg_step rfl rfl (fun k => rfl) ?_
              refine xg_get rfl rfl (zha (by decide)) zc_RefM rfl rfl ?_
              refine xg_step rfl rfl (fun k => rfl) ?_
              refine zg_ald (x := B 53 r) (.inr ⟨rfl, rfl⟩) (zha (by decide)) zc_r_answered (by decide) ⟨by omega, by omega⟩ ((zvB (zk_answered (by omega)) (by omega)).trans ((zup_ne (by omega)).trans (zup_ne (by omega)))) ?_
              refine zg_eq0 rfl rfl (fun x k => rfl) (by first | assumption | exact hA _ _ | exact hB _ _ | exact hC _ _ | exact zrg_max (by assumption) (hA _ _) | (constructor <;> omega)) (fun hc => ?_) (fun hc => ?_)
              ·
                refine xg_step rfl rfl (fun k => rfl) ?_
                refine xg_get rfl rfl (zha (by decide)) zc_RefM rfl rfl ?_
                refine zg_bi rfl (by decide) ?_
                refine xg_step rfl rfl (fun k => rfl) ?_
                refine zg_mul rfl ?_
                refine xg_step rfl rfl (fun k => rfl) ?_
                refine zg_add rfl ?_
                refine zg_ald (x := B 51 (r * 3 + 0)) (.inr ⟨rfl, rfl⟩) (zha (by decide)) zc_r_got (by decide) ⟨by omega, by omega⟩ ((zvB (zk_got (by omega) (by omega)) (by omega)).trans ((zup_ne (by omega)).trans (zup_ne (by omega)))) ?_
                refine zg_eq0 rfl rfl (fun x k => rfl) (by first | assumption | exact hA _ _ | exact hB _ _ | exact hC _ _ | exact zrg_max (by assumption) (hA _ _) | (constructor <;> omega)) (fun hc => ?_) (fun hc => ?_)
                ·
                  exact (by omega : False).elim
                ·
                  refine xg_step rfl rfl (fun k => rfl) ?_
                  refine xg_get rfl rfl (zha (by decide)) zc_RefM rfl rfl ?_
                  refine zg_bi rfl (by decide) ?_
                  refine xg_step rfl rfl (fun k => rfl) ?_
                  refine zg_mul rfl ?_
                  refine xg_step rfl rfl (fun k => rfl) ?_
                  refine zg_add rfl ?_
                  refine zg_ald (x := 1) (.inr ⟨rfl, rfl⟩) (zha (by decide)) zc_r_got (by decide) ⟨by omega, by omega⟩ ((zvB (zk_got (by omega) (by omega)) (by omega)).trans ((zup_ne (by omega)).trans (zup_eq ⟨by omega, by omega⟩))) ?_
                  refine xg_step rfl rfl (fun k => rfl) ?_
                  refine xg_step rfl rfl (fun k => rfl) ?_
                  refine xg_get rfl rfl (zha (by decide)) zc_RefM rfl rfl ?_
                  refine zg_bi rfl (by decide) ?_
                  refine xg_step rfl rfl (fun k => rfl) ?_
                  refine zg_mul rfl ?_
                  refine xg_step rfl rfl (fun k => rfl) ?_
                  refine zg_add rfl ?_
                  refine zg_ald (x := B 52 (r * 3 + 0)) (.inl ⟨rfl, rfl⟩) (zha (by decide)) zc_r_gave (by decide) ⟨by omega, by omega⟩ ((zvB (zk_gave (by omega) (by omega)) (by omega)).trans ((zup_ne (by omega)).trans (zup_ne (by omega)))) ?_
                  refine xg_step rfl rfl (fun k => rfl) ?_
                  refine xg_get rfl rfl (zha (by decide)) zc_RefM rfl rfl ?_
                  refine zg_bi rfl (by decide) ?_
                  refine xg_step rfl rfl (fun k => rfl) ?_
                  refine zg_mul rfl ?_
                  refine xg_step rfl rfl (fun k => rfl) ?_
                  refine zg_add rfl ?_
                  refine zg_ald (x := B (72 + 17 * 2) r) (.inl ⟨rfl, rfl⟩) (zha (by decide)) zc_r_gave (by decide) ⟨by omega, by omega⟩ ((zvB (zk_gave (by omega) (by omega)) (by omega)).trans (zup_eq ⟨by omega, by omega⟩)) ?_
                  refine zg_eq rfl rfl (fun x y k => rfl) (by first | assumption | exact hA _ _ | exact hB _ _ | exact hC _ _ | exact zrg_max (by assumption) (hA _ _) | (constructor <;> omega)) (by first | assumption | exact hA _ _ | exact hB _ _ | exact hC _ _ | exact zrg_max (by assumption) (hA _ _) | (constructor <;> omega)) (fun hc => ?_) (fun hc => ?_)
                  ·
                    refine xg_step rfl rfl (fun k => rfl) ?_
                    refine xg_get rfl rfl (zha (by decide)) zc_RefM rfl rfl ?_
                    refine xg_step rfl rfl (fun k => rfl) ?_
                    refine xg_step rfl rfl (fun k => rfl) ?_
                    refine zg_ast (.inr ⟨rfl, rfl, by omega⟩) (zha (by decide)) zc_r_answered (by decide) ⟨by omega, by omega⟩ (zhwB (zwB (zk_answered (by omega)) zw_r_answered (by omega))) ?_
                    refine xg_step rfl rfl (fun k => rfl) ?_
                    refine xg_get rfl rfl (zha (by decide)) zc_RefM rfl rfl ?_
                    refine xg_step rfl rfl (fun k => rfl) ?_
                    refine xg_step rfl rfl (fun k => rfl) ?_
                    refine xg_get rfl rfl (zha (by decide)) zc_RefM rfl rfl ?_
                    refine zg_bi rfl (by decide) ?_
                    refine xg_step rfl rfl (fun k => rfl) ?_
                    refine zg_mul rfl ?_
                    refine xg_step rfl rfl (fun k => rfl) ?_
                    refine zg_add rfl ?_
                    refine zg_ald (x := B 52 (r * 3 + 0)) (.inl ⟨rfl, rfl⟩) (zha (by decide)) zc_r_gave (by decide) ⟨by omega, by omega⟩ ((zvB (zk_gave (by omega) (by omega)) (by omega)).trans ((zup_ne (by omega)).trans ((zup_ne (by omega)).trans (zup_ne (by omega))))) ?_
                    refine zg_ast (.inl ⟨rfl, rfl⟩) (zha (by decide)) zc_r_answer (by decide) ⟨by omega, by omega⟩ (zhwB (zwB (zk_answer (by omega)) zw_r_answer (by omega))) ?_
                    show XG _ _ 189 [some (.ref 107), some (zci (2)), some (zci (r)), some (zci (0)), some (zci (2))] _ _ _
                    refine zg_inc (y := 3) rfl rfl (by decide) rfl ?_
                    refine xg_step rfl rfl (fun k => rfl) ?_
                    show XG _ _ 92 [some (.ref 107), some (zci (2)), some (zci (r)), some (zci (0)), some (zci (3))] _ _ _
                    refine xg_step rfl rfl (fun k => rfl) ?_
                    refine xg_step rfl rfl (fun k => rfl) ?_
                    refine xg_step rfl rfl (fun k => rfl) ?_
                    show XG _ _ 195 [some (.ref 107), some (zci (2)), some (zci (r)), some (zci (0)), some (zci (3))] _ _ _
                    refine zg_inc (y := 1) rfl rfl (by decide) rfl ?_
                    refine xg_step rfl rfl (fun k => rfl) ?_
                    show XG _ _ 82 [some (.ref 107), some (zci (2)), some (zci (r)), some (zci (1)), some (zci (3))] _ _ _
                    refine xg_step rfl rfl (fun k => rfl) ?_
                    refine xg_step rfl rfl (fun k => rfl) ?_
                    refine xg_step rfl rfl (fun k => rfl) ?_
                    refine xg_step rfl rfl (fun k => rfl) ?_
                    refine xg_step rfl rfl (fun k => rfl) ?_
                    refine zg_addl (z := 2) rfl (by decide) ?_
                    refine xg_step rfl rfl (fun k => rfl) ?_
                    show XG _ _ 92 [some (.ref 107), some (zci (2)), some (zci (r)), some (zci (1)), some (zci (2))] _ _ _
                    refine xg_step rfl rfl (fun k => rfl) ?_
                    refine xg_step rfl rfl (fun k => rfl) ?_
                    refine xg_step rfl rfl (fun k => rfl) ?_
                    refine xg_step rfl rfl (fun k => rfl) ?_
                    refine xg_get rfl rfl (zha (by decide)) zc_RefM rfl rfl ?_
                    refine xg_step rfl rfl (fun k => rfl) ?_
                    refine zg_ald (x := 1) (.inr ⟨rfl, rfl⟩) (zha (by decide)) zc_r_answered (by decide) ⟨by omega, by omega⟩ ((zvB (zk_answered (by omega)) (by omega)).trans ((zup_ne (by omega)).trans (zup_eq ⟨by omega, by omega⟩))) ?_
                    refine xg_step rfl rfl (fun k => rfl) ?_
                    show XG _ _ 195 [some (.ref 107), some (zci (2)), some (zci (r)), some (zci (1)), some (zci (2))] _ _ _
                    refine zg_inc (y := 2) rfl rfl (by decide) rfl ?_
                    refine xg_step rfl rfl (fun k => rfl) ?_
                    show XG _ _ 82 [some (.ref 107), some (zci (2)), some (zci (r)), some (zci (2)), some (zci (2))] _ _ _
                    refine xg_step rfl rfl (fun k => rfl) ?_
                    refine xg_step rfl rfl (fun k => rfl) ?_
                    refine xg_step rfl rfl (fun k => rfl) ?_
                    refine xg_step rfl rfl (fun k => rfl) ?_
                    refine xg_step rfl rfl (fun k => rfl) ?_
                    refine zg_addl (z := 3) rfl (by decide) ?_
                    refine xg_step rfl rfl (fun k => rfl) ?_
                    show XG _ _ 92 [some (.ref 107), some (zci (2)), some (zci (r)), some (zci (2)), some (zci (3))] _ _ _
                    refine xg_step rfl rfl (fun k => rfl) ?_
                    refine xg_step rfl rfl (fun k => rfl) ?_
                    refine xg_step rfl rfl (fun k => rfl) ?_
                    show XG _ _ 195 [some (.ref 107), some (zci (2)), some (zci (r)), some (zci (2)), some (zci (3))] _ _ _
                    refine zg_inc (y := 3) rfl rfl (by decide) rfl ?_
                    refine xg_step rfl rfl (fun k => rfl) ?_
                    show XG _ _ 82 [some (.ref 107), some (zci (2)), some (zci (r)), some (zci (3)), some (zci (3))] _ _ _
                    refine xg_step rfl rfl (fun k => rfl) ?_
                    refine xg_step rfl rfl (fun k => rfl) ?_
                    refine xg_step rfl rfl (fun k => rfl) ?_
                    show XG _ _ 201 [some (.ref 107), some (zci (2)), some (zci (r)), some (zci (3)), some (zci (3))] _ _ _
                    refine xg_step rfl rfl (fun k => rfl) ?_
                    refine xg_get rfl rfl (zha (by decide)) zc_RefM rfl rfl ?_
                    refine xg_step rfl rfl (fun k => rfl) ?_
                    refine zg_ald (x := 1) (.inr ⟨rfl, rfl⟩) (zha (by decide)) zc_r_answered (by decide) ⟨by omega, by omega⟩ ((zvB (zk_answered (by omega)) (by omega)).trans ((zup_ne (by omega)).trans (zup_eq ⟨by omega, by omega⟩))) ?_
                    refine xg_step rfl rfl (fun k => rfl) ?_
                    refine xg_step rfl rfl (fun k => rfl) ?_
                    refine xg_step rfl rfl (fun k => rfl) ?_
                    refine zg_iret rfl rfl zfitI ?_
                    have e : (zans B r 2 (B (72 + 17 * 2) r)) = zup (zup (zup (zup B 51 (r * 3 + 2) 1) 52 (r * 3 + 2) (B (72 + 17 * 2) r)) 53 r 1) 54 r (B (72 + 17 * 2) r) := by first | exact zan_one 3 0 2 0 rfl (by omega) ⟨by rw [zup_ne (by omega), zup_ne (by omega)]; assumption, by omega, by rw [zup_ne (by omega), zup_ne (by omega)]; assumption, by rw [zup_ne (by omega), zup_ne (by omega)]; omega⟩ | exact zan_one 3 0 2 1 rfl (by omega) ⟨by rw [zup_ne (by omega), zup_ne (by omega)]; assumption, by omega, by rw [zup_ne (by omega), zup_ne (by omega)]; assumption, by rw [zup_ne (by omega), zup_ne (by omega)]; omega⟩
                    rw [e, zb2_t (by rw [zup_ne (by omega), zup_eq ⟨rfl, rfl⟩]; decide), show B 52 (r * 3 + 0) = B (72 + 17 * 2) r by omega]
                  ·
                    refine xg_step rfl rfl (fun k => rfl) ?_
                    show XG _ _ 189 [some (.ref 107), some (zci (2)), some (zci (r)), some (zci (0)), some (zci (2))] _ _ _
                    refine zg_inc (y := 3) rfl rfl (by decide) rfl ?_
                    refine xg_step rfl rfl (fun k => rfl) ?_
                    show XG _ _ 92 [some (.ref 107), some (zci (2)), some (zci (r)), some (zci (0)), some (zci (3))] _ _ _
                    refine xg_step rfl rfl (fun k => rfl) ?_
                    refine xg_step rfl rfl (fun k => rfl) ?_
                    refine xg_step rfl rfl (fun k => rfl) ?_
                    show XG _ _ 195 [some (.ref 107), some (zci (2)), some (zci (r)), some (zci (0)), some (zci (3))] _ _ _
                    refine zg_inc (y := 1) rfl rfl (by decide) rfl ?_
                    refine xg_step rfl rfl (fun k => rfl) ?_
                    show XG _ _ 82 [some (.ref 107), some (zci (2)), some (zci (r)), some (zci (1)), some (zci (3))] _ _ _
                    refine xg_step rfl rfl (fun k => rfl) ?_
                    refine xg_step rfl rfl (fun k => rfl) ?_
                    refine xg_step rfl rfl (fun k => rfl) ?_
                    refine xg_step rfl rfl (fun k => rfl) ?_
                    refine xg_step rfl rfl (fun k => rfl) ?_
                    refine zg_addl (z := 2) rfl (by decide) ?_
                    refine xg_step rfl rfl (fun k => rfl) ?_
                    show XG _ _ 92 [some (.ref 107), some (zci (2)), some (zci (r)), some (zci (1)), some (zci (2))] _ _ _
                    refine xg_step rfl rfl (fun k => rfl) ?_
                    refine xg_step rfl rfl (fun k => rfl) ?_
                    refine xg_step rfl rfl (fun k => rfl) ?_
                    refine xg_step rfl rfl (fun k => rfl) ?_
                    refine xg_get rfl rfl (zha (by decide)) zc_RefM rfl rfl ?_
                    refine xg_step rfl rfl (fun k => rfl) ?_
                    refine zg_ald (x := B 53 r) (.inr ⟨rfl, rfl⟩) (zha (by decide)) zc_r_answered (by decide) ⟨by omega, by omega⟩ ((zvB (zk_answered (by omega)) (by omega)).trans ((zup_ne (by omega)).trans (zup_ne (by omega)))) ?_
                    refine zg_eq0 rfl rfl (fun x k => rfl) (by first | assumption | exact hA _ _ | exact hB _ _ | exact hC _ _ | exact zrg_max (by assumption) (hA _ _) | (constructor <;> omega)) (fun hc => ?_) (fun hc => ?_)
                    ·
                      refine xg_step rfl rfl (fun k => rfl) ?_
                      refine xg_get rfl rfl (zha (by decide)) zc_RefM rfl rfl ?_
                      refine zg_bi rfl (by decide) ?_
                      refine xg_step rfl rfl (fun k => rfl) ?_
                      refine zg_mul rfl ?_
                      refine xg_step rfl rfl (fun k => rfl) ?_
                      refine zg_add rfl ?_
                      refine zg_ald (x := B 51 (r * 3 + 1)) (.inr ⟨rfl, rfl⟩) (zha (by decide)) zc_r_got (by decide) ⟨by omega, by omega⟩ ((zvB (zk_got (by omega) (by omega)) (by omega)).trans ((zup_ne (by omega)).trans (zup_ne (by omega)))) ?_
                      refine zg_eq0 rfl rfl (fun x k => rfl) (by first | assumption | exact hA _ _ | exact hB _ _ | exact hC _ _ | exact zrg_max (by assumption) (hA _ _) | (constructor <;> omega)) (fun hc => ?_) (fun hc => ?_)
                      ·
                        show XG _ _ 189 [some (.ref 107), some (zci (2)), some (zci (r)), some (zci (1)), some (zci (2))] _ _ _
                        refine zg_inc (y := 3) rfl rfl (by decide) rfl ?_
                        refine xg_step rfl rfl (fun k => rfl) ?_
                        show XG _ _ 92 [some (.ref 107), some (zci (2)), some (zci (r)), some (zci (1)), some (zci (3))] _ _ _
                        refine xg_step rfl rfl (fun k => rfl) ?_
                        refine xg_step rfl rfl (fun k => rfl) ?_
                        refine xg_step rfl rfl (fun k => rfl) ?_
                        show XG _ _ 195 [some (.ref 107), some (zci (2)), some (zci (r)), some (zci (1)), some (zci (3))] _ _ _
                        refine zg_inc (y := 2) rfl rfl (by decide) rfl ?_
                        refine xg_step rfl rfl (fun k => rfl) ?_
                        show XG _ _ 82 [some (.ref 107), some (zci (2)), some (zci (r)), some (zci (2)), some (zci (3))] _ _ _
                        refine xg_step rfl rfl (fun k => rfl) ?_
                        refine xg_step rfl rfl (fun k => rfl) ?_
                        refine xg_step rfl rfl (fun k => rfl) ?_
                        refine xg_step rfl rfl (fun k => rfl) ?_
                        refine xg_step rfl rfl (fun k => rfl) ?_
                        refine zg_addl (z := 3) rfl (by decide) ?_
                        refine xg_step rfl rfl (fun k => rfl) ?_
                        show XG _ _ 92 [some (.ref 107), some (zci (2)), some (zci (r)), some (zci (2)), some (zci (3))] _ _ _
                        refine xg_step rfl rfl (fun k => rfl) ?_
                        refine xg_step rfl rfl (fun k => rfl) ?_
                        refine xg_step rfl rfl (fun k => rfl) ?_
                        show XG _ _ 195 [some (.ref 107), some (zci (2)), some (zci (r)), some (zci (2)), some (zci (3))] _ _ _
                        refine zg_inc (y := 3) rfl rfl (by decide) rfl ?_
                        refine xg_step rfl rfl (fun k => rfl) ?_
                        show XG _ _ 82 [some (.ref 107), some (zci (2)), some (zci (r)), some (zci (3)), some (zci (3))] _ _ _
                        refine xg_step rfl rfl (fun k => rfl) ?_
                        refine xg_step rfl rfl (fun k => rfl) ?_
                        refine xg_step rfl rfl (fun k => rfl) ?_
                        show XG _ _ 201 [some (.ref 107), some (zci (2)), some (zci (r)), some (zci (3)), some (zci (3))] _ _ _
                        refine xg_step rfl rfl (fun k => rfl) ?_
                        refine xg_get rfl rfl (zha (by decide)) zc_RefM rfl rfl ?_
                        refine xg_step rfl rfl (fun k => rfl) ?_
                        refine zg_ald (x := B 53 r) (.inr ⟨rfl, rfl⟩) (zha (by decide)) zc_r_answered (by decide) ⟨by omega, by omega⟩ ((zvB (zk_answered (by omega)) (by omega)).trans ((zup_ne (by omega)).trans (zup_ne (by omega)))) ?_
                        refine zg_eq0 rfl rfl (fun x k => rfl) (by first | assumption | exact hA _ _ | exact hB _ _ | exact hC _ _ | exact zrg_max (by assumption) (hA _ _) | (constructor <;> omega)) (fun hc => ?_) (fun hc => ?_)
                        ·
                          refine xg_step rfl rfl (fun k => rfl) ?_
                          refine zg_iret rfl rfl zfitI ?_
                          have e : (zans B r 2 (B (72 + 17 * 2) r)) = (zup (zup B 51 (r * 3 + 2) 1) 52 (r * 3 + 2) (B (72 + 17 * 2) r)) := zan_all (fun k hk => by rw [zup_ne (by omega), zup_ne (by omega)]; rintro ⟨q1, q2, q3, q4⟩; rw [zup_ne (by omega), zup_ne (by omega)] at q3 q4; rcases (show k = 0 ∨ k = 1 ∨ k = 2 by omega) with rfl | rfl | rfl <;> first | omega | contradiction)
                          rw [e, zb2_f (by rw [zup_ne (by omega), zup_ne (by omega)]; omega)]
                        ·
                          exact (by omega : False).elim
                      ·
                        exact (by omega : False).elim
                    ·
                      exact (by omega : False).elim
              ·
                exact (by omega : False).elim
            ·
              refine xg_step rfl rfl (fun k => rfl) ?_
              refine xg_get rfl rfl (zha (by decide)) zc_RefM rfl rfl ?_
              refine zg_bi rfl (by decide) ?_
              refine xg_step rfl rfl (fun k => rfl) ?_
              refine zg_mul rfl ?_
              refine xg_step rfl rfl (fun k => rfl) ?_
              refine zg_add rfl ?_
              refine zg_ald (x := B 52 (r * 3 + 0)) (.inl ⟨rfl, rfl⟩) (zha (by decide)) zc_r_gave (by decide) ⟨by omega, by omega⟩ ((zvB (zk_gave (by omega) (by omega)) (by omega)).trans ((zup_ne (by omega)).trans (zup_ne (by omega)))) ?_
              refine xg_step rfl rfl (fun k => rfl) ?_
              refine xg_get rfl rfl (zha (by decide)) zc_RefM rfl rfl ?_
              refine zg_bi rfl (by decide) ?_
              refine xg_step rfl rfl (fun k => rfl) ?_
              refine zg_mul rfl ?_
              refine xg_step rfl rfl (fun k => rfl) ?_
              refine zg_add rfl ?_
              refine zg_ald (x := B 52 (r * 3 + 1)) (.inl ⟨rfl, rfl⟩) (zha (by decide)) zc_r_gave (by decide) ⟨by omega, by omega⟩ ((zvB (zk_gave (by omega) (by omega)) (by omega)).trans ((zup_ne (by omega)).trans (zup_ne (by omega)))) ?_
              refine zg_eq rfl rfl (fun x y k => rfl) (by first | assumption | exact hA _ _ | exact hB _ _ | exact hC _ _ | exact zrg_max (by assumption) (hA _ _) | (constructor <;> omega)) (by first | assumption | exact hA _ _ | exact hB _ _ | exact hC _ _ | exact zrg_max (by assumption) (hA _ _) | (constructor <;> omega)) (fun hc => ?_) (fun hc => ?_)
              ·
                refine xg_step rfl rfl (fun k => rfl) ?_
                refine xg_get rfl rfl (zha (by decide)) zc_RefM rfl rfl ?_
                refine xg_step rfl rfl (fun k => rfl) ?_
                refine xg_step rfl rfl (fun k => rfl) ?_
                refine zg_ast (.inr ⟨rfl, rfl, by omega⟩) (zha (by decide)) zc_r_answered (by decide) ⟨by omega, by omega⟩ (zhwB (zwB (zk_answered (by omega)) zw_r_answered (by omega))) ?_
                refine xg_step rfl rfl (fun k => rfl) ?_
                refine xg_get rfl rfl (zha (by decide)) zc_RefM rfl rfl ?_
                refine xg_step rfl rfl (fun k => rfl) ?_
                refine xg_step rfl rfl (fun k => rfl) ?_
                refine xg_get rfl rfl (zha (by decide)) zc_RefM rfl rfl ?_
                refine zg_bi rfl (by decide) ?_
                refine xg_step rfl rfl (fun k => rfl) ?_
                refine zg_mul rfl ?_
                refine xg_step rfl rfl (fun k => rfl) ?_
                refine zg_add rfl ?_
                refine zg_ald (x := B 52 (r * 3 + 0)) (.inl ⟨rfl, rfl⟩) (zha (by decide)) zc_r_gave (by decide) ⟨by omega, by omega⟩ ((zvB (zk_gave (by omega) (by omega)) (by omega)).trans ((zup_ne (by omega)).trans ((zup_ne (by omega)).trans (zup_ne (by omega))))) ?_
                refine zg_ast (.inl ⟨rfl, rfl⟩) (zha (by decide)) zc_r_answer (by decide) ⟨by omega, by omega⟩ (zhwB (zwB (zk_answer (by omega)) zw_r_answer (by omega))) ?_
                show XG _ _ 189 [some (.ref 107), some (zci (2)), some (zci (r)), some (zci (0)), some (zci (1))] _ _ _
                refine zg_inc (y := 2) rfl rfl (by decide) rfl ?_
                refine xg_step rfl rfl (fun k => rfl) ?_
                show XG _ _ 92 [some (.ref 107), some (zci (2)), some (zci (r)), some (zci (0)), some (zci (2))] _ _ _
                refine xg_step rfl rfl (fun k => rfl) ?_
                refine xg_step rfl rfl (fun k => rfl) ?_
                refine xg_step rfl rfl (fun k => rfl) ?_
                refine xg_step rfl rfl (fun k => rfl) ?_
                refine xg_get rfl rfl (zha (by decide)) zc_RefM rfl rfl ?_
                refine xg_step rfl rfl (fun k => rfl) ?_
                refine zg_ald (x := 1) (.inr ⟨rfl, rfl⟩) (zha (by decide)) zc_r_answered (by decide) ⟨by omega, by omega⟩ ((zvB (zk_answered (by omega)) (by omega)).trans ((zup_ne (by omega)).trans (zup_eq ⟨by omega, by omega⟩))) ?_
                refine xg_step rfl rfl (fun k => rfl) ?_
                show XG _ _ 195 [some (.ref 107), some (zci (2)), some (zci (r)), some (zci (0)), some (zci (2))] _ _ _
                refine zg_inc (y := 1) rfl rfl (by decide) rfl ?_
                refine xg_step rfl rfl (fun k => rfl) ?_
                show XG _ _ 82 [some (.ref 107), some (zci (2)), some (zci (r)), some (zci (1)), some (zci (2))] _ _ _
                refine xg_step rfl rfl (fun k => rfl) ?_
                refine xg_step rfl rfl (fun k => rfl) ?_
                refine xg_step rfl rfl (fun k => rfl) ?_
                refine xg_step rfl rfl (fun k => rfl) ?_
                refine xg_step rfl rfl (fun k => rfl) ?_
                refine zg_addl (z := 2) rfl (by decide) ?_
                refine xg_step rfl rfl (fun k => rfl) ?_
                show XG _ _ 92 [some (.ref 107), some (zci (2)), some (zci (r)), some (zci (1)), some (zci (2))] _ _ _
                refine xg_step rfl rfl (fun k => rfl) ?_
                refine xg_step rfl rfl (fun k => rfl) ?_
                refine xg_step rfl rfl (fun k => rfl) ?_
                refine xg_step rfl rfl (fun k => rfl) ?_
                refine xg_get rfl rfl (zha (by decide)) zc_RefM rfl rfl ?_
                refine xg_step rfl rfl (fun k => rfl) ?_
                refine zg_ald (x := 1) (.inr ⟨rfl, rfl⟩) (zha (by decide)) zc_r_answered (by decide) ⟨by omega, by omega⟩ ((zvB (zk_answered (by omega)) (by omega)).trans ((zup_ne (by omega)).trans (zup_eq ⟨by omega, by omega⟩))) ?_
                refine xg_step rfl rfl (fun k => rfl) ?_
                show XG _ _ 195 [some (.ref 107), some (zci (2)), some (zci (r)), some (zci (1)), some (zci (2))] _ _ _
                refine zg_inc (y := 2) rfl rfl (by decide) rfl ?_
                refine xg_step rfl rfl (fun k => rfl) ?_
                show XG _ _ 82 [some (.ref 107), some (zci (2)), some (zci (r)), some (zci (2)), some (zci (2))] _ _ _
                refine xg_step rfl rfl (fun k => rfl) ?_
                refine xg_step rfl rfl (fun k => rfl) ?_
                refine xg_step rfl rfl (fun k => rfl) ?_
                refine xg_step rfl rfl (fun k => rfl) ?_
                refine xg_step rfl rfl (fun k => rfl) ?_
                refine zg_addl (z := 3) rfl (by decide) ?_
                refine xg_step rfl rfl (fun k => rfl) ?_
                show XG _ _ 92 [some (.ref 107), some (zci (2)), some (zci (r)), some (zci (2)), some (zci (3))] _ _ _
                refine xg_step rfl rfl (fun k => rfl) ?_
                refine xg_step rfl rfl (fun k => rfl) ?_
                refine xg_step rfl rfl (fun k => rfl) ?_
                show XG _ _ 195 [some (.ref 107), some (zci (2)), some (zci (r)), some (zci (2)), some (zci (3))] _ _ _
                refine zg_inc (y := 3) rfl rfl (by decide) rfl ?_
                refine xg_step rfl rfl (fun k => rfl) ?_
                show XG _ _ 82 [some (.ref 107), some (zci (2)), some (zci (r)), some (zci (3)), some (zci (3))] _ _ _
                refine xg_step rfl rfl (fun k => rfl) ?_
                refine xg_step rfl rfl (fun k => rfl) ?_
                refine xg_step rfl rfl (fun k => rfl) ?_
                show XG _ _ 201 [some (.ref 107), some (zci (2)), some (zci (r)), some (zci (3)), some (zci (3))] _ _ _
                refine xg_step rfl rfl (fun k => rfl) ?_
                refine xg_get rfl rfl (zha (by decide)) zc_RefM rfl rfl ?_
                refine xg_step rfl rfl (fun k => rfl) ?_
                refine zg_ald (x := 1) (.inr ⟨rfl, rfl⟩) (zha (by decide)) zc_r_answered (by decide) ⟨by omega, by omega⟩ ((zvB (zk_answered (by omega)) (by omega)).trans ((zup_ne (by omega)).trans (zup_eq ⟨by omega, by omega⟩))) ?_
                refine xg_step rfl rfl (fun k => rfl) ?_
                refine xg_step rfl rfl (fun k => rfl) ?_
                refine xg_step rfl rfl (fun k => rfl) ?_
                refine zg_iret rfl rfl zfitI ?_
                have e : (zans B r 2 (B (72 + 17 * 2) r)) = zup (zup (zup (zup B 51 (r * 3 + 2) 1) 52 (r * 3 + 2) (B (72 + 17 * 2) r)) 53 r 1) 54 r (B (72 + 17 * 2) r) := by first | exact zan_one 3 0 2 0 rfl (by omega) ⟨by rw [zup_ne (by omega), zup_ne (by omega)]; assumption, by omega, by rw [zup_ne (by omega), zup_ne (by omega)]; assumption, by rw [zup_ne (by omega), zup_ne (by omega)]; omega⟩ | exact zan_one 3 0 2 1 rfl (by omega) ⟨by rw [zup_ne (by omega), zup_ne (by omega)]; assumption, by omega, by rw [zup_ne (by omega), zup_ne (by omega)]; assumption, by rw [zup_ne (by omega), zup_ne (by omega)]; omega⟩
                rw [e, zb2_t (by rw [zup_ne (by omega), zup_eq ⟨rfl, rfl⟩]; decide), show B 52 (r * 3 + 0) = B (72 + 17 * 2) r by omega]
              ·
                refine xg_step rfl rfl (fun k => rfl) ?_
                show XG _ _ 189 [some (.ref 107), some (zci (2)), some (zci (r)), some (zci (0)), some (zci (1))] _ _ _
                refine zg_inc (y := 2) rfl rfl (by decide) rfl ?_
                refine xg_step rfl rfl (fun k => rfl) ?_
                show XG _ _ 92 [some (.ref 107), some (zci (2)), some (zci (r)), some (zci (0)), some (zci (2))] _ _ _
                refine xg_step rfl rfl (fun k => rfl) ?_
                refine xg_step rfl rfl (fun k => rfl) ?_
                refine xg_step rfl rfl (fun k => rfl) ?_
                refine xg_step rfl rfl (fun k => rfl) ?_
                refine xg_get rfl rfl (zha (by decide)) zc_RefM rfl rfl ?_
                refine xg_step rfl rfl (fun k => rfl) ?_
                refine zg_ald (x := B 53 r) (.inr ⟨rfl, rfl⟩) (zha (by decide)) zc_r_answered (by decide) ⟨by omega, by omega⟩ ((zvB (zk_answered (by omega)) (by omega)).trans ((zup_ne (by omega)).trans (zup_ne (by omega)))) ?_
                refine zg_eq0 rfl rfl (fun x k => rfl) (by first | assumption | exact hA _ _ | exact hB _ _ | exact hC _ _ | exact zrg_max (by assumption) (hA _ _) | (constructor <;> omega)) (fun hc => ?_) (fun hc => ?_)
                ·
                  refine xg_step rfl rfl (fun k => rfl) ?_
                  refine xg_get rfl rfl (zha (by decide)) zc_RefM rfl rfl ?_
                  refine zg_bi rfl (by decide) ?_
                  refine xg_step rfl rfl (fun k => rfl) ?_
                  refine zg_mul rfl ?_
                  refine xg_step rfl rfl (fun k => rfl) ?_
                  refine zg_add rfl ?_
                  refine zg_ald (x := B 51 (r * 3 + 0)) (.inr ⟨rfl, rfl⟩) (zha (by decide)) zc_r_got (by decide) ⟨by omega, by omega⟩ ((zvB (zk_got (by omega) (by omega)) (by omega)).trans ((zup_ne (by omega)).trans (zup_ne (by omega)))) ?_
                  refine zg_eq0 rfl rfl (fun x k => rfl) (by first | assumption | exact hA _ _ | exact hB _ _ | exact hC _ _ | exact zrg_max (by assumption) (hA _ _) | (constructor <;> omega)) (fun hc => ?_) (fun hc => ?_)
                  ·
                    exact (by omega : False).elim
                  ·
                    refine xg_step rfl rfl (fun k => rfl) ?_
                    refine xg_get rfl rfl (zha (by decide)) zc_RefM rfl rfl ?_
                    refine zg_bi rfl (by decide) ?_
                    refine xg_step rfl rfl (fun k => rfl) ?_
                    refine zg_mul rfl ?_
                    refine xg_step rfl rfl (fun k => rfl) ?_
                    refine zg_add rfl ?_
                    refine zg_ald (x := 1) (.inr ⟨rfl, rfl⟩) (zha (by decide)) zc_r_got (by decide) ⟨by omega, by omega⟩ ((zvB (zk_got (by omega) (by omega)) (by omega)).trans ((zup_ne (by omega)).trans (zup_eq ⟨by omega, by omega⟩))) ?_
                    refine xg_step rfl rfl (fun k => rfl) ?_
                    refine xg_step rfl rfl (fun k => rfl) ?_
                    refine xg_get rfl rfl (zha (by decide)) zc_RefM rfl rfl ?_
                    refine zg_bi rfl (by decide) ?_
                    refine xg_step rfl rfl (fun k => rfl) ?_
                    refine zg_mul rfl ?_
                    refine xg_step rfl rfl (fun k => rfl) ?_
                    refine zg_add rfl ?_
                    refine zg_ald (x := B 52 (r * 3 + 0)) (.inl ⟨rfl, rfl⟩) (zha (by decide)) zc_r_gave (by decide) ⟨by omega, by omega⟩ ((zvB (zk_gave (by omega) (by omega)) (by omega)).trans ((zup_ne (by omega)).trans (zup_ne (by omega)))) ?_
                    refine xg_step rfl rfl (fun k => rfl) ?_
                    refine xg_get rfl rfl (zha (by decide)) zc_RefM rfl rfl ?_
                    refine zg_bi rfl (by decide) ?_
                    refine xg_step rfl rfl (fun k => rfl) ?_
                    refine zg_mul rfl ?_
                    refine xg_step rfl rfl (fun k => rfl) ?_
                    refine zg_add rfl ?_
                    refine zg_ald (x := B (72 + 17 * 2) r) (.inl ⟨rfl, rfl⟩) (zha (by decide)) zc_r_gave (by decide) ⟨by omega, by omega⟩ ((zvB (zk_gave (by omega) (by omega)) (by omega)).trans (zup_eq ⟨by omega, by omega⟩)) ?_
                    refine zg_eq rfl rfl (fun x y k => rfl) (by first | assumption | exact hA _ _ | exact hB _ _ | exact hC _ _ | exact zrg_max (by assumption) (hA _ _) | (constructor <;> omega)) (by first | assumption | exact hA _ _ | exact hB _ _ | exact hC _ _ | exact zrg_max (by assumption) (hA _ _) | (constructor <;> omega)) (fun hc => ?_) (fun hc => ?_)
                    ·
                      refine xg_step rfl rfl (fun k => rfl) ?_
                      refine xg_get rfl rfl (zha (by decide)) zc_RefM rfl rfl ?_
                      refine xg_step rfl rfl (fun k => rfl) ?_
                      refine xg_step rfl rfl (fun k => rfl) ?_
                      refine zg_ast (.inr ⟨rfl, rfl, by omega⟩) (zha (by decide)) zc_r_answered (by decide) ⟨by omega, by omega⟩ (zhwB (zwB (zk_answered (by omega)) zw_r_answered (by omega))) ?_
                      refine xg_step rfl rfl (fun k => rfl) ?_
                      refine xg_get rfl rfl (zha (by decide)) zc_RefM rfl rfl ?_
                      refine xg_step rfl rfl (fun k => rfl) ?_
                      refine xg_step rfl rfl (fun k => rfl) ?_
                      refine xg_get rfl rfl (zha (by decide)) zc_RefM rfl rfl ?_
                      refine zg_bi rfl (by decide) ?_
                      refine xg_step rfl rfl (fun k => rfl) ?_
                      refine zg_mul rfl ?_
                      refine xg_step rfl rfl (fun k => rfl) ?_
                      refine zg_add rfl ?_
                      refine zg_ald (x := B 52 (r * 3 + 0)) (.inl ⟨rfl, rfl⟩) (zha (by decide)) zc_r_gave (by decide) ⟨by omega, by omega⟩ ((zvB (zk_gave (by omega) (by omega)) (by omega)).trans ((zup_ne (by omega)).trans ((zup_ne (by omega)).trans (zup_ne (by omega))))) ?_
                      refine zg_ast (.inl ⟨rfl, rfl⟩) (zha (by decide)) zc_r_answer (by decide) ⟨by omega, by omega⟩ (zhwB (zwB (zk_answer (by omega)) zw_r_answer (by omega))) ?_
                      show XG _ _ 189 [some (.ref 107), some (zci (2)), some (zci (r)), some (zci (0)), some (zci (2))] _ _ _
                      refine zg_inc (y := 3) rfl rfl (by decide) rfl ?_
                      refine xg_step rfl rfl (fun k => rfl) ?_
                      show XG _ _ 92 [some (.ref 107), some (zci (2)), some (zci (r)), some (zci (0)), some (zci (3))] _ _ _
                      refine xg_step rfl rfl (fun k => rfl) ?_
                      refine xg_step rfl rfl (fun k => rfl) ?_
                      refine xg_step rfl rfl (fun k => rfl) ?_
                      show XG _ _ 195 [some (.ref 107), some (zci (2)), some (zci (r)), some (zci (0)), some (zci (3))] _ _ _
                      refine zg_inc (y := 1) rfl rfl (by decide) rfl ?_
                      refine xg_step rfl rfl (fun k => rfl) ?_
                      show XG _ _ 82 [some (.ref 107), some (zci (2)), some (zci (r)), some (zci (1)), some (zci (3))] _ _ _
                      refine xg_step rfl rfl (fun k => rfl) ?_
                      refine xg_step rfl rfl (fun k => rfl) ?_
                      refine xg_step rfl rfl (fun k => rfl) ?_
                      refine xg_step rfl rfl (fun k => rfl) ?_
                      refine xg_step rfl rfl (fun k => rfl) ?_
                      refine zg_addl (z := 2) rfl (by decide) ?_
                      refine xg_step rfl rfl (fun k => rfl) ?_
                      show XG _ _ 92 [some (.ref 107), some (zci (2)), some (zci (r)), some (zci (1)), some (zci (2))] _ _ _
                      refine xg_step rfl rfl (fun k => rfl) ?_
                      refine xg_step rfl rfl (fun k => rfl) ?_
                      refine xg_step rfl rfl (fun k => rfl) ?_
                      refine xg_step rfl rfl (fun k => rfl) ?_
                      refine xg_get rfl rfl (zha (by decide)) zc_RefM rfl rfl ?_
                      refine xg_step rfl rfl (fun k => rfl) ?_
                      refine zg_ald (x := 1) (.inr ⟨rfl, rfl⟩) (zha (by decide)) zc_r_answered (by decide) ⟨by omega, by omega⟩ ((zvB (zk_answered (by omega)) (by omega)).trans ((zup_ne (by omega)).trans (zup_eq ⟨by omega, by omega⟩))) ?_
                      refine xg_step rfl rfl (fun k => rfl) ?_
                      show XG _ _ 195 [some (.ref 107), some (zci (2)), some (zci (r)), some (zci (1)), some (zci (2))] _ _ _
                      refine zg_inc (y := 2) rfl rfl (by decide) rfl ?_
                      refine xg_step rfl rfl (fun k => rfl) ?_
                      show XG _ _ 82 [some (.ref 107), some (zci (2)), some (zci (r)), some (zci (2)), some (zci (2))] _ _ _
                      refine xg_step rfl rfl (fun k => rfl) ?_
                      refine xg_step rfl rfl (fun k => rfl) ?_
                      refine xg_step rfl rfl (fun k => rfl) ?_
                      refine xg_step rfl rfl (fun k => rfl) ?_
                      refine xg_step rfl rfl (fun k => rfl) ?_
                      refine zg_addl (z := 3) rfl (by decide) ?_
                      refine xg_step rfl rfl (fun k => rfl) ?_
                      show XG _ _ 92 [some (.ref 107), some (zci (2)), some (zci (r)), some (zci (2)), some (zci (3))] _ _ _
                      refine xg_step rfl rfl (fun k => rfl) ?_
                      refine xg_step rfl rfl (fun k => rfl) ?_
                      refine xg_step rfl rfl (fun k => rfl) ?_
                      show XG _ _ 195 [some (.ref 107), some (zci (2)), some (zci (r)), some (zci (2)), some (zci (3))] _ _ _
                      refine zg_inc (y := 3) rfl rfl (by decide) rfl ?_
                      refine xg_step rfl rfl (fun k => rfl) ?_
                      show XG _ _ 82 [some (.ref 107), some (zci (2)), some (zci (r)), some (zci (3)), some (zci (3))] _ _ _
                      refine xg_step rfl rfl (fun k => rfl) ?_
                      refine xg_step rfl rfl (fun k => rfl) ?_
                      refine xg_step rfl rfl (fun k => rfl) ?_
                      show XG _ _ 201 [some (.ref 107), some (zci (2)), some (zci (r)), some (zci (3)), some (zci (3))] _ _ _
                      refine xg_step rfl rfl (fun k => rfl) ?_
                      refine xg_get rfl rfl (zha (by decide)) zc_RefM rfl rfl ?_
                      refine xg_step rfl rfl (fun k => rfl) ?_
                      refine zg_ald (x := 1) (.inr ⟨rfl, rfl⟩) (zha (by decide)) zc_r_answered (by decide) ⟨by omega, by omega⟩ ((zvB (zk_answered (by omega)) (by omega)).trans ((zup_ne (by omega)).trans (zup_eq ⟨by omega, by omega⟩))) ?_
                      refine xg_step rfl rfl (fun k => rfl) ?_
                      refine xg_step rfl rfl (fun k => rfl) ?_
                      refine xg_step rfl rfl (fun k => rfl) ?_
                      refine zg_iret rfl rfl zfitI ?_
                      have e : (zans B r 2 (B (72 + 17 * 2) r)) = zup (zup (zup (zup B 51 (r * 3 + 2) 1) 52 (r * 3 + 2) (B (72 + 17 * 2) r)) 53 r 1) 54 r (B (72 + 17 * 2) r) := by first | exact zan_one 3 0 2 0 rfl (by omega) ⟨by rw [zup_ne (by omega), zup_ne (by omega)]; assumption, by omega, by rw [zup_ne (by omega), zup_ne (by omega)]; assumption, by rw [zup_ne (by omega), zup_ne (by omega)]; omega⟩ | exact zan_one 3 0 2 1 rfl (by omega) ⟨by rw [zup_ne (by omega), zup_ne (by omega)]; assumption, by omega, by rw [zup_ne (by omega), zup_ne (by omega)]; assumption, by rw [zup_ne (by omega), zup_ne (by omega)]; omega⟩
                      rw [e, zb2_t (by rw [zup_ne (by omega), zup_eq ⟨rfl, rfl⟩]; decide), show B 52 (r * 3 + 0) = B (72 + 17 * 2) r by omega]
                    ·
                      refine xg_step rfl rfl (fun k => rfl) ?_
                      show XG _ _ 189 [some (.ref 107), some (zci (2)), some (zci (r)), some (zci (0)), some (zci (2))] _ _ _
                      refine zg_inc (y := 3) rfl rfl (by decide) rfl ?_
                      refine xg_step rfl rfl (fun k => rfl) ?_
                      show XG _ _ 92 [some (.ref 107), some (zci (2)), some (zci (r)), some (zci (0)), some (zci (3))] _ _ _
                      refine xg_step rfl rfl (fun k => rfl) ?_
                      refine xg_step rfl rfl (fun k => rfl) ?_
                      refine xg_step rfl rfl (fun k => rfl) ?_
                      show XG _ _ 195 [some (.ref 107), some (zci (2)), some (zci (r)), some (zci (0)), some (zci (3))] _ _ _
                      refine zg_inc (y := 1) rfl rfl (by decide) rfl ?_
                      refine xg_step rfl rfl (fun k => rfl) ?_
                      show XG _ _ 82 [some (.ref 107), some (zci (2)), some (zci (r)), some (zci (1)), some (zci (3))] _ _ _
                      refine xg_step rfl rfl (fun k => rfl) ?_
                      refine xg_step rfl rfl (fun k => rfl) ?_
                      refine xg_step rfl rfl (fun k => rfl) ?_
                      refine xg_step rfl rfl (fun k => rfl) ?_
                      refine xg_step rfl rfl (fun k => rfl) ?_
                      refine zg_addl (z := 2) rfl (by decide) ?_
                      refine xg_step rfl rfl (fun k => rfl) ?_
                      show XG _ _ 92 [some (.ref 107), some (zci (2)), some (zci (r)), some (zci (1)), some (zci (2))] _ _ _
                      refine xg_step rfl rfl (fun k => rfl) ?_
                      refine xg_step rfl rfl (fun k => rfl) ?_
                      refine xg_step rfl rfl (fun k => rfl) ?_
                      refine xg_step rfl rfl (fun k => rfl) ?_
                      refine xg_get rfl rfl (zha (by decide)) zc_RefM rfl rfl ?_
                      refine xg_step rfl rfl (fun k => rfl) ?_
                      refine zg_ald (x := B 53 r) (.inr ⟨rfl, rfl⟩) (zha (by decide)) zc_r_answered (by decide) ⟨by omega, by omega⟩ ((zvB (zk_answered (by omega)) (by omega)).trans ((zup_ne (by omega)).trans (zup_ne (by omega)))) ?_
                      refine zg_eq0 rfl rfl (fun x k => rfl) (by first | assumption | exact hA _ _ | exact hB _ _ | exact hC _ _ | exact zrg_max (by assumption) (hA _ _) | (constructor <;> omega)) (fun hc => ?_) (fun hc => ?_)
                      ·
                        refine xg_step rfl rfl (fun k => rfl) ?_
                        refine xg_get rfl rfl (zha (by decide)) zc_RefM rfl rfl ?_
                        refine zg_bi rfl (by decide) ?_
                        refine xg_step rfl rfl (fun k => rfl) ?_
                        refine zg_mul rfl ?_
                        refine xg_step rfl rfl (fun k => rfl) ?_
                        refine zg_add rfl ?_
                        refine zg_ald (x := B 51 (r * 3 + 1)) (.inr ⟨rfl, rfl⟩) (zha (by decide)) zc_r_got (by decide) ⟨by omega, by omega⟩ ((zvB (zk_got (by omega) (by omega)) (by omega)).trans ((zup_ne (by omega)).trans (zup_ne (by omega)))) ?_
                        refine zg_eq0 rfl rfl (fun x k => rfl) (by first | assumption | exact hA _ _ | exact hB _ _ | exact hC _ _ | exact zrg_max (by assumption) (hA _ _) | (constructor <;> omega)) (fun hc => ?_) (fun hc => ?_)
                        ·
                          exact (by omega : False).elim
                        ·
                          refine xg_step rfl rfl (fun k => rfl) ?_
                          refine xg_get rfl rfl (zha (by decide)) zc_RefM rfl rfl ?_
                          refine zg_bi rfl (by decide) ?_
                          refine xg_step rfl rfl (fun k => rfl) ?_
                          refine zg_mul rfl ?_
                          refine xg_step rfl rfl (fun k => rfl) ?_
                          refine zg_add rfl ?_
                          refine zg_ald (x := 1) (.inr ⟨rfl, rfl⟩) (zha (by decide)) zc_r_got (by decide) ⟨by omega, by omega⟩ ((zvB (zk_got (by omega) (by omega)) (by omega)).trans ((zup_ne (by omega)).trans (zup_eq ⟨by omega, by omega⟩))) ?_
                          refine xg_step rfl rfl (fun k => rfl) ?_
                          refine xg_step rfl rfl (fun k => rfl) ?_
                          refine xg_get rfl rfl (zha (by decide)) zc_RefM rfl rfl ?_
                          refine zg_bi rfl (by decide) ?_
                          refine xg_step rfl rfl (fun k => rfl) ?_
                          refine zg_mul rfl ?_
                          refine xg_step rfl rfl (fun k => rfl) ?_
                          refine zg_add rfl ?_
                          refine zg_ald (x := B 52 (r * 3 + 1)) (.inl ⟨rfl, rfl⟩) (zha (by decide)) zc_r_gave (by decide) ⟨by omega, by omega⟩ ((zvB (zk_gave (by omega) (by omega)) (by omega)).trans ((zup_ne (by omega)).trans (zup_ne (by omega)))) ?_
                          refine xg_step rfl rfl (fun k => rfl) ?_
                          refine xg_get rfl rfl (zha (by decide)) zc_RefM rfl rfl ?_
                          refine zg_bi rfl (by decide) ?_
                          refine xg_step rfl rfl (fun k => rfl) ?_
                          refine zg_mul rfl ?_
                          refine xg_step rfl rfl (fun k => rfl) ?_
                          refine zg_add rfl ?_
                          refine zg_ald (x := B (72 + 17 * 2) r) (.inl ⟨rfl, rfl⟩) (zha (by decide)) zc_r_gave (by decide) ⟨by omega, by omega⟩ ((zvB (zk_gave (by omega) (by omega)) (by omega)).trans (zup_eq ⟨by omega, by omega⟩)) ?_
                          refine zg_eq rfl rfl (fun x y k => rfl) (by first | assumption | exact hA _ _ | exact hB _ _ | exact hC _ _ | exact zrg_max (by assumption) (hA _ _) | (constructor <;> omega)) (by first | assumption | exact hA _ _ | exact hB _ _ | exact hC _ _ | exact zrg_max (by assumption) (hA _ _) | (constructor <;> omega)) (fun hc => ?_) (fun hc => ?_)
                          ·
                            refine xg_step rfl rfl (fun k => rfl) ?_
                            refine xg_get rfl rfl (zha (by decide)) zc_RefM rfl rfl ?_
                            refine xg_step rfl rfl (fun k => rfl) ?_
                            refine xg_step rfl rfl (fun k => rfl) ?_
                            refine zg_ast (.inr ⟨rfl, rfl, by omega⟩) (zha (by decide)) zc_r_answered (by decide) ⟨by omega, by omega⟩ (zhwB (zwB (zk_answered (by omega)) zw_r_answered (by omega))) ?_
                            refine xg_step rfl rfl (fun k => rfl) ?_
                            refine xg_get rfl rfl (zha (by decide)) zc_RefM rfl rfl ?_
                            refine xg_step rfl rfl (fun k => rfl) ?_
                            refine xg_step rfl rfl (fun k => rfl) ?_
                            refine xg_get rfl rfl (zha (by decide)) zc_RefM rfl rfl ?_
                            refine zg_bi rfl (by decide) ?_
                            refine xg_step rfl rfl (fun k => rfl) ?_
                            refine zg_mul rfl ?_
                            refine xg_step rfl rfl (fun k => rfl) ?_
                            refine zg_add rfl ?_
                            refine zg_ald (x := B 52 (r * 3 + 1)) (.inl ⟨rfl, rfl⟩) (zha (by decide)) zc_r_gave (by decide) ⟨by omega, by omega⟩ ((zvB (zk_gave (by omega) (by omega)) (by omega)).trans ((zup_ne (by omega)).trans ((zup_ne (by omega)).trans (zup_ne (by omega))))) ?_
                            refine zg_ast (.inl ⟨rfl, rfl⟩) (zha (by decide)) zc_r_answer (by decide) ⟨by omega, by omega⟩ (zhwB (zwB (zk_answer (by omega)) zw_r_answer (by omega))) ?_
                            show XG _ _ 189 [some (.ref 107), some (zci (2)), some (zci (r)), some (zci (1)), some (zci (2))] _ _ _
                            refine zg_inc (y := 3) rfl rfl (by decide) rfl ?_
                            refine xg_step rfl rfl (fun k => rfl) ?_
                            show XG _ _ 92 [some (.ref 107), some (zci (2)), some (zci (r)), some (zci (1)), some (zci (3))] _ _ _
                            refine xg_step rfl rfl (fun k => rfl) ?_
                            refine xg_step rfl rfl (fun k => rfl) ?_
                            refine xg_step rfl rfl (fun k => rfl) ?_
                            show XG _ _ 195 [some (.ref 107), some (zci (2)), some (zci (r)), some (zci (1)), some (zci (3))] _ _ _
                            refine zg_inc (y := 2) rfl rfl (by decide) rfl ?_
                            refine xg_step rfl rfl (fun k => rfl) ?_
                            show XG _ _ 82 [some (.ref 107), some (zci (2)), some (zci (r)), some (zci (2)), some (zci (3))] _ _ _
                            refine xg_step rfl rfl (fun k => rfl) ?_
                            refine xg_step rfl rfl (fun k => rfl) ?_
                            refine xg_step rfl rfl (fun k => rfl) ?_
                            refine xg_step rfl rfl (fun k => rfl) ?_
                            refine xg_step rfl rfl (fun k => rfl) ?_
                            refine zg_addl (z := 3) rfl (by decide) ?_
                            refine xg_step rfl rfl (fun k => rfl) ?_
                            show XG _ _ 92 [some (.ref 107), some (zci (2)), some (zci (r)), some (zci (2)), some (zci (3))] _ _ _
                            refine xg_step rfl rfl (fun k => rfl) ?_
                            refine xg_step rfl rfl (fun k => rfl) ?_
                            refine xg_step rfl rfl (fun k => rfl) ?_
                            show XG _ _ 195 [some (.ref 107), some (zci (2)), some (zci (r)), some (zci (2)), some (zci (3))] _ _ _
                            refine zg_inc (y := 3) rfl rfl (by decide) rfl ?_
                            refine xg_step rfl rfl (fun k => rfl) ?_
                            show XG _ _ 82 [some (.ref 107), some (zci (2)), some (zci (r)), some (zci (3)), some (zci (3))] _ _ _
                            refine xg_step rfl rfl (fun k => rfl) ?_
                            refine xg_step rfl rfl (fun k => rfl) ?_
                            refine xg_step rfl rfl (fun k => rfl) ?_
                            show XG _ _ 201 [some (.ref 107), some (zci (2)), some (zci (r)), some (zci (3)), some (zci (3))] _ _ _
                            refine xg_step rfl rfl (fun k => rfl) ?_
                            refine xg_get rfl rfl (zha (by decide)) zc_RefM rfl rfl ?_
                            refine xg_step rfl rfl (fun k => rfl) ?_
                            refine zg_ald (x := 1) (.inr ⟨rfl, rfl⟩) (zha (by decide)) zc_r_answered (by decide) ⟨by omega, by omega⟩ ((zvB (zk_answered (by omega)) (by omega)).trans ((zup_ne (by omega)).trans (zup_eq ⟨by omega, by omega⟩))) ?_
                            refine xg_step rfl rfl (fun k => rfl) ?_
                            refine xg_step rfl rfl (fun k => rfl) ?_
                            refine xg_step rfl rfl (fun k => rfl) ?_
                            refine zg_iret rfl rfl zfitI ?_
                            have e : (zans B r 2 (B (72 + 17 * 2) r)) = zup (zup (zup (zup B 51 (r * 3 + 2) 1) 52 (r * 3 + 2) (B (72 + 17 * 2) r)) 53 r 1) 54 r (B (72 + 17 * 2) r) := by first | exact zan_one 3 0 2 0 rfl (by omega) ⟨by rw [zup_ne (by omega), zup_ne (by omega)]; assumption, by omega, by rw [zup_ne (by omega), zup_ne (by omega)]; assumption, by rw [zup_ne (by omega), zup_ne (by omega)]; omega⟩ | exact zan_one 3 0 2 1 rfl (by omega) ⟨by rw [zup_ne (by omega), zup_ne (by omega)]; assumption, by omega, by rw [zup_ne (by omega), zup_ne (by omega)]; assumption, by rw [zup_ne (by omega), zup_ne (by omega)]; omega⟩
                            rw [e, zb2_t (by rw [zup_ne (by omega), zup_eq ⟨rfl, rfl⟩]; decide), show B 52 (r * 3 + 1) = B (72 + 17 * 2) r by omega]
                          ·
                            refine xg_step rfl rfl (fun k => rfl) ?_
                            show XG _ _ 189 [some (.ref 107), some (zci (2)), some (zci (r)), some (zci (1)), some (zci (2))] _ _ _
                            refine zg_inc (y := 3) rfl rfl (by decide) rfl ?_
                            refine xg_step rfl rfl (fun k => rfl) ?_
                            show XG _ _ 92 [some (.ref 107), some (zci (2)), some (zci (r)), some (zci (1)), some (zci (3))] _ _ _
                            refine xg_step rfl rfl (fun k => rfl) ?_
                            refine xg_step rfl rfl (fun k => rfl) ?_
                            refine xg_step rfl rfl (fun k => rfl) ?_
                            show XG _ _ 195 [some (.ref 107), some (zci (2)), some (zci (r)), some (zci (1)), some (zci (3))] _ _ _
                            refine zg_inc (y := 2) rfl rfl (by decide) rfl ?_
                            refine xg_step rfl rfl (fun k => rfl) ?_
                            show XG _ _ 82 [some (.ref 107), some (zci (2)), some (zci (r)), some (zci (2)), some (zci (3))] _ _ _
                            refine xg_step rfl rfl (fun k => rfl) ?_
                            refine xg_step rfl rfl (fun k => rfl) ?_
                            refine xg_step rfl rfl (fun k => rfl) ?_
                            refine xg_step rfl rfl (fun k => rfl) ?_
                            refine xg_step rfl rfl (fun k => rfl) ?_
                            refine zg_addl (z := 3) rfl (by decide) ?_
                            refine xg_step rfl rfl (fun k => rfl) ?_
                            show XG _ _ 92 [some (.ref 107), some (zci (2)), some (zci (r)), some (zci (2)), some (zci (3))] _ _ _
                            refine xg_step rfl rfl (fun k => rfl) ?_
                            refine xg_step rfl rfl (fun k => rfl) ?_
                            refine xg_step rfl rfl (fun k => rfl) ?_
                            show XG _ _ 195 [some (.ref 107), some (zci (2)), some (zci (r)), some (zci (2)), some (zci (3))] _ _ _
                            refine zg_inc (y := 3) rfl rfl (by decide) rfl ?_
                            refine xg_step rfl rfl (fun k => rfl) ?_
                            show XG _ _ 82 [some (.ref 107), some (zci (2)), some (zci (r)), some (zci (3)), some (zci (3))] _ _ _
                            refine xg_step rfl rfl (fun k => rfl) ?_
                            refine xg_step rfl rfl (fun k => rfl) ?_
                            refine xg_step rfl rfl (fun k => rfl) ?_
                            show XG _ _ 201 [some (.ref 107), some (zci (2)), some (zci (r)), some (zci (3)), some (zci (3))] _ _ _
                            refine xg_step rfl rfl (fun k => rfl) ?_
                            refine xg_get rfl rfl (zha (by decide)) zc_RefM rfl rfl ?_
                            refine xg_step rfl rfl (fun k => rfl) ?_
                            refine zg_ald (x := B 53 r) (.inr ⟨rfl, rfl⟩) (zha (by decide)) zc_r_answered (by decide) ⟨by omega, by omega⟩ ((zvB (zk_answered (by omega)) (by omega)).trans ((zup_ne (by omega)).trans (zup_ne (by omega)))) ?_
                            refine zg_eq0 rfl rfl (fun x k => rfl) (by first | assumption | exact hA _ _ | exact hB _ _ | exact hC _ _ | exact zrg_max (by assumption) (hA _ _) | (constructor <;> omega)) (fun hc => ?_) (fun hc => ?_)
                            ·
                              refine xg_step rfl rfl (fun k => rfl) ?_
                              refine zg_iret rfl rfl zfitI ?_
                              have e : (zans B r 2 (B (72 + 17 * 2) r)) = (zup (zup B 51 (r * 3 + 2) 1) 52 (r * 3 + 2) (B (72 + 17 * 2) r)) := zan_all (fun k hk => by rw [zup_ne (by omega), zup_ne (by omega)]; rintro ⟨q1, q2, q3, q4⟩; rw [zup_ne (by omega), zup_ne (by omega)] at q3 q4; rcases (show k = 0 ∨ k = 1 ∨ k = 2 by omega) with rfl | rfl | rfl <;> first | omega | contradiction)
                              rw [e, zb2_f (by rw [zup_ne (by omega), zup_ne (by omega)]; omega)]
                            ·
                              exact (by omega : False).elim
                      ·
                        exact (by omega : False).elim
                ·
                  exact (by omega : False).elim
        ·
          show XG _ _ 195 [some (.ref 107), some (zci (2)), some (zci (r)), some (zci (0)), some (zci (1))] _ _ _
          refine zg_inc (y := 1) rfl rfl (by decide) rfl ?_
          refine xg_step rfl rfl (fun k => rfl) ?_
          show XG _ _ 82 [some (.ref 107), some (zci (2)), some (zci (r)), some (zci (1)), some (zci (1))] _ _ _
          refine xg_step rfl rfl (fun k => rfl) ?_
          refine xg_step rfl rfl (fun k => rfl) ?_
          refine xg_step rfl rfl (fun k => rfl) ?_
          refine xg_step rfl rfl (fun k => rfl) ?_
          refine xg_step rfl rfl (fun k => rfl) ?_
          refine zg_addl (z := 2) rfl (by decide) ?_
          refine xg_step rfl rfl (fun k => rfl) ?_
          show XG _ _ 92 [some (.ref 107), some (zci (2)), some (zci (r)), some (zci (1)), some (zci (2))] _ _ _
          refine xg_step rfl rfl (fun k => rfl) ?_
          refine xg_step rfl rfl (fun k => rfl) ?_
          refine xg_step rfl rfl (fun k => rfl) ?_
          refine xg_step rfl rfl (fun k => rfl) ?_
          refine xg_get rfl rfl (zha (by decide)) zc_RefM rfl rfl ?_
          refine xg_step rfl rfl (fun k => rfl) ?_
          refine zg_ald (x := B 53 r) (.inr ⟨rfl, rfl⟩) (zha (by decide)) zc_r_answered (by decide) ⟨by omega, by omega⟩ ((zvB (zk_answered (by omega)) (by omega)).trans ((zup_ne (by omega)).trans (zup_ne (by omega)))) ?_
          refine zg_eq0 rfl rfl (fun x k => rfl) (by first | assumption | exact hA _ _ | exact hB _ _ | exact hC _ _ | exact zrg_max (by assumption) (hA _ _) | (constructor <;> omega)) (fun hc => ?_) (fun hc => ?_)
          ·
            exact (by omega : False).elim
          ·
            show XG _ _ 195 [some (.ref 107), some (zci (2)), some (zci (r)), some (zci (1)), some (zci (2))] _ _ _
            refine zg_inc (y := 2) rfl rfl (by decide) rfl ?_
            refine xg_step rfl rfl (fun k => rfl) ?_
            show XG _ _ 82 [some (.ref 107), some (zci (2)), some (zci (r)), some (zci (2)), some (zci (2))] _ _ _
            refine xg_step rfl rfl (fun k => rfl) ?_
            refine xg_step rfl rfl (fun k => rfl) ?_
            refine xg_step rfl rfl (fun k => rfl) ?_
            refine xg_step rfl rfl (fun k => rfl) ?_
            refine xg_step rfl rfl (fun k => rfl) ?_
            refine zg_addl (z := 3) rfl (by decide) ?_
            refine xg_step rfl rfl (fun k => rfl) ?_
            show XG _ _ 92 [some (.ref 107), some (zci (2)), some (zci (r)), some (zci (2)), some (zci (3))] _ _ _
            refine xg_step rfl rfl (fun k => rfl) ?_
            refine xg_step rfl rfl (fun k => rfl) ?_
            refine xg_step rfl rfl (fun k => rfl) ?_
            show XG _ _ 195 [some (.ref 107), some (zci (2)), some (zci (r)), some (zci (2)), some (zci (3))] _ _ _
            refine zg_inc (y := 3) rfl rfl (by decide) rfl ?_
            refine xg_step rfl rfl (fun k => rfl) ?_
            show XG _ _ 82 [some (.ref 107), some (zci (2)), some (zci (r)), some (zci (3)), some (zci (3))] _ _ _
            refine xg_step rfl rfl (fun k => rfl) ?_
            refine xg_step rfl rfl (fun k => rfl) ?_
            refine xg_step rfl rfl (fun k => rfl) ?_
            show XG _ _ 201 [some (.ref 107), some (zci (2)), some (zci (r)), some (zci (3)), some (zci (3))] _ _ _
            refine xg_step rfl rfl (fun k => rfl) ?_
            refine xg_get rfl rfl (zha (by decide)) zc_RefM rfl rfl ?_
            refine xg_step rfl rfl (fun k => rfl) ?_
            refine zg_ald (x := B 53 r) (.inr ⟨rfl, rfl⟩) (zha (by decide)) zc_r_answered (by decide) ⟨by omega, by omega⟩ ((zvB (zk_answered (by omega)) (by omega)).trans ((zup_ne (by omega)).trans (zup_ne (by omega)))) ?_
            refine zg_eq0 rfl rfl (fun x k => rfl) (by first | assumption | exact hA _ _ | exact hB _ _ | exact hC _ _ | exact zrg_max (by assumption) (hA _ _) | (constructor <;> omega)) (fun hc => ?_) (fun hc => ?_)
            ·
              exact (by omega : False).elim
            ·
              refine xg_step rfl rfl (fun k => rfl) ?_
              refine xg_step rfl rfl (fun k => rfl) ?_
              refine zg_iret rfl rfl zfitI ?_
              have e : (zans B r 2 (B (72 + 17 * 2) r)) = (zup (zup B 51 (r * 3 + 2) 1) 52 (r * 3 + 2) (B (72 + 17 * 2) r)) := zan_all (fun k hk => by rw [zup_ne (by omega), zup_ne (by omega)]; rintro ⟨q1, q2, q3, q4⟩; rw [zup_ne (by omega), zup_ne (by omega)] at q3 q4; rcases (show k = 0 ∨ k = 1 ∨ k = 2 by omega) with rfl | rfl | rfl <;> first | omega | contradiction)
              rw [e, zb2_t (by rw [zup_ne (by omega), zup_ne (by omega)]; omega)]
    ·
      refine xg_step rfl rfl (fun k => rfl) ?_
      refine xg_step rfl rfl (fun k => rfl) ?_
      refine xg_step rfl rfl (fun k => rfl) ?_
      refine xg_step rfl rfl (fun k => rfl) ?_
      refine zg_cvi rfl rfl rfl (Nat.le_of_ble_eq_true rfl) (zha (by decide)) zc_RefM rfl rfl zq_132t ?_
      refine xg_step rfl rfl (fun k => rfl) ?_
      exact (by omega : False).elim
  ·
    refine xg_step rfl rfl (fun k => rfl) ?_
    refine xg_step rfl rfl (fun k => rfl) ?_
    refine xg_step rfl rfl (fun k => rfl) ?_
    refine xg_step rfl rfl (fun k => rfl) ?_
    refine zg_cvi rfl rfl rfl (Nat.le_of_ble_eq_true rfl) (zha (by decide)) zc_RefM rfl rfl zq_132t ?_
    refine xg_step rfl rfl (fun k => rfl) ?_
    exact (by omega : False).elim
