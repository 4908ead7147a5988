/-! the reference: turning, doing, waiting -/
set_option maxRecDepth 10000 in
theorem zql_120 {d : Nat} {A B C : ZM} (hB : zRg B) (hC : zRg C) {t w o : Int} (ht : 0 ≤ t ∧ t < 3) {k : Int} (hk : 0 ≤ k ∧ k ≤ 101) {r : Option Value × XS} (hr : r = (none, zhp A (zmg (zfi (zclr t) k 100 B) C))) : XG (d + 1) 120 38 [some (.ref 107), some (zci (t)), some (zci (w)), some (zci (o)), some (zci (k))] [] (zhp A (zmg B C)) r := by
  refine xg_step rfl rfl (fun k => rfl) ?_
  refine zg_bi rfl (by decide) ?_
  refine zg_lt rfl rfl (fun x y k => rfl) (by first | assumption | exact hA _ _ | exact hB _ _ | exact hC _ _ | exact zrg_max (by assumption) (hA _ _) | (constructor <;> omega)) (by first | assumption | exact hA _ _ | exact hB _ _ | exact hC _ _ | exact zrg_max (by assumption) (hA _ _) | (constructor <;> omega)) (fun hc => ?_) (fun hc => ?_)
  ·
    refine xg_step rfl rfl (fun k => rfl) ?_
    refine xg_get rfl rfl (zha (by decide)) zc_RefM rfl rfl ?_
    refine zg_bi rfl (by decide) ?_
    refine xg_step rfl rfl (fun k => rfl) ?_
    refine zg_mul rfl ?_
    refine xg_step rfl rfl (fun k => rfl) ?_
    refine zg_add rfl ?_
    refine xg_step rfl rfl (fun k => rfl) ?_
    refine zg_ast (.inr ⟨rfl, rfl, by omega⟩) (zha (by decide)) zc_r_votes (by decide) ⟨by omega, by omega⟩ (zhwB (zwB (zk_votes (by omega) (by omega)) zw_r_votes (by omega))) ?_
    refine zg_inc rfl rfl rfl rfl ?_
    refine xg_step rfl rfl (fun k => rfl) ?_
    exact zql_120 (zRg_up hB (by first | assumption | exact hA _ _ | exact hB _ _ | exact hC _ _ | exact zrg_max (by assumption) (hA _ _) | (constructor <;> omega))) hC ht (k := k + 1) (by omega) (hr.trans (by rw [zfi_s (by omega) rfl]; rfl))
  ·
    refine zg_ret rfl rfl ?_
    (rw [hr, zfi_N (by omega)])
termination_by (101 - k).toNat
decreasing_by all_goals omega
set_option maxRecDepth 10000 in
theorem zq_120 {d : Nat} {A B C : ZM} (hB : zRg B) (hC : zRg C) {t w o : Int} (ht : 0 ≤ t ∧ t < 3) (hw : zrg w) (ho : o = 0 ∨ o = 1) : XR (d + 2) 120 [.ref 107, zci (t), zci (w), zci (o)] (zhp A (zmg B C)) (none, zhp A (zmg (zturn B t w o) (zup C 140 t 0))) := by
  have ho2 : zrg o := ⟨by omega, by omega⟩
  refine XR.of (Nat.le_of_ble_eq_true rfl) rfl ?_
  refine xg_step rfl rfl (fun k => rfl) ?_
  refine xg_get rfl rfl (zha (by decide)) zc_RefM rfl rfl ?_
  refine xg_step rfl rfl (fun k => rfl) ?_
  refine xg_step rfl rfl (fun k => rfl) ?_
  refine zg_ast (.inl ⟨rfl, rfl⟩) (zha (by decide)) zc_r_view (by decide) ⟨by omega, by omega⟩ (zhwB (zwB (zk_view (by omega)) zw_r_view (by omega))) ?_
  refine xg_step rfl rfl (fun k => rfl) ?_
  refine xg_get rfl rfl (zha (by decide)) zc_RefM rfl rfl ?_
  refine xg_step rfl rfl (fun k => rfl) ?_
  refine xg_step rfl rfl (fun k => rfl) ?_
  refine zg_ast (.inr ⟨rfl, rfl, by omega⟩) (zha (by decide)) zc_r_active (by decide) ⟨by omega, by omega⟩ (zhwB (zwB (zk_active (by omega)) zw_r_active (by omega))) ?_
  refine xg_step rfl rfl (fun k => rfl) ?_
  refine xg_get rfl rfl (zha (by decide)) zc_RefM rfl rfl ?_
  refine xg_step rfl rfl (fun k => rfl) ?_
  refine xg_step rfl rfl (fun k => rfl) ?_
  refine zg_ast (.inl ⟨rfl, rfl⟩) (zha (by decide)) zc_r_prepared (by decide) ⟨by omega, by omega⟩ (zhwB (zwB (zk_prepared (by omega)) zw_r_prepared (by omega))) ?_
  refine xg_step rfl rfl (fun k => rfl) ?_
  refine xg_get rfl rfl (zha (by decide)) zc_RefM rfl rfl ?_
  refine xg_step rfl rfl (fun k => rfl) ?_
  refine xg_step rfl rfl (fun k => rfl) ?_
  refine zg_ast (.inl ⟨rfl, rfl⟩) (zha (by decide)) zc_r_prepareDone (by decide) ⟨by omega, by omega⟩ (zhwB (zwB (zk_prepareDone (by omega)) zw_r_prepareDone (by omega))) ?_
  refine xg_step rfl rfl (fun k => rfl) ?_
  refine xg_get rfl rfl (zha (by decide)) zc_RefM rfl rfl ?_
  refine xg_step rfl rfl (fun k => rfl) ?_
  refine xg_step rfl rfl (fun k => rfl) ?_
  refine zg_ast (.inr ⟨rfl, rfl, by omega⟩) (zha (by decide)) zc_r_openDone (by decide) ⟨by omega, by omega⟩ (zhwB (zwC zk_openDone zw_r_openDone (by omega))) ?_
  refine xg_step rfl rfl (fun k => rfl) ?_
  refine xg_step rfl rfl (fun k => rfl) ?_
  (rw [← zgh2 (a := 60 + 17 * t) (i := 4) (x := 0) (by unfold zfm2; omega)]; exact zql_120 (zRg_up (zRg_up (zRg_up (zRg_up (zRg_up hB (by first | assumption | exact hA _ _ | exact hB _ _ | exact hC _ _ | exact zrg_max (by assumption) (hA _ _) | (constructor <;> omega))) (by first | assumption | exact hA _ _ | exact hB _ _ | exact hC _ _ | exact zrg_max (by assumption) (hA _ _) | (constructor <;> omega))) (by first | assumption | exact hA _ _ | exact hB _ _ | exact hC _ _ | exact zrg_max (by assumption) (hA _ _) | (constructor <;> omega))) (by first | assumption | exact hA _ _ | exact hB _ _ | exact hC _ _ | exact zrg_max (by assumption) (hA _ _) | (constructor <;> omega))) ⟨by decide, by decide⟩) (zRg_up hC (by first | assumption | exact hA _ _ | exact hB _ _ | exact hC _ _ | exact zrg_max (by assumption) (hA _ _) | (constructor <;> omega))) ht (k := 0) (by omega) rfl)
set_option maxRecDepth 10000 in
theorem zq_127 {d : Nat} {A B C : ZM} (hB : zRg B) (hC : zRg C) {t r : Int} (ht : 0 ≤ t ∧ t < 3) (hq : zOKr B t r) : XR (d + 1) 127 [.ref 107, zci (t), zci (r)] (zhp A (zmg B C)) (none, zhp A (zmg (zdo B t r) C)) := by
  obtain ⟨-, h1, h2, h3, h4, h5⟩ := id hq
  refine XR.of (Nat.le_of_ble_eq_true rfl) rfl ?_
  refine xg_step rfl rfl (fun k => rfl) ?_
  refine xg_get rfl rfl (zha (by decide)) zc_RefM rfl rfl ?_
  refine zg_si rfl (by decide) ?_
  refine xg_step rfl rfl (fun k => rfl) ?_
  refine zg_mul rfl ?_
  refine xg_step rfl rfl (fun k => rfl) ?_
  refine xg_get rfl rfl (zha (by decide)) zc_RefM rfl rfl ?_
  refine xg_step rfl rfl (fun k => rfl) ?_
  refine zg_ald (.inl ⟨rfl, rfl⟩) (zha (by decide)) zc_r_done (by decide) ⟨by omega, by omega⟩ (zvB (zk_done (by omega)) (by omega)) ?_
  refine zg_add rfl ?_
  refine xg_step rfl rfl (fun k => rfl) ?_
  refine zg_ast (.inl ⟨rfl, rfl⟩) (zha (by decide)) zc_r_history (by decide) ⟨by omega, by omega⟩ (zhwB (zwB (zk_history (by omega) (by omega)) zw_r_history (by omega))) ?_
  refine xg_step rfl rfl (fun k => rfl) ?_
  refine xg_get rfl rfl (zha (by decide)) zc_RefM rfl rfl ?_
  refine xg_step rfl rfl (fun k => rfl) ?_
  refine xg_step rfl rfl (fun k => rfl) ?_
  refine zg_ald (x := B (67 + 17 * t) 6) (.inl ⟨rfl, rfl⟩) (zha (by decide)) zc_r_done (by decide) ⟨by omega, by omega⟩ ((zvB (zk_done (by omega)) (by omega)).trans (zup_ne (by omega))) ?_
  refine xg_step rfl rfl (fun k => rfl) ?_
  refine zg_add rfl ?_
  refine zg_ast (.inl ⟨rfl, rfl⟩) (zha (by decide)) zc_r_done (by decide) ⟨by omega, by omega⟩ (zhwB (zwB (zk_done (by omega)) zw_r_done (by omega))) ?_
  refine xg_step rfl rfl (fun k => rfl) ?_
  refine xg_step rfl rfl (fun k => rfl) ?_
  refine zg_mul rfl ?_
  refine xg_step rfl rfl (fun k => rfl) ?_
  refine xg_get rfl rfl (zha (by decide)) zc_RefM rfl rfl ?_
  refine xg_step rfl rfl (fun k => rfl) ?_
  refine zg_ald (x := B 2 r) (.inl ⟨rfl, rfl⟩) (zha (by decide)) zc_r_rClient (by decide) ⟨by omega, by omega⟩ ((zvB (zk_rClient (by omega)) (by omega)).trans ((zup_ne (by omega)).trans (zup_ne (by omega)))) ?_
  refine zg_add rfl ?_
  refine xg_step rfl rfl (fun k => rfl) ?_
  refine xg_step rfl rfl (fun k => rfl) ?_
  refine xg_get rfl rfl (zha (by decide)) zc_RefM rfl rfl ?_
  refine xg_step rfl rfl (fun k => rfl) ?_
  refine zg_ald (x := B 3 r) (.inl ⟨rfl, rfl⟩) (zha (by decide)) zc_r_rOwn (by decide) ⟨by omega, by omega⟩ ((zvB (zk_rOwn (by omega)) (by omega)).trans ((zup_ne (by omega)).trans (zup_ne (by omega)))) ?_
  refine xg_step rfl rfl (fun k => rfl) ?_
  refine xg_get rfl rfl (zha (by decide)) zc_RefM rfl rfl ?_
  refine xg_step rfl rfl (fun k => rfl) ?_
  refine zg_ald (x := B (69 + 17 * t) (B 2 r)) (.inl ⟨rfl, rfl⟩) (zha (by decide)) zc_r_last (by decide) ⟨by omega, by omega⟩ ((zvB (zk_last (by omega) (by omega)) (by omega)).trans ((zup_ne (by omega)).trans (zup_ne (by omega)))) ?_
  refine zg_gt rfl rfl (fun x y k => rfl) (by first | assumption | exact hA _ _ | exact hB _ _ | exact hC _ _ | exact zrg_max (by assumption) (hA _ _) | (constructor <;> omega)) (by first | assumption | exact hA _ _ | exact hB _ _ | exact hC _ _ | exact zrg_max (by assumption) (hA _ _) | (constructor <;> omega)) (fun hc => ?_) (fun hc => ?_)
  ·
    refine xg_step rfl rfl (fun k => rfl) ?_
    refine xg_get rfl rfl (zha (by decide)) zc_RefM rfl rfl ?_
    refine xg_step rfl rfl (fun k => rfl) ?_
    refine xg_step rfl rfl (fun k => rfl) ?_
    refine xg_get rfl rfl (zha (by decide)) zc_RefM rfl rfl ?_
    refine xg_step rfl rfl (fun k => rfl) ?_
    refine zg_ald (x := B 3 r) (.inl ⟨rfl, rfl⟩) (zha (by decide)) zc_r_rOwn (by decide) ⟨by omega, by omega⟩ ((zvB (zk_rOwn (by omega)) (by omega)).trans ((zup_ne (by omega)).trans (zup_ne (by omega)))) ?_
    refine zg_ast (.inl ⟨rfl, rfl⟩) (zha (by decide)) zc_r_last (by decide) ⟨by omega, by omega⟩ (zhwB (zwB (zk_last (by omega) (by omega)) zw_r_last (by omega))) ?_
    refine xg_step rfl rfl (fun k => rfl) ?_
    refine xg_step rfl rfl (fun k => rfl) ?_
    refine zg_mul rfl ?_
    refine xg_step rfl rfl (fun k => rfl) ?_
    refine xg_get rfl rfl (zha (by decide)) zc_RefM rfl rfl ?_
    refine xg_step rfl rfl (fun k => rfl) ?_
    refine zg_ald (x := B 5 r) (.inl ⟨rfl, rfl⟩) (zha (by decide)) zc_r_rKey (by decide) ⟨by omega, by omega⟩ ((zvB (zk_rKey (by omega)) (by omega)).trans ((zup_ne (by omega)).trans ((zup_ne (by omega)).trans (zup_ne (by omega))))) ?_
    refine zg_add rfl ?_
    refine xg_step rfl rfl (fun k => rfl) ?_
    refine xg_step rfl rfl (fun k => rfl) ?_
    refine xg_get rfl rfl (zha (by decide)) zc_RefM rfl rfl ?_
    refine xg_step rfl rfl (fun k => rfl) ?_
    refine zg_ald (x := B (68 + 17 * t) (B 5 r)) (.inl ⟨rfl, rfl⟩) (zha (by decide)) zc_r_map (by decide) ⟨by omega, by omega⟩ ((zvB (zk_map (by omega) (by omega)) (by omega)).trans ((zup_ne (by omega)).trans ((zup_ne (by omega)).trans (zup_ne (by omega))))) ?_
    refine xg_step rfl rfl (fun k => rfl) ?_
    refine xg_step rfl rfl (fun k => rfl) ?_
    refine xg_get rfl rfl (zha (by decide)) zc_RefM rfl rfl ?_
    refine xg_step rfl rfl (fun k => rfl) ?_
    refine xg_step rfl rfl (fun k => rfl) ?_
    refine xg_get rfl rfl (zha (by decide)) zc_RefM rfl rfl ?_
    refine xg_step rfl rfl (fun k => rfl) ?_
    refine zg_ald (x := B 4 r) (.inl ⟨rfl, rfl⟩) (zha (by decide)) zc_r_rKind (by decide) ⟨by omega, by omega⟩ ((zvB (zk_rKind (by omega)) (by omega)).trans ((zup_ne (by omega)).trans ((zup_ne (by omega)).trans (zup_ne (by omega))))) ?_
    refine zg_eq0 rfl rfl (fun x k => rfl) (by first | assumption | exact hA _ _ | exact hB _ _ | exact hC _ _ | exact zrg_max (by assumption) (hA _ _) | (constructor <;> omega)) (fun hc => ?_) (fun hc => ?_)
    ·
      refine xg_step rfl rfl (fun k => rfl) ?_
      refine xg_step rfl rfl (fun k => rfl) ?_
      refine zg_ast (.inl ⟨rfl, rfl⟩) (zha (by decide)) zc_r_map (by decide) ⟨by omega, by omega⟩ (zhwB (zwB (zk_map (by omega) (by omega)) zw_r_map (by omega))) ?_
      refine xg_step rfl rfl (fun k => rfl) ?_
      refine xg_get rfl rfl (zha (by decide)) zc_RefM rfl rfl ?_
      refine zg_bi rfl (by decide) ?_
      refine xg_step rfl rfl (fun k => rfl) ?_
      refine zg_mul rfl ?_
      refine xg_step rfl rfl (fun k => rfl) ?_
      refine zg_add rfl ?_
      refine xg_step rfl rfl (fun k => rfl) ?_
      refine zg_ast (.inr ⟨rfl, rfl, by omega⟩) (zha (by decide)) zc_r_hasReply (by decide) ⟨by omega, by omega⟩ (zhwB (zwB (zk_hasReply (by omega) (by omega)) zw_r_hasReply (by omega))) ?_
      refine xg_step rfl rfl (fun k => rfl) ?_
      refine xg_get rfl rfl (zha (by decide)) zc_RefM rfl rfl ?_
      refine zg_bi rfl (by decide) ?_
      refine xg_step rfl rfl (fun k => rfl) ?_
      refine zg_mul rfl ?_
      refine xg_step rfl rfl (fun k => rfl) ?_
      refine zg_add rfl ?_
      refine xg_step rfl rfl (fun k => rfl) ?_
      refine xg_get rfl rfl (zha (by decide)) zc_RefM rfl rfl ?_
      refine xg_step rfl rfl (fun k => rfl) ?_
      refine zg_ald (x := B 4 r) (.inl ⟨rfl, rfl⟩) (zha (by decide)) zc_r_rKind (by decide) ⟨by omega, by omega⟩ ((zvB (zk_rKind (by omega)) (by omega)).trans ((zup_ne (by omega)).trans ((zup_ne (by omega)).trans ((zup_ne (by omega)).trans ((zup_ne (by omega)).trans (zup_ne (by omega))))))) ?_
      refine xg_step rfl rfl (fun k => rfl) ?_
      refine zg_eq rfl rfl (fun x y k => rfl) (by first | assumption | exact hA _ _ | exact hB _ _ | exact hC _ _ | exact zrg_max (by assumption) (hA _ _) | (constructor <;> omega)) (by first | assumption | exact hA _ _ | exact hB _ _ | exact hC _ _ | exact zrg_max (by assumption) (hA _ _) | (constructor <;> omega)) (fun hc => ?_) (fun hc => ?_)
      ·
        refine xg_step rfl rfl (fun k => rfl) ?_
        refine xg_get rfl rfl (zha (by decide)) zc_RefM rfl rfl ?_
        refine xg_step rfl rfl (fun k => rfl) ?_
        refine zg_ald (x := B (68 + 17 * t) (B 5 r)) (.inl ⟨rfl, rfl⟩) (zha (by decide)) zc_r_map (by decide) ⟨by omega, by omega⟩ ((zvB (zk_map (by omega) (by omega)) (by omega)).trans ((zup_ne (by omega)).trans (zup_eq ⟨by omega, by omega⟩))) ?_
        refine xg_step rfl rfl (fun k => rfl) ?_
        refine zg_ast (.inl ⟨rfl, rfl⟩) (zha (by decide)) zc_r_replies (by decide) ⟨by omega, by omega⟩ (zhwB (zwB (zk_replies (by omega) (by omega)) zw_r_replies (by omega))) ?_
        refine zg_ret rfl rfl ?_
        (refine congrArg (fun m => (none, zhp A (zmg m C))) ?_; unfold zdo; (try dsimp only); (repeat' split) <;> first | rfl | omega)
      ·
        refine xg_step rfl rfl (fun k => rfl) ?_
        refine zg_ast (.inl ⟨rfl, rfl⟩) (zha (by decide)) zc_r_replies (by decide) ⟨by omega, by omega⟩ (zhwB (zwB (zk_replies (by omega) (by omega)) zw_r_replies (by omega))) ?_
        refine zg_ret rfl rfl ?_
        (refine congrArg (fun m => (none, zhp A (zmg m C))) ?_; unfold zdo; (try dsimp only); (repeat' split) <;> first | rfl | omega)
    ·
      refine xg_step rfl rfl (fun k => rfl) ?_
      refine xg_get rfl rfl (zha (by decide)) zc_RefM rfl rfl ?_
      refine xg_step rfl rfl (fun k => rfl) ?_
      refine zg_ald (x := B 4 r) (.inl ⟨rfl, rfl⟩) (zha (by decide)) zc_r_rKind (by decide) ⟨by omega, by omega⟩ ((zvB (zk_rKind (by omega)) (by omega)).trans ((zup_ne (by omega)).trans ((zup_ne (by omega)).trans (zup_ne (by omega))))) ?_
      refine xg_step rfl rfl (fun k => rfl) ?_
      refine zg_eq rfl rfl (fun x y k => rfl) (by first | assumption | exact hA _ _ | exact hB _ _ | exact hC _ _ | exact zrg_max (by assumption) (hA _ _) | (constructor <;> omega)) (by first | assumption | exact hA _ _ | exact hB _ _ | exact hC _ _ | exact zrg_max (by assumption) (hA _ _) | (constructor <;> omega)) (fun hc => ?_) (fun hc => ?_)
      ·
        refine xg_step rfl rfl (fun k => rfl) ?_
        refine xg_get rfl rfl (zha (by decide)) zc_RefM rfl rfl ?_
        refine xg_step rfl rfl (fun k => rfl) ?_
        refine zg_ald (x := B 6 r) (.inl ⟨rfl, rfl⟩) (zha (by decide)) zc_r_rNumber (by decide) ⟨by omega, by omega⟩ ((zvB (zk_rNumber (by omega)) (by omega)).trans ((zup_ne (by omega)).trans ((zup_ne (by omega)).trans (zup_ne (by omega))))) ?_
        refine xg_step rfl rfl (fun k => rfl) ?_
        refine zg_ast (.inl ⟨rfl, rfl⟩) (zha (by decide)) zc_r_map (by decide) ⟨by omega, by omega⟩ (zhwB (zwB (zk_map (by omega) (by omega)) zw_r_map (by omega))) ?_
        refine xg_step rfl rfl (fun k => rfl) ?_
        refine xg_get rfl rfl (zha (by decide)) zc_RefM rfl rfl ?_
        refine zg_bi rfl (by decide) ?_
        refine xg_step rfl rfl (fun k => rfl) ?_
        refine zg_mul rfl ?_
        refine xg_step rfl rfl (fun k => rfl) ?_
        refine zg_add rfl ?_
        refine xg_step rfl rfl (fun k => rfl) ?_
        refine zg_ast (.inr ⟨rfl, rfl, by omega⟩) (zha (by decide)) zc_r_hasReply (by decide) ⟨by omega, by omega⟩ (zhwB (zwB (zk_hasReply (by omega) (by omega)) zw_r_hasReply (by omega))) ?_
        refine xg_step rfl rfl (fun k => rfl) ?_
        refine xg_get rfl rfl (zha (by decide)) zc_RefM rfl rfl ?_
        refine zg_bi rfl (by decide) ?_
        refine xg_step rfl rfl (fun k => rfl) ?_
        refine zg_mul rfl ?_
        refine xg_step rfl rfl (fun k => rfl) ?_
        refine zg_add rfl ?_
        refine xg_step rfl rfl (fun k => rfl) ?_
        refine xg_get rfl rfl (zha (by decide)) zc_RefM rfl rfl ?_
        refine xg_step rfl rfl (fun k => rfl) ?_
        refine zg_ald (x := B 4 r) (.inl ⟨rfl, rfl⟩) (zha (by decide)) zc_r_rKind (by decide) ⟨by omega, by omega⟩ ((zvB (zk_rKind (by omega)) (by omega)).trans ((zup_ne (by omega)).trans ((zup_ne (by omega)).trans ((zup_ne (by omega)).trans ((zup_ne (by omega)).trans (zup_ne (by omega))))))) ?_
        refine xg_step rfl rfl (fun k => rfl) ?_
        refine zg_eq rfl rfl (fun x y k => rfl) (by first | assumption | exact hA _ _ | exact hB _ _ | exact hC _ _ | exact zrg_max (by assumption) (hA _ _) | (constructor <;> omega)) (by first | assumption | exact hA _ _ | exact hB _ _ | exact hC _ _ | exact zrg_max (by assumption) (hA _ _) | (constructor <;> omega)) (fun hc => ?_) (fun hc => ?_)
        ·
          refine xg_step rfl rfl (fun k => rfl) ?_
          refine xg_get rfl rfl (zha (by decide)) zc_RefM rfl rfl ?_
          refine xg_step rfl rfl (fun k => rfl) ?_
          refine zg_ald (x := B 6 r) (.inl ⟨rfl, rfl⟩) (zha (by decide)) zc_r_map (by decide) ⟨by omega, by omega⟩ ((zvB (zk_map (by omega) (by omega)) (by omega)).trans ((zup_ne (by omega)).trans (zup_eq ⟨by omega, by omega⟩))) ?_
          refine xg_step rfl rfl (fun k => rfl) ?_
          refine zg_ast (.inl ⟨rfl, rfl⟩) (zha (by decide)) zc_r_replies (by decide) ⟨by omega, by omega⟩ (zhwB (zwB (zk_replies (by omega) (by omega)) zw_r_replies (by omega))) ?_
          refine zg_ret rfl rfl ?_
          (refine congrArg (fun m => (none, zhp A (zmg m C))) ?_; unfold zdo; (try dsimp only); (repeat' split) <;> first | rfl | omega)
        ·
          refine xg_step rfl rfl (fun k => rfl) ?_
          refine zg_ast (.inl ⟨rfl, rfl⟩) (zha (by decide)) zc_r_replies (by decide) ⟨by omega, by omega⟩ (zhwB (zwB (zk_replies (by omega) (by omega)) zw_r_replies (by omega))) ?_
          refine zg_ret rfl rfl ?_
          (refine congrArg (fun m => (none, zhp A (zmg m C))) ?_; unfold zdo; (try dsimp only); (repeat' split) <;> first | rfl | omega)
      ·
        refine xg_step rfl rfl (fun k => rfl) ?_
        refine xg_step rfl rfl (fun k => rfl) ?_
        refine xg_get rfl rfl (zha (by decide)) zc_RefM rfl rfl ?_
        refine xg_step rfl rfl (fun k => rfl) ?_
        refine zg_ald (x := B 6 r) (.inl ⟨rfl, rfl⟩) (zha (by decide)) zc_r_rNumber (by decide) ⟨by omega, by omega⟩ ((zvB (zk_rNumber (by omega)) (by omega)).trans ((zup_ne (by omega)).trans ((zup_ne (by omega)).trans (zup_ne (by omega))))) ?_
        refine zg_add rfl ?_
        refine zg_wr ?_
        refine zg_ast (.inl ⟨rfl, rfl⟩) (zha (by decide)) zc_r_map (by decide) ⟨by omega, by omega⟩ (zhwB (zwB (zk_map (by omega) (by omega)) zw_r_map (by omega))) ?_
        refine xg_step rfl rfl (fun k => rfl) ?_
        refine xg_get rfl rfl (zha (by decide)) zc_RefM rfl rfl ?_
        refine zg_bi rfl (by decide) ?_
        refine xg_step rfl rfl (fun k => rfl) ?_
        refine zg_mul rfl ?_
        refine xg_step rfl rfl (fun k => rfl) ?_
        refine zg_add rfl ?_
        refine xg_step rfl rfl (fun k => rfl) ?_
        refine zg_ast (.inr ⟨rfl, rfl, by omega⟩) (zha (by decide)) zc_r_hasReply (by decide) ⟨by omega, by omega⟩ (zhwB (zwB (zk_hasReply (by omega) (by omega)) zw_r_hasReply (by omega))) ?_
        refine xg_step rfl rfl (fun k => rfl) ?_
        refine xg_get rfl rfl (zha (by decide)) zc_RefM rfl rfl ?_
        refine zg_bi rfl (by decide) ?_
        refine xg_step rfl rfl (fun k => rfl) ?_
        refine zg_mul rfl ?_
        refine xg_step rfl rfl (fun k => rfl) ?_
        refine zg_add rfl ?_
        refine xg_step rfl rfl (fun k => rfl) ?_
        refine xg_get rfl rfl (zha (by decide)) zc_RefM rfl rfl ?_
        refine xg_step rfl rfl (fun k => rfl) ?_
        refine zg_ald (x := B 4 r) (.inl ⟨rfl, rfl⟩) (zha (by decide)) zc_r_rKind (by decide) ⟨by omega, by omega⟩ ((zvB (zk_rKind (by omega)) (by omega)).trans ((zup_ne (by omega)).trans ((zup_ne (by omega)).trans ((zup_ne (by omega)).trans ((zup_ne (by omega)).trans (zup_ne (by omega))))))) ?_
        refine xg_step rfl rfl (fun k => rfl) ?_
        refine zg_eq rfl rfl (fun x y k => rfl) (by first | assumption | exact hA _ _ | exact hB _ _ | exact hC _ _ | exact zrg_max (by assumption) (hA _ _) | (constructor <;> omega)) (by first | assumption | exact hA _ _ | exact hB _ _ | exact hC _ _ | exact zrg_max (by assumption) (hA _ _) | (constructor <;> omega)) (fun hc => ?_) (fun hc => ?_)
        ·
          refine xg_step rfl rfl (fun k => rfl) ?_
          refine xg_get rfl rfl (zha (by decide)) zc_RefM rfl rfl ?_
          refine xg_step rfl rfl (fun k => rfl) ?_
          refine zg_ald (x := zwr ((B (68 + 17 * t) (B 5 r)) + (B 6 r))) (.inl ⟨rfl, rfl⟩) (zha (by decide)) zc_r_map (by decide) ⟨by omega, by omega⟩ ((zvB (zk_map (by omega) (by omega)) (by omega)).trans ((zup_ne (by omega)).trans (zup_eq ⟨by omega, by omega⟩))) ?_
          refine xg_step rfl rfl (fun k => rfl) ?_
          refine zg_ast (.inl ⟨rfl, rfl⟩) (zha (by decide)) zc_r_replies (by decide) ⟨by omega, by omega⟩ (zhwB (zwB (zk_replies (by omega) (by omega)) zw_r_replies (by omega))) ?_
          refine zg_ret rfl rfl ?_
          (refine congrArg (fun m => (none, zhp A (zmg m C))) ?_; unfold zdo; (try dsimp only); (repeat' split) <;> first | rfl | omega)
        ·
          refine xg_step rfl rfl (fun k => rfl) ?_
          refine zg_ast (.inl ⟨rfl, rfl⟩) (zha (by decide)) zc_r_replies (by decide) ⟨by omega, by omega⟩ (zhwB (zwB (zk_replies (by omega) (by omega)) zw_r_replies (by omega))) ?_
          refine zg_ret rfl rfl ?_
          (refine congrArg (fun m => (none, zhp A (zmg m C))) ?_; unfold zdo; (try dsimp only); (repeat' split) <;> first | rfl | omega)
  ·
    refine zg_ret rfl rfl ?_
    (refine congrArg (fun m => (none, zhp A (zmg m C))) ?_; unfold zdo; (try dsimp only); (repeat' split) <;> first | rfl | omega)
set_option maxRecDepth 10000 in
theorem zq_129 {d : Nat} {A B C : ZM} (hB : zRg B) (hC : zRg C) (hL : zLI B C) {t s k : Int} (ht : 0 ≤ t ∧ t < 3) (hs : 0 ≤ s ∧ s < 3) (hk : 1 ≤ k ∧ k ≤ B (44 + 2 * s) 1) : XR (d + 9) 129 [.ref 107, zci (t), zci (s), zci (k)] (zhp A (zmg B C)) (some (zci (zb2 (zWt B t s k))), zhp A (zmg B C)) := by
  have hcs := hL.1 s hs
  obtain ⟨m0, m1, m2, m3⟩ := (hL.2.1 s k hs hk).1
  refine XR.of (Nat.le_of_ble_eq_true rfl) rfl ?_
  refine xg_step rfl rfl (fun k => rfl) ?_
  refine xg_step rfl rfl (fun k => rfl) ?_
  refine zg_csi rfl rfl (by decide) rfl rfl (Nat.le_of_ble_eq_true rfl) rfl (zq_106 hB hC) ?_
  refine xg_step rfl rfl (fun k => rfl) ?_
  refine xg_step rfl rfl (fun k => rfl) ?_
  refine xg_get rfl rfl (zha (by decide)) zc_RefM rfl rfl ?_
  refine xg_step rfl rfl (fun k => rfl) ?_
  refine zg_ald (.inl ⟨rfl, rfl⟩) (zha (by decide)) zc_r_kinds (by decide) ⟨by omega, by omega⟩ (zvB (zk_kinds (by omega) (by omega)) (by omega)) ?_
  refine zg_eq0 rfl rfl (fun x k => rfl) (by first | assumption | exact hA _ _ | exact hB _ _ | exact hC _ _ | exact zrg_max (by assumption) (hA _ _) | (constructor <;> omega)) (fun hc => ?_) (fun hc => ?_)
  ·
    refine xg_step rfl rfl (fun k => rfl) ?_
    refine xg_get rfl rfl (zha (by decide)) zc_RefM rfl rfl ?_
    refine xg_step rfl rfl (fun k => rfl) ?_
    refine zg_ald (.inl ⟨rfl, rfl⟩) (zha (by decide)) zc_r_views (by decide) ⟨by omega, by omega⟩ (zvB (zk_views (by omega) (by omega)) (by omega)) ?_
    refine xg_step rfl rfl (fun k => rfl) ?_
    refine xg_get rfl rfl (zha (by decide)) zc_RefM rfl rfl ?_
    refine xg_step rfl rfl (fun k => rfl) ?_
    refine zg_ald (.inl ⟨rfl, rfl⟩) (zha (by decide)) zc_r_view (by decide) ⟨by omega, by omega⟩ (zvB (zk_view (by omega)) (by omega)) ?_
    refine zg_gt rfl rfl (fun x y k => rfl) (by first | assumption | exact hA _ _ | exact hB _ _ | exact hC _ _ | exact zrg_max (by assumption) (hA _ _) | (constructor <;> omega)) (by first | assumption | exact hA _ _ | exact hB _ _ | exact hC _ _ | exact zrg_max (by assumption) (hA _ _) | (constructor <;> omega)) (fun hc => ?_) (fun hc => ?_)
    ·
      refine xg_step rfl rfl (fun k => rfl) ?_
      refine xg_step rfl rfl (fun k => rfl) ?_
      refine xg_step rfl rfl (fun k => rfl) ?_
      refine zg_cvb rfl rfl rfl (Nat.le_of_ble_eq_true rfl) (zha (by decide)) zc_RefM rfl rfl (zq_114 hB hC hL (by omega) (by omega)) (fun hc => ?_) (fun hc => ?_)
      ·
        refine xg_step rfl rfl (fun k => rfl) ?_
        refine xg_step rfl rfl (fun k => rfl) ?_
        refine zg_iret rfl rfl (zfitZ (by omega)) ?_
        exact zl0 (by simp only [zWt]; omega)
      ·
        refine xg_step rfl rfl (fun k => rfl) ?_
        refine xg_step rfl rfl (fun k => rfl) ?_
        refine xg_step rfl rfl (fun k => rfl) ?_
        refine zg_iret rfl rfl (zfitZ (by omega)) ?_
        exact zl1 (by simp only [zWt]; omega)
    ·
      refine xg_step rfl rfl (fun k => rfl) ?_
      refine xg_get rfl rfl (zha (by decide)) zc_RefM rfl rfl ?_
      refine xg_step rfl rfl (fun k => rfl) ?_
      refine zg_ald (.inl ⟨rfl, rfl⟩) (zha (by decide)) zc_r_views (by decide) ⟨by omega, by omega⟩ (zvB (zk_views (by omega) (by omega)) (by omega)) ?_
      refine xg_step rfl rfl (fun k => rfl) ?_
      refine xg_get rfl rfl (zha (by decide)) zc_RefM rfl rfl ?_
      refine xg_step rfl rfl (fun k => rfl) ?_
      refine zg_ald (.inl ⟨rfl, rfl⟩) (zha (by decide)) zc_r_view (by decide) ⟨by omega, by omega⟩ (zvB (zk_view (by omega)) (by omega)) ?_
      refine zg_eq rfl rfl (fun x y k => rfl) (by first | assumption | exact hA _ _ | exact hB _ _ | exact hC _ _ | exact zrg_max (by assumption) (hA _ _) | (constructor <;> omega)) (by first | assumption | exact hA _ _ | exact hB _ _ | exact hC _ _ | exact zrg_max (by assumption) (hA _ _) | (constructor <;> omega)) (fun hc => ?_) (fun hc => ?_)
      ·
        refine xg_step rfl rfl (fun k => rfl) ?_
        refine xg_get rfl rfl (zha (by decide)) zc_RefM rfl rfl ?_
        refine xg_step rfl rfl (fun k => rfl) ?_
        refine zg_ald (.inr ⟨rfl, rfl⟩) (zha (by decide)) zc_r_active (by decide) ⟨by omega, by omega⟩ (zvB (zk_active (by omega)) (by omega)) ?_
        refine zg_eq0 rfl rfl (fun x k => rfl) (by first | assumption | exact hA _ _ | exact hB _ _ | exact hC _ _ | exact zrg_max (by assumption) (hA _ _) | (constructor <;> omega)) (fun hc => ?_) (fun hc => ?_)
        ·
          refine xg_step rfl rfl (fun k => rfl) ?_
          refine xg_step rfl rfl (fun k => rfl) ?_
          refine xg_step rfl rfl (fun k => rfl) ?_
          refine zg_cvb rfl rfl rfl (Nat.le_of_ble_eq_true rfl) (zha (by decide)) zc_RefM rfl rfl (zq_114 hB hC hL (by omega) (by omega)) (fun hc => ?_) (fun hc => ?_)
          ·
            refine xg_step rfl rfl (fun k => rfl) ?_
            refine xg_step rfl rfl (fun k => rfl) ?_
            refine zg_iret rfl rfl (zfitZ (by omega)) ?_
            exact zl0 (by simp only [zWt]; omega)
          ·
            refine xg_step rfl rfl (fun k => rfl) ?_
            refine xg_step rfl rfl (fun k => rfl) ?_
            refine xg_step rfl rfl (fun k => rfl) ?_
            refine zg_iret rfl rfl (zfitZ (by omega)) ?_
            exact zl1 (by simp only [zWt]; omega)
        ·
          refine xg_step rfl rfl (fun k => rfl) ?_
          refine zg_iret rfl rfl (zfitZ (by omega)) ?_
          exact zl0 (by simp only [zWt]; omega)
      ·
        refine xg_step rfl rfl (fun k => rfl) ?_
        refine zg_iret rfl rfl (zfitZ (by omega)) ?_
        exact zl0 (by simp only [zWt]; omega)
  ·
    refine xg_step rfl rfl (fun k => rfl) ?_
    refine xg_get rfl rfl (zha (by decide)) zc_RefM rfl rfl ?_
    refine xg_step rfl rfl (fun k => rfl) ?_
    refine zg_ald (.inl ⟨rfl, rfl⟩) (zha (by decide)) zc_r_kinds (by decide) ⟨by omega, by omega⟩ (zvB (zk_kinds (by omega) (by omega)) (by omega)) ?_
    refine xg_step rfl rfl (fun k => rfl) ?_
    refine zg_eq rfl rfl (fun x y k => rfl) (by first | assumption | exact hA _ _ | exact hB _ _ | exact hC _ _ | exact zrg_max (by assumption) (hA _ _) | (constructor <;> omega)) (by first | assumption | exact hA _ _ | exact hB _ _ | exact hC _ _ | exact zrg_max (by assumption) (hA _ _) | (constructor <;> omega)) (fun hc => ?_) (fun hc => ?_)
    ·
      refine xg_step rfl rfl (fun k => rfl) ?_
      refine xg_get rfl rfl (zha (by decide)) zc_RefM rfl rfl ?_
      refine xg_step rfl rfl (fun k => rfl) ?_
      refine zg_ald (.inl ⟨rfl, rfl⟩) (zha (by decide)) zc_r_views (by decide) ⟨by omega, by omega⟩ (zvB (zk_views (by omega) (by omega)) (by omega)) ?_
      refine xg_step rfl rfl (fun k => rfl) ?_
      refine xg_get rfl rfl (zha (by decide)) zc_RefM rfl rfl ?_
      refine xg_step rfl rfl (fun k => rfl) ?_
      refine zg_ald (.inl ⟨rfl, rfl⟩) (zha (by decide)) zc_r_view (by decide) ⟨by omega, by omega⟩ (zvB (zk_view (by omega)) (by omega)) ?_
      refine zg_gt rfl rfl (fun x y k => rfl) (by first | assumption | exact hA _ _ | exact hB _ _ | exact hC _ _ | exact zrg_max (by assumption) (hA _ _) | (constructor <;> omega)) (by first | assumption | exact hA _ _ | exact hB _ _ | exact hC _ _ | exact zrg_max (by assumption) (hA _ _) | (constructor <;> omega)) (fun hc => ?_) (fun hc => ?_)
      ·
        refine xg_step rfl rfl (fun k => rfl) ?_
        refine xg_step rfl rfl (fun k => rfl) ?_
        refine xg_step rfl rfl (fun k => rfl) ?_
        refine zg_cvb rfl rfl rfl (Nat.le_of_ble_eq_true rfl) (zha (by decide)) zc_RefM rfl rfl (zq_114 hB hC hL (by omega) (by omega)) (fun hc => ?_) (fun hc => ?_)
        ·
          refine xg_step rfl rfl (fun k => rfl) ?_
          refine xg_step rfl rfl (fun k => rfl) ?_
          refine zg_iret rfl rfl (zfitZ (by omega)) ?_
          exact zl0 (by simp only [zWt]; omega)
        ·
          refine xg_step rfl rfl (fun k => rfl) ?_
          refine xg_step rfl rfl (fun k => rfl) ?_
          refine xg_step rfl rfl (fun k => rfl) ?_
          refine zg_iret rfl rfl (zfitZ (by omega)) ?_
          exact zl1 (by simp only [zWt]; omega)
      ·
        refine xg_step rfl rfl (fun k => rfl) ?_
        refine xg_get rfl rfl (zha (by decide)) zc_RefM rfl rfl ?_
        refine xg_step rfl rfl (fun k => rfl) ?_
        refine zg_ald (.inl ⟨rfl, rfl⟩) (zha (by decide)) zc_r_views (by decide) ⟨by omega, by omega⟩ (zvB (zk_views (by omega) (by omega)) (by omega)) ?_
        refine xg_step rfl rfl (fun k => rfl) ?_
        refine xg_get rfl rfl (zha (by decide)) zc_RefM rfl rfl ?_
        refine xg_step rfl rfl (fun k => rfl) ?_
        refine zg_ald (.inl ⟨rfl, rfl⟩) (zha (by decide)) zc_r_view (by decide) ⟨by omega, by omega⟩ (zvB (zk_view (by omega)) (by omega)) ?_
        refine zg_eq rfl rfl (fun x y k => rfl) (by first | assumption | exact hA _ _ | exact hB _ _ | exact hC _ _ | exact zrg_max (by assumption) (hA _ _) | (constructor <;> omega)) (by first | assumption | exact hA _ _ | exact hB _ _ | exact hC _ _ | exact zrg_max (by assumption) (hA _ _) | (constructor <;> omega)) (fun hc => ?_) (fun hc => ?_)
        ·
          refine xg_step rfl rfl (fun k => rfl) ?_
          refine xg_get rfl rfl (zha (by decide)) zc_RefM rfl rfl ?_
          refine xg_step rfl rfl (fun k => rfl) ?_
          refine zg_ald (.inr ⟨rfl, rfl⟩) (zha (by decide)) zc_r_active (by decide) ⟨by omega, by omega⟩ (zvB (zk_active (by omega)) (by omega)) ?_
          refine zg_eq0 rfl rfl (fun x k => rfl) (by first | assumption | exact hA _ _ | exact hB _ _ | exact hC _ _ | exact zrg_max (by assumption) (hA _ _) | (constructor <;> omega)) (fun hc => ?_) (fun hc => ?_)
          ·
            refine xg_step rfl rfl (fun k => rfl) ?_
            refine xg_step rfl rfl (fun k => rfl) ?_
            refine xg_step rfl rfl (fun k => rfl) ?_
            refine zg_cvb rfl rfl rfl (Nat.le_of_ble_eq_true rfl) (zha (by decide)) zc_RefM rfl rfl (zq_114 hB hC hL (by omega) (by omega)) (fun hc => ?_) (fun hc => ?_)
            ·
              refine xg_step rfl rfl (fun k => rfl) ?_
              refine xg_step rfl rfl (fun k => rfl) ?_
              refine zg_iret rfl rfl (zfitZ (by omega)) ?_
              exact zl0 (by simp only [zWt]; omega)
            ·
              refine xg_step rfl rfl (fun k => rfl) ?_
              refine xg_step rfl rfl (fun k => rfl) ?_
              refine xg_step rfl rfl (fun k => rfl) ?_
              refine zg_iret rfl rfl (zfitZ (by omega)) ?_
              exact zl1 (by simp only [zWt]; omega)
          ·
            refine xg_step rfl rfl (fun k => rfl) ?_
            refine zg_iret rfl rfl (zfitZ (by omega)) ?_
            exact zl0 (by simp only [zWt]; omega)
        ·
          refine xg_step rfl rfl (fun k => rfl) ?_
          refine zg_iret rfl rfl (zfitZ (by omega)) ?_
          exact zl0 (by simp only [zWt]; omega)
    ·
      refine xg_step rfl rfl (fun k => rfl) ?_
      refine zg_iret rfl rfl (zfitZ (by omega)) ?_
      exact zl0 (by simp only [zWt]; omega)
