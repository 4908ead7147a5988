/-! the reference: certifying and reading -/
theorem zgh3 {A B1 B2 C : ZM} (h : ∀ a i, zfm2 a i → ¬ (107 ≤ a ∧ a < 144) → B1 a i = B2 a i) : zhp A (zmg B1 C) = zhp A (zmg B2 C) := by
  have hz : zen A (zmg B1 C) = zen A (zmg B2 C) := by
    funext b
    by_cases h1 : b < 107
    · simp only [zen, h1, if_true]
    · by_cases h2 : b < 144
      · have e : zrv (zmg B1 C) b = zrv (zmg B2 C) b := by
          funext p
          simp only [zrv, zmg]
          by_cases q : 107 ≤ (zrk b p).1 ∧ (zrk b p).1 < 144
          · rw [if_pos q, if_pos q]
          · rw [if_neg q, if_neg q]
            exact h _ _ (zrk_form (by omega) h2) q
        simp only [zen, e]
      · have : zrow b = true := by simp only [zrow, Bool.or_eq_true, decide_eq_true_eq]; omega
        simp only [zen, this, if_true]
  show (_, _, zen A (zmg B1 C)) = (_, _, zen A (zmg B2 C))
  rw [hz]
theorem zrwf_row {s v q k : Int} {x : ZM × Int} {b : Int} (h : b ≠ q) : (zrwf s v q k x).1 b = x.1 b := by
  unfold zrwf
  split
  · exact zup_row h
  · rfl
/-- a row made changes nothing that the reference sees -/
theorem zmr_vis {B : ZM} {v a b : Int} (h0 : 0 ≤ B (-2) 0) {c i : Int} (hv : zfm2 c i) (hn : ¬ (107 ≤ c ∧ c < 144)) : zmr B v a b c i = B c i := by
  have h43 : c ≠ 43 := fun e => by subst e; unfold zfm2 at hv; omega
  have h11 : c ≠ 11 := fun e => by subst e; unfold zfm2 at hv; omega
  have hm1 : c ≠ -1 := fun e => by subst e; unfold zfm2 at hv; omega
  have hm2 : c ≠ -2 := fun e => by subst e; unfold zfm2 at hv; omega
  have hbig : c < 144 := by unfold zfm2 at hv; omega
  have e1 : ∀ bs, zmrM B bs a b c = B c := fun bs => by
    unfold zmrM
    have k1 : ∀ M : ZM, ∀ s v k l, M c = B c → zfi (zmkf s v) k l M c = B c := fun M s v k l q => zfi_keep (P := fun M : ZM => M c = B c) (fun k a q => by unfold zmkf; (repeat' split) <;> first | exact (zup_row h43).trans q | exact q) _ k l M rfl q
    refine k1 _ _ _ _ _ (k1 _ _ _ _ _ ?_)
    exact zfi_keep (P := fun M : ZM => M c = B c) (fun k a q => (zup_row h43).trans q) _ _ _ _ rfl rfl
  have e2 : ∀ bs, zmrM B bs a b (-2) = B (-2) := fun bs => by
    unfold zmrM
    have k1 : ∀ M : ZM, ∀ s v k l, M (-2) = B (-2) → zfi (zmkf s v) k l M (-2) = B (-2) := fun M s v k l q => zfi_keep (P := fun M : ZM => M (-2) = B (-2)) (fun k a q => by unfold zmkf; (repeat' split) <;> first | exact (zup_row (by omega)).trans q | exact q) _ k l M rfl q
    refine k1 _ _ _ _ _ (k1 _ _ _ _ _ ?_)
    exact zfi_keep (P := fun M : ZM => M (-2) = B (-2)) (fun k a q => (zup_row (by omega)).trans q) _ _ _ _ rfl rfl
  unfold zmr
  try dsimp only
  rw [zup_row h11, zrb_row (by rw [e2]; omega), znew_row (by rw [e2]; omega) hm1 hm2, e1]
/-- what the reference writes as a message is entered -/
def zraw (B : ZM) (t kd w a b : Int) : ZM := zup (zup (zup (zup (zup B (44 + 2 * t) 1 (B (44 + 2 * t) 1 + 1)) (45 + 2 * t) ((B (44 + 2 * t) 1 + 1) * 5 + 0) kd) (45 + 2 * t) ((B (44 + 2 * t) 1 + 1) * 5 + 1) w) (45 + 2 * t) ((B (44 + 2 * t) 1 + 1) * 5 + 2) a) (45 + 2 * t) ((B (44 + 2 * t) 1 + 1) * 5 + 3) b
theorem zraw_vis {B : ZM} {t kd w a b o : Int} (ht : 0 ≤ t ∧ t < 3) {c i : Int} (hv : zfm2 c i) : zraw B t kd w a b c i = zadd B t kd w a b o c i := by
  have h1 : ¬ (c = 44 + 2 * t ∧ i = 2) := fun q => by unfold zfm2 at hv; omega
  have h2 : ¬ (c = 45 + 2 * t ∧ i = (B (44 + 2 * t) 1 + 1) * 5 + 4) := fun q => by unfold zfm2 at hv; omega
  unfold zraw zadd
  (try dsimp only)
  split
  · rw [zup_ne h1, zup_ne h2]
  · rw [zup_ne h2]
theorem zent_vis {B : ZM} {t kd w a b : Int} (ht : 0 ≤ t ∧ t < 3) (h0 : 0 ≤ B (-2) 0) {c i : Int} (hv : zfm2 c i) (hn : ¬ (107 ≤ c ∧ c < 144)) : zraw B t kd w a b c i = zent B t kd w a b c i := by
  unfold zent
  (repeat' split)
  · exact zraw_vis ht hv
  · rw [zmr_vis (by rw [zup_ne (by omega), zadd_row (by omega) (by omega)]; exact h0) hv hn, zup_ne (fun q => by unfold zfm2 at hv; omega)]
    exact zraw_vis ht hv
  · exact zraw_vis ht hv
/-- a message's moment -/
def zmom (C : ZM) (t k : Int) : ZM := zup (zup C 119 (101 * t + k) (C 107 15)) 107 15 (C 107 15 + 1)
theorem zent_keep {B : ZM} {t kd w a b : Int} (ht : 0 ≤ t ∧ t < 3) (h0 : 0 ≤ B (-2) 0) {c i : Int} (hv : zfm2 c i) (hn : ¬ (107 ≤ c ∧ c < 144)) (h1 : c ≠ 44 + 2 * t) (h2 : c ≠ 45 + 2 * t) : zent B t kd w a b c i = B c i := by
  rw [← zent_vis ht h0 hv hn]
  unfold zraw
  rw [zup_row h2, zup_row h2, zup_row h2, zup_row h2, zup_row h1]
set_option maxRecDepth 10000 in
theorem zq_121f {d : Nat} {A B C : ZM} (hB : zRg B) (hC : zRg C) {t kd w a b : Int} (ht : 0 ≤ t ∧ t < 3) (h0 : 0 ≤ B (-2) 0) (hcn : 0 ≤ B (44 + 2 * t) 1 ∧ B (44 + 2 * t) 1 ≤ 100) (hkd : zrg kd) (hw : zrg w) (ha : zrg a) (hb : zrg b) (hmo : 0 ≤ C 107 15 ∧ C 107 15 ≤ 100000) (hf : B (44 + 2 * t) 1 = 100) : XR (d + 1) 121 [.ref 107, zci (t), zci (kd), zci (w), zci (a), zci (b)] (zhp A (zmg B C)) (some (zci (-1)), zhp A (zmg B C)) := by
  refine XR.of (Nat.le_of_ble_eq_true rfl) rfl ?_
  refine xg_step rfl rfl (fun k => rfl) ?_
  refine xg_get rfl rfl (zha (by decide)) zc_RefM rfl rfl ?_
  refine xg_step rfl rfl (fun k => rfl) ?_
  refine zg_ald (.inl ⟨rfl, rfl⟩) (zha (by decide)) zc_r_many (by decide) ⟨by omega, by omega⟩ (zvB (zk_many (by omega)) (by omega)) ?_
  refine zg_bi rfl (by decide) ?_
  refine zg_eq rfl rfl (fun x y k => rfl) (by first | assumption | exact hA _ _ | exact hB _ _ | exact hC _ _ | exact zrg_max (by assumption) (hA _ _) | (constructor <;> omega)) (by first | assumption | exact hA _ _ | exact hB _ _ | exact hC _ _ | exact zrg_max (by assumption) (hA _ _) | (constructor <;> omega)) (fun hc => ?_) (fun hc => ?_)
  ·
    refine xg_step rfl rfl (fun k => rfl) ?_
    refine zg_iret rfl rfl zfitI ?_
    rfl
  ·
    exact (by omega : False).elim
set_option maxRecDepth 10000 in
theorem zm_121l {d : Nat} {A B C : ZM} (hB : zRg B) (hC : zRg C) {t kd w a b : Int} (ht : 0 ≤ t ∧ t < 3) (h0 : 0 ≤ B (-2) 0) (hcn : 0 ≤ B (44 + 2 * t) 1 ∧ B (44 + 2 * t) 1 ≤ 100) (hkd : zrg kd) (hw : zrg w) (ha : zrg a) (hb : zrg b) (hmo : 0 ≤ C 107 15 ∧ C 107 15 ≤ 100000) (hl : ¬ B (56 + 17 * t) 9 = 0) : XG (d + 1) 121 98 [some (.ref 107), some (zci t), some (zci kd), some (zci w), some (zci a), some (zci b), some (zci (101 * t + (B (44 + 2 * t) 1 + 1))), some (zci (B (44 + 2 * t) 1 + 1))] [] (zhp A (zmg (zent B t kd w a b) (zmom C t (B (44 + 2 * t) 1 + 1)))) (some (zci (B (44 + 2 * t) 1 + 1)), zhp A (zmg (zent B t kd w a b) (zmom C t (B (44 + 2 * t) 1 + 1)))) := by
  refine xg_step rfl rfl (fun k => rfl) ?_
  refine xg_get rfl rfl (zha (by decide)) zc_RefM rfl rfl ?_
  refine xg_step rfl rfl (fun k => rfl) ?_
  refine zg_ald (x := B (56 + 17 * t) 9) (.inr ⟨rfl, rfl⟩) (zha (by decide)) zc_r_lied (by decide) ⟨by omega, by omega⟩ ((zvB (zk_lied (by omega)) (by omega)).trans ((zent_keep ht h0 (by unfold zfm2; omega) (by omega) (by omega) (by omega)))) ?_
  refine zg_eq0 rfl rfl (fun x k => rfl) (by first | assumption | exact hA _ _ | exact hB _ _ | exact hC _ _ | exact zrg_max (by assumption) (hA _ _) | (constructor <;> omega)) (fun hc => ?_) (fun hc => ?_)
  ·
    exact (by omega : False).elim
  ·
    refine xg_step rfl rfl (fun k => rfl) ?_
    refine zg_iret rfl rfl zfitI ?_
    first | rfl | exact (by omega : False).elim
set_option maxRecDepth 10000 in
theorem zq_121l {d : Nat} {A B C : ZM} (hB : zRg B) (hC : zRg C) {t kd w a b : Int} (ht : 0 ≤ t ∧ t < 3) (h0 : 0 ≤ B (-2) 0) (hcn : 0 ≤ B (44 + 2 * t) 1 ∧ B (44 + 2 * t) 1 ≤ 100) (hkd : zrg kd) (hw : zrg w) (ha : zrg a) (hb : zrg b) (hmo : 0 ≤ C 107 15 ∧ C 107 15 ≤ 100000) (hf : ¬ B (44 + 2 * t) 1 = 100) (hl : ¬ B (56 + 17 * t) 9 = 0) : XR (d + 2) 121 [.ref 107, zci (t), zci (kd), zci (w), zci (a), zci (b)] (zhp A (zmg B C)) (some (zci (B (44 + 2 * t) 1 + 1)), zhp A (zmg (zent B t kd w a b) (zmom C t (B (44 + 2 * t) 1 + 1)))) := by
  refine XR.of (Nat.le_of_ble_eq_true rfl) rfl ?_
  refine xg_step rfl rfl (fun k => rfl) ?_
  refine xg_get rfl rfl (zha (by decide)) zc_RefM rfl rfl ?_
  refine xg_step rfl rfl (fun k => rfl) ?_
  refine zg_ald (.inl ⟨rfl, rfl⟩) (zha (by decide)) zc_r_many (by decide) ⟨by omega, by omega⟩ (zvB (zk_many (by omega)) (by omega)) ?_
  refine zg_bi rfl (by decide) ?_
  refine zg_eq rfl rfl (fun x y k => rfl) (by first | assumption | exact hA _ _ | exact hB _ _ | exact hC _ _ | exact zrg_max (by assumption) (hA _ _) | (constructor <;> omega)) (by first | assumption | exact hA _ _ | exact hB _ _ | exact hC _ _ | exact zrg_max (by assumption) (hA _ _) | (constructor <;> omega)) (fun hc => ?_) (fun hc => ?_)
  ·
    refine xg_step rfl rfl (fun k => rfl) ?_
    refine zg_iret rfl rfl zfitI ?_
    exact (by omega : False).elim
  ·
    refine xg_step rfl rfl (fun k => rfl) ?_
    refine xg_get rfl rfl (zha (by decide)) zc_RefM rfl rfl ?_
    refine xg_step rfl rfl (fun k => rfl) ?_
    refine xg_step rfl rfl (fun k => rfl) ?_
    refine zg_ald (.inl ⟨rfl, rfl⟩) (zha (by decide)) zc_r_many (by decide) ⟨by omega, by omega⟩ (zvB (zk_many (by omega)) (by omega)) ?_
    refine xg_step rfl rfl (fun k => rfl) ?_
    refine zg_add rfl ?_
    refine zg_ast (.inl ⟨rfl, rfl⟩) (zha (by decide)) zc_r_many (by decide) ⟨by omega, by omega⟩ (zhwB (zwB (zk_many (by omega)) zw_r_many (by omega))) ?_
    refine xg_step rfl rfl (fun k => rfl) ?_
    refine xg_step rfl rfl (fun k => rfl) ?_
    refine xg_get rfl rfl (zha (by decide)) zc_RefM rfl rfl ?_
    refine xg_step rfl rfl (fun k => rfl) ?_
    refine zg_ald (x := (B (44 + 2 * t) 1) + 1) (.inl ⟨rfl, rfl⟩) (zha (by decide)) zc_r_many (by decide) ⟨by omega, by omega⟩ ((zvB (zk_many (by omega)) (by omega)).trans (zup_eq ⟨by omega, by omega⟩)) ?_
    refine zg_csi rfl rfl (by decide) rfl rfl (Nat.le_of_ble_eq_true rfl) rfl (zq_106 (zRg_up hB (by first | assumption | exact hA _ _ | exact hB _ _ | exact hC _ _ | exact zrg_max (by assumption) (hA _ _) | (constructor <;> omega))) hC) ?_
    refine xg_step rfl rfl (fun k => rfl) ?_
    refine xg_step rfl rfl (fun k => rfl) ?_
    refine xg_get rfl rfl (zha (by decide)) zc_RefM rfl rfl ?_
    refine xg_step rfl rfl (fun k => rfl) ?_
    refine xg_step rfl rfl (fun k => rfl) ?_
    refine zg_ast (.inl ⟨rfl, rfl⟩) (zha (by decide)) zc_r_kinds (by decide) ⟨by omega, by omega⟩ (zhwB (zwB (zk_kinds (by omega) (by omega)) zw_r_kinds (by omega))) ?_
    refine xg_step rfl rfl (fun k => rfl) ?_
    refine xg_get rfl rfl (zha (by decide)) zc_RefM rfl rfl ?_
    refine xg_step rfl rfl (fun k => rfl) ?_
    refine xg_step rfl rfl (fun k => rfl) ?_
    refine zg_ast (.inl ⟨rfl, rfl⟩) (zha (by decide)) zc_r_views (by decide) ⟨by omega, by omega⟩ (zhwB (zwB (zk_views (by omega) (by omega)) zw_r_views (by omega))) ?_
    refine xg_step rfl rfl (fun k => rfl) ?_
    refine xg_get rfl rfl (zha (by decide)) zc_RefM rfl rfl ?_
    refine xg_step rfl rfl (fun k => rfl) ?_
    refine xg_step rfl rfl (fun k => rfl) ?_
    refine zg_ast (.inl ⟨rfl, rfl⟩) (zha (by decide)) zc_r_as (by decide) ⟨by omega, by omega⟩ (zhwB (zwB (zk_as (by omega) (by omega)) zw_r_as (by omega))) ?_
    refine xg_step rfl rfl (fun k => rfl) ?_
    refine xg_get rfl rfl (zha (by decide)) zc_RefM rfl rfl ?_
    refine xg_step rfl rfl (fun k => rfl) ?_
    refine xg_step rfl rfl (fun k => rfl) ?_
    refine zg_ast (.inl ⟨rfl, rfl⟩) (zha (by decide)) zc_r_bs (by decide) ⟨by omega, by omega⟩ (zhwB (zwB (zk_bs (by omega) (by omega)) zw_r_bs (by omega))) ?_
    refine xg_step rfl rfl (fun k => rfl) ?_
    refine xg_get rfl rfl (zha (by decide)) zc_RefM rfl rfl ?_
    refine xg_step rfl rfl (fun k => rfl) ?_
    refine xg_step rfl rfl (fun k => rfl) ?_
    refine xg_get rfl rfl (zha (by decide)) zc_RefM rfl rfl ?_
    refine zg_ast (.inl ⟨rfl, rfl⟩) (zha (by decide)) zc_r_moment (by decide) ⟨by omega, by omega⟩ (zhwB (zwC zk_moment zw_r_moment (by omega))) ?_
    refine xg_step rfl rfl (fun k => rfl) ?_
    refine xg_step rfl rfl (fun k => rfl) ?_
    refine zg_geti (x := C 107 15) rfl rfl (zha (by decide)) zc_RefM rfl (zup_ne (by omega)) ?_
    refine xg_step rfl rfl (fun k => rfl) ?_
    refine zg_add rfl ?_
    refine zg_put rfl rfl (zha (by decide)) zc_RefM (Nat.le_of_ble_eq_true rfl) rfl zfitI rfl (zhwB zw_RefM_15) ?_
    refine xg_step rfl rfl (fun k => rfl) ?_
    refine xg_get rfl rfl (zha (by decide)) zc_RefM rfl rfl ?_
    refine xg_step rfl rfl (fun k => rfl) ?_
    refine zg_ald (x := (B (44 + 2 * t) 1) + 1) (.inl ⟨rfl, rfl⟩) (zha (by decide)) zc_r_many (by decide) ⟨by omega, by omega⟩ ((zvB (zk_many (by omega)) (by omega)).trans ((zup_ne (by omega)).trans ((zup_ne (by omega)).trans ((zup_ne (by omega)).trans ((zup_ne (by omega)).trans (zup_eq ⟨by omega, by omega⟩)))))) ?_
    refine xg_step rfl rfl (fun k => rfl) ?_
    show XG _ _ _ _ _ (zhp A (zmg (zraw B t kd w a b) (zmom C t (B (44 + 2 * t) 1 + 1)))) _
    rw [zgh3 (B2 := zent B t kd w a b) (fun c i hv hn => zent_vis ht h0 hv hn)]
    exact zm_121l hB hC ht h0 hcn hkd hw ha hb hmo hl
set_option maxRecDepth 10000 in
theorem zm_121r {d : Nat} {A B C : ZM} (hB : zRg B) (hC : zRg C) {t kd w a b : Int} (ht : 0 ≤ t ∧ t < 3) (h0 : 0 ≤ B (-2) 0) (hcn : 0 ≤ B (44 + 2 * t) 1 ∧ B (44 + 2 * t) 1 ≤ 100) (hkd : zrg kd) (hw : zrg w) (ha : zrg a) (hb : zrg b) (hmo : 0 ≤ C 107 15 ∧ C 107 15 ≤ 100000) (hl : B (56 + 17 * t) 9 = 0) {B2 C2 : ZM} (hread : XR (d + 1) 122 [.ref 107, zci t, zci t, zci (B (44 + 2 * t) 1 + 1)] (zhp A (zmg (zup (zent B t kd w a b) (59 + 17 * t) t (B (44 + 2 * t) 1 + 1 + 1)) (zmom C t (B (44 + 2 * t) 1 + 1)))) (none, zhp A (zmg B2 C2))) : XG (d + 1) 121 98 [some (.ref 107), some (zci t), some (zci kd), some (zci w), some (zci a), some (zci b), some (zci (101 * t + (B (44 + 2 * t) 1 + 1))), some (zci (B (44 + 2 * t) 1 + 1))] [] (zhp A (zmg (zent B t kd w a b) (zmom C t (B (44 + 2 * t) 1 + 1)))) (some (zci (B (44 + 2 * t) 1 + 1)), zhp A (zmg B2 C2)) := by
  refine xg_step rfl rfl (fun k => rfl) ?_
  refine xg_get rfl rfl (zha (by decide)) zc_RefM rfl rfl ?_
  refine xg_step rfl rfl (fun k => rfl) ?_
  refine zg_ald (x := B (56 + 17 * t) 9) (.inr ⟨rfl, rfl⟩) (zha (by decide)) zc_r_lied (by decide) ⟨by omega, by omega⟩ ((zvB (zk_lied (by omega)) (by omega)).trans ((zent_keep ht h0 (by unfold zfm2; omega) (by omega) (by omega) (by omega)))) ?_
  refine zg_eq0 rfl rfl (fun x k => rfl) (by first | assumption | exact hA _ _ | exact hB _ _ | exact hC _ _ | exact zrg_max (by assumption) (hA _ _) | (constructor <;> omega)) (fun hc => ?_) (fun hc => ?_)
  ·
    refine xg_step rfl rfl (fun k => rfl) ?_
    refine xg_get rfl rfl (zha (by decide)) zc_RefM rfl rfl ?_
    refine xg_step rfl rfl (fun k => rfl) ?_
    refine xg_step rfl rfl (fun k => rfl) ?_
    refine zg_mul rfl ?_
    refine xg_step rfl rfl (fun k => rfl) ?_
    refine zg_add rfl ?_
    refine xg_step rfl rfl (fun k => rfl) ?_
    refine xg_step rfl rfl (fun k => rfl) ?_
    refine zg_add rfl ?_
    refine zg_ast (.inl ⟨rfl, rfl⟩) (zha (by decide)) zc_r_next (by decide) ⟨by omega, by omega⟩ (zhwB (zwB (zk_next (by omega) (by omega)) zw_r_next (by omega))) ?_
    refine xg_step rfl rfl (fun k => rfl) ?_
    refine xg_step rfl rfl (fun k => rfl) ?_
    refine xg_step rfl rfl (fun k => rfl) ?_
    refine xg_step rfl rfl (fun k => rfl) ?_
    refine zg_cvv rfl rfl rfl (Nat.le_of_ble_eq_true rfl) (zha (by decide)) zc_RefM rfl rfl hread ?_
    refine xg_step rfl rfl (fun k => rfl) ?_
    refine zg_iret rfl rfl zfitI ?_
    first | rfl | exact (by omega : False).elim
  ·
    refine xg_step rfl rfl (fun k => rfl) ?_
    refine zg_iret rfl rfl zfitI ?_
    first | rfl | exact (by omega : False).elim
set_option maxRecDepth 10000 in
theorem zq_121r {d : Nat} {A B C : ZM} (hB : zRg B) (hC : zRg C) {t kd w a b : Int} (ht : 0 ≤ t ∧ t < 3) (h0 : 0 ≤ B (-2) 0) (hcn : 0 ≤ B (44 + 2 * t) 1 ∧ B (44 + 2 * t) 1 ≤ 100) (hkd : zrg kd) (hw : zrg w) (ha : zrg a) (hb : zrg b) (hmo : 0 ≤ C 107 15 ∧ C 107 15 ≤ 100000) (hf : ¬ B (44 + 2 * t) 1 = 100) (hl : B (56 + 17 * t) 9 = 0) {B2 C2 : ZM} (hread : XR (d + 1) 122 [.ref 107, zci t, zci t, zci (B (44 + 2 * t) 1 + 1)] (zhp A (zmg (zup (zent B t kd w a b) (59 + 17 * t) t (B (44 + 2 * t) 1 + 1 + 1)) (zmom C t (B (44 + 2 * t) 1 + 1)))) (none, zhp A (zmg B2 C2))) : XR (d + 2) 121 [.ref 107, zci (t), zci (kd), zci (w), zci (a), zci (b)] (zhp A (zmg B C)) (some (zci (B (44 + 2 * t) 1 + 1)), zhp A (zmg B2 C2)) := by
  refine XR.of (Nat.le_of_ble_eq_true rfl) rfl ?_
  refine xg_step rfl rfl (fun k => rfl) ?_
  refine xg_get rfl rfl (zha (by decide)) zc_RefM rfl rfl ?_
  refine xg_step rfl rfl (fun k => rfl) ?_
  refine zg_ald (.inl ⟨rfl, rfl⟩) (zha (by decide)) zc_r_many (by decide) ⟨by omega, by omega⟩ (zvB (zk_many (by omega)) (by omega)) ?_
  refine zg_bi rfl (by decide) ?_
  refine zg_eq rfl rfl (fun x y k => rfl) (by first | assumption | exact hA _ _ | exact hB _ _ | exact hC _ _ | exact zrg_max (by assumption) (hA _ _) | (constructor <;> omega)) (by first | assumption | exact hA _ _ | exact hB _ _ | exact hC _ _ | exact zrg_max (by assumption) (hA _ _) | (constructor <;> omega)) (fun hc => ?_) (fun hc => ?_)
  ·
    refine xg_step rfl rfl (fun k => rfl) ?_
    refine zg_iret rfl rfl zfitI ?_
    exact (by omega : False).elim
  ·
    refine xg_step rfl rfl (fun k => rfl) ?_
    refine xg_get rfl rfl (zha (by decide)) zc_RefM rfl rfl ?_
    refine xg_step rfl rfl (fun k => rfl) ?_
    refine xg_step rfl rfl (fun k => rfl) ?_
    refine zg_ald (.inl ⟨rfl, rfl⟩) (zha (by decide)) zc_r_many (by decide) ⟨by omega, by omega⟩ (zvB (zk_many (by omega)) (by omega)) ?_
    refine xg_step rfl rfl (fun k => rfl) ?_
    refine zg_add rfl ?_
    refine zg_ast (.inl ⟨rfl, rfl⟩) (zha (by decide)) zc_r_many (by decide) ⟨by omega, by omega⟩ (zhwB (zwB (zk_many (by omega)) zw_r_many (by omega))) ?_
    refine xg_step rfl rfl (fun k => rfl) ?_
    refine xg_step rfl rfl (fun k => rfl) ?_
    refine xg_get rfl rfl (zha (by decide)) zc_RefM rfl rfl ?_
    refine xg_step rfl rfl (fun k => rfl) ?_
    refine zg_ald (x := (B (44 + 2 * t) 1) + 1) (.inl ⟨rfl, rfl⟩) (zha (by decide)) zc_r_many (by decide) ⟨by omega, by omega⟩ ((zvB (zk_many (by omega)) (by omega)).trans (zup_eq ⟨by omega, by omega⟩)) ?_
    refine zg_csi rfl rfl (by decide) rfl rfl (Nat.le_of_ble_eq_true rfl) rfl (zq_106 (zRg_up hB (by first | assumption | exact hA _ _ | exact hB _ _ | exact hC _ _ | exact zrg_max (by assumption) (hA _ _) | (constructor <;> omega))) hC) ?_
    refine xg_step rfl rfl (fun k => rfl) ?_
    refine xg_step rfl rfl (fun k => rfl) ?_
    refine xg_get rfl rfl (zha (by decide)) zc_RefM rfl rfl ?_
    refine xg_step rfl rfl (fun k => rfl) ?_
    refine xg_step rfl rfl (fun k => rfl) ?_
    refine zg_ast (.inl ⟨rfl, rfl⟩) (zha (by decide)) zc_r_kinds (by decide) ⟨by omega, by omega⟩ (zhwB (zwB (zk_kinds (by omega) (by omega)) zw_r_kinds (by omega))) ?_
    refine xg_step rfl rfl (fun k => rfl) ?_
    refine xg_get rfl rfl (zha (by decide)) zc_RefM rfl rfl ?_
    refine xg_step rfl rfl (fun k => rfl) ?_
    refine xg_step rfl rfl (fun k => rfl) ?_
    refine zg_ast (.inl ⟨rfl, rfl⟩) (zha (by decide)) zc_r_views (by decide) ⟨by omega, by omega⟩ (zhwB (zwB (zk_views (by omega) (by omega)) zw_r_views (by omega))) ?_
    refine xg_step rfl rfl (fun k => rfl) ?_
    refine xg_get rfl rfl (zha (by decide)) zc_RefM rfl rfl ?_
    refine xg_step rfl rfl (fun k => rfl) ?_
    refine xg_step rfl rfl (fun k => rfl) ?_
    refine zg_ast (.inl ⟨rfl, rfl⟩) (zha (by decide)) zc_r_as (by decide) ⟨by omega, by omega⟩ (zhwB (zwB (zk_as (by omega) (by omega)) zw_r_as (by omega))) ?_
    refine xg_step rfl rfl (fun k => rfl) ?_
    refine xg_get rfl rfl (zha (by decide)) zc_RefM rfl rfl ?_
    refine xg_step rfl rfl (fun k => rfl) ?_
    refine xg_step rfl rfl (fun k => rfl) ?_
    refine zg_ast (.inl ⟨rfl, rfl⟩) (zha (by decide)) zc_r_bs (by decide) ⟨by omega, by omega⟩ (zhwB (zwB (zk_bs (by omega) (by omega)) zw_r_bs (by omega))) ?_
    refine xg_step rfl rfl (fun k => rfl) ?_
    refine xg_get rfl rfl (zha (by decide)) zc_RefM rfl rfl ?_
    refine xg_step rfl rfl (fun k => rfl) ?_
    refine xg_step rfl rfl (fun k => rfl) ?_
    refine xg_get rfl rfl (zha (by decide)) zc_RefM rfl rfl ?_
    refine zg_ast (.inl ⟨rfl, rfl⟩) (zha (by decide)) zc_r_moment (by decide) ⟨by omega, by omega⟩ (zhwB (zwC zk_moment zw_r_moment (by omega))) ?_
    refine xg_step rfl rfl (fun k => rfl) ?_
    refine xg_step rfl rfl (fun k => rfl) ?_
    refine zg_geti (x := C 107 15) rfl rfl (zha (by decide)) zc_RefM rfl (zup_ne (by omega)) ?_
    refine xg_step rfl rfl (fun k => rfl) ?_
    refine zg_add rfl ?_
    refine zg_put rfl rfl (zha (by decide)) zc_RefM (Nat.le_of_ble_eq_true rfl) rfl zfitI rfl (zhwB zw_RefM_15) ?_
    refine xg_step rfl rfl (fun k => rfl) ?_
    refine xg_get rfl rfl (zha (by decide)) zc_RefM rfl rfl ?_
    refine xg_step rfl rfl (fun k => rfl) ?_
    refine zg_ald (x := (B (44 + 2 * t) 1) + 1) (.inl ⟨rfl, rfl⟩) (zha (by decide)) zc_r_many (by decide) ⟨by omega, by omega⟩ ((zvB (zk_many (by omega)) (by omega)).trans ((zup_ne (by omega)).trans ((zup_ne (by omega)).trans ((zup_ne (by omega)).trans ((zup_ne (by omega)).trans (zup_eq ⟨by omega, by omega⟩)))))) ?_
    refine xg_step rfl rfl (fun k => rfl) ?_
    show XG _ _ _ _ _ (zhp A (zmg (zraw B t kd w a b) (zmom C t (B (44 + 2 * t) 1 + 1)))) _
    rw [zgh3 (B2 := zent B t kd w a b) (fun c i hv hn => zent_vis ht h0 hv hn)]
    exact zm_121r hB hC ht h0 hcn hkd hw ha hb hmo hl hread
