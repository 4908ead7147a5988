/-! the face, second half -/
theorem zr_66' {d : Nat} {A B : ZM} {s : Int} (hs : 0 ≤ s ∧ s < 3) (hA : zRg A) {r : Int} (hr : 0 ≤ r ∧ r < 60) (h : ¬ A (71 + 17 * s) r = 0) : XR (d + 2) 66 [.ref (67 + 17 * s.toNat), zci r] (zhp A B) (some (zci (A (72 + 17 * s) r)), zhp A B) := zreq (zr_66 hs hA ⟨by omega, by omega⟩) (if_pos ⟨hr, h⟩)
theorem zanf_rg {r s w k l : Int} {A : ZM} (h : zRg A) (hw : zrg w) : zRg (zfi (zanf r s w) k l A) := zfi_keep (P := zRg) (fun k a q => by
  unfold zanf
  split
  · exact zRg_up (zRg_up q ⟨by decide, by decide⟩) hw
  · exact q) _ k l A rfl h
theorem zans_rg {A : ZM} {r s w : Int} (h : zRg A) (hw : zrg w) : zRg (zans A r s w) := zanf_rg (zRg_up (zRg_up h ⟨by decide, by decide⟩) hw) hw
set_option maxRecDepth 10000 in
theorem zr_81 {d : Nat} {A B : ZM} (hA : zRg A) {p r : Int} (hp : 0 ≤ p ∧ p < 3) (hr : 0 ≤ r ∧ r < A 1 6) (hq60 : A 1 6 ≤ 60) (hy : ¬ A (71 + 17 * p) r = 0) : XR (d + 5) 81 [.ref 0, zci (p), zci (r)] (zhp A B) (some (zci (zb2 (¬ zans A r p (A (72 + 17 * p) r) 53 r = 0))), zhp (zans A r p (A (72 + 17 * p) r)) B) := by
  refine XR.of (Nat.le_of_ble_eq_true rfl) rfl ?_
  refine xg_step rfl rfl (fun k => rfl) ?_
  refine zg_csv rfl rfl (by decide) rfl rfl (Nat.le_of_ble_eq_true rfl) rfl (zr_92 hA (by omega)) ?_
  refine xg_step rfl rfl (fun k => rfl) ?_
  refine xg_step rfl rfl (fun k => rfl) ?_
  refine zg_cvv rfl rfl rfl (Nat.le_of_ble_eq_true rfl) (zha (by decide)) zc_House rfl rfl (zr_93 hA (by omega) (by first | assumption | exact hA _ _ | exact hB _ _ | exact zrg_max (by assumption) (hA _ _) | (constructor <;> omega))) ?_
  refine xg_step rfl rfl (fun k => rfl) ?_
  refine xg_get rfl rfl (zha (by decide)) zc_House rfl rfl ?_
  refine xg_step rfl rfl (fun k => rfl) ?_
  refine zg_aald rfl (zha (by decide)) zc_servers (by decide) (by decide) ⟨by omega, by omega⟩ (if_pos (by omega)) ?_
  refine zg_cvi rfl rfl rfl (Nat.le_of_ble_eq_true rfl) (zha (by omega)) (zc_Server hp) rfl rfl (zr_46 hp) ?_
  refine xg_step rfl rfl (fun k => rfl) ?_
  refine xg_step rfl rfl (fun k => rfl) ?_
  refine xg_step rfl rfl (fun k => rfl) ?_
  refine zg_cvb rfl rfl rfl (Nat.le_of_ble_eq_true rfl) (zha (by omega)) (zc_Store hp) rfl rfl (zr_65 hp hA (by first | assumption | exact hA _ _ | exact hB _ _ | exact zrg_max (by assumption) (hA _ _) | (constructor <;> omega))) (fun hc => ?_) (fun hc => ?_)
  ·
    refine xg_step rfl rfl (fun k => rfl) ?_
    refine xg_step rfl rfl (fun k => rfl) ?_
    refine xg_get rfl rfl (zha (by decide)) zc_House rfl rfl ?_
    refine xg_step rfl rfl (fun k => rfl) ?_
    refine xg_step rfl rfl (fun k => rfl) ?_
    refine xg_step rfl rfl (fun k => rfl) ?_
    refine xg_step rfl rfl (fun k => rfl) ?_
    refine zg_cvi rfl rfl rfl (Nat.le_of_ble_eq_true rfl) (zha (by omega)) (zc_Store hp) rfl rfl (zr_66' hp hA (by omega) (by omega)) ?_
    refine zg_cvv rfl rfl rfl (Nat.le_of_ble_eq_true rfl) (zha (by decide)) zc_Answers rfl rfl (zr_1 hA (by omega) hp (hA _ _)) ?_
    refine xg_step rfl rfl (fun k => rfl) ?_
    refine xg_get rfl rfl (zha (by decide)) zc_House rfl rfl ?_
    refine xg_step rfl rfl (fun k => rfl) ?_
    refine zg_cvb rfl rfl rfl (Nat.le_of_ble_eq_true rfl) (zha (by decide)) zc_Answers rfl rfl (zr_2 (zans_rg hA (hA _ _)) (by first | assumption | exact hA _ _ | exact hB _ _ | exact zrg_max (by assumption) (hA _ _) | (constructor <;> omega))) (fun hc => ?_) (fun hc => ?_)
    ·
      refine xg_step rfl rfl (fun k => rfl) ?_
      refine xg_step rfl rfl (fun k => rfl) ?_
      refine xg_step rfl rfl (fun k => rfl) ?_
      refine zg_iret rfl rfl zfitI ?_
      first | exact (by omega : False).elim | exact zl1 (by omega) | exact zl0 (by omega)
    ·
      refine xg_step rfl rfl (fun k => rfl) ?_
      refine xg_step rfl rfl (fun k => rfl) ?_
      refine zg_iret rfl rfl zfitI ?_
      first | exact (by omega : False).elim | exact zl1 (by omega) | exact zl0 (by omega)
  ·
    refine xg_step rfl rfl (fun k => rfl) ?_
    refine xg_step rfl rfl (fun k => rfl) ?_
    refine zg_iret rfl rfl zfitI ?_
    first | exact (by omega : False).elim | exact zl1 (by omega) | exact zl0 (by omega)
set_option maxRecDepth 10000 in
theorem zr_81n {d : Nat} {A B : ZM} (hA : zRg A) {p r : Int} (hp : 0 ≤ p ∧ p < 3) (hr : 0 ≤ r ∧ r < A 1 6) (hq60 : A 1 6 ≤ 60) (hy : A (71 + 17 * p) r = 0) : XR (d + 5) 81 [.ref 0, zci (p), zci (r)] (zhp A B) (some (zci (-1)), zhp A B) := by
  refine XR.of (Nat.le_of_ble_eq_true rfl) rfl ?_
  refine xg_step rfl rfl (fun k => rfl) ?_
  refine zg_csv rfl rfl (by decide) rfl rfl (Nat.le_of_ble_eq_true rfl) rfl (zr_92 hA (by omega)) ?_
  refine xg_step rfl rfl (fun k => rfl) ?_
  refine xg_step rfl rfl (fun k => rfl) ?_
  refine zg_cvv rfl rfl rfl (Nat.le_of_ble_eq_true rfl) (zha (by decide)) zc_House rfl rfl (zr_93 hA (by omega) (by first | assumption | exact hA _ _ | exact hB _ _ | exact zrg_max (by assumption) (hA _ _) | (constructor <;> omega))) ?_
  refine xg_step rfl rfl (fun k => rfl) ?_
  refine xg_get rfl rfl (zha (by decide)) zc_House rfl rfl ?_
  refine xg_step rfl rfl (fun k => rfl) ?_
  refine zg_aald rfl (zha (by decide)) zc_servers (by decide) (by decide) ⟨by omega, by omega⟩ (if_pos (by omega)) ?_
  refine zg_cvi rfl rfl rfl (Nat.le_of_ble_eq_true rfl) (zha (by omega)) (zc_Server hp) rfl rfl (zr_46 hp) ?_
  refine xg_step rfl rfl (fun k => rfl) ?_
  refine xg_step rfl rfl (fun k => rfl) ?_
  refine xg_step rfl rfl (fun k => rfl) ?_
  refine zg_cvb rfl rfl rfl (Nat.le_of_ble_eq_true rfl) (zha (by omega)) (zc_Store hp) rfl rfl (zr_65 hp hA (by first | assumption | exact hA _ _ | exact hB _ _ | exact zrg_max (by assumption) (hA _ _) | (constructor <;> omega))) (fun hc => ?_) (fun hc => ?_)
  ·
    refine xg_step rfl rfl (fun k => rfl) ?_
    exact (by omega : False).elim
  ·
    refine xg_step rfl rfl (fun k => rfl) ?_
    refine xg_step rfl rfl (fun k => rfl) ?_
    refine zg_iret rfl rfl zfitI ?_
    first | rfl | exact (by omega : False).elim
abbrev zLi (A : ZM) (p : Int) : Prop := (0 = p ∨ A (56 + 17 * 0) 9 = 0) ∧ (1 = p ∨ A (56 + 17 * 1) 9 = 0) ∧ (2 = p ∨ A (56 + 17 * 2) 9 = 0)
set_option maxRecDepth 10000 in
theorem zr_82 {d : Nat} {A B : ZM} (hA : zRg A) (hz : ∀ s, 0 ≤ s ∧ s < 3 → A (56 + 17 * s) 9 = 0 ∨ A (56 + 17 * s) 9 = 1) {p : Int} (hp : 0 ≤ p ∧ p < 3) : XR (d + 3) 82 [.ref 0, zci (p)] (zhp A B) (some (zci (zb2 (zLi A p))), zhp (if zLi A p then zup A (56 + 17 * p) 9 1 else A) B) := by
  refine XR.of (Nat.le_of_ble_eq_true rfl) rfl ?_
  refine xg_step rfl rfl (fun k => rfl) ?_
  refine zg_csv rfl rfl (by decide) rfl rfl (Nat.le_of_ble_eq_true rfl) rfl (zr_92 hA (by omega)) ?_
  refine xg_step rfl rfl (fun k => rfl) ?_
  refine xg_step rfl rfl (fun k => rfl) ?_
  refine xg_step rfl rfl (fun k => rfl) ?_
  refine xg_step rfl rfl (fun k => rfl) ?_
  refine xg_step rfl rfl (fun k => rfl) ?_
  refine xg_step rfl rfl (fun k => rfl) ?_
  refine xg_step rfl rfl (fun k => rfl) ?_
  refine zg_eq rfl rfl (fun x y k => rfl) (by first | assumption | exact hA _ _ | exact hB _ _ | exact zrg_max (by assumption) (hA _ _) | (constructor <;> omega)) (by first | assumption | exact hA _ _ | exact hB _ _ | exact zrg_max (by assumption) (hA _ _) | (constructor <;> omega)) (fun hc => ?_) (fun hc => ?_)
  ·
    refine zg_inc (y := 1) rfl rfl (by decide) rfl ?_
    refine xg_step rfl rfl (fun k => rfl) ?_
    refine xg_step rfl rfl (fun k => rfl) ?_
    refine xg_step rfl rfl (fun k => rfl) ?_
    refine xg_step rfl rfl (fun k => rfl) ?_
    refine xg_step rfl rfl (fun k => rfl) ?_
    refine xg_step rfl rfl (fun k => rfl) ?_
    refine zg_eq rfl rfl (fun x y k => rfl) (by first | assumption | exact hA _ _ | exact hB _ _ | exact zrg_max (by assumption) (hA _ _) | (constructor <;> omega)) (by first | assumption | exact hA _ _ | exact hB _ _ | exact zrg_max (by assumption) (hA _ _) | (constructor <;> omega)) (fun hc => ?_) (fun hc => ?_)
    ·
      refine zg_inc (y := 2) rfl rfl (by decide) rfl ?_
      refine xg_step rfl rfl (fun k => rfl) ?_
      refine xg_step rfl rfl (fun k => rfl) ?_
      refine xg_step rfl rfl (fun k => rfl) ?_
      refine xg_step rfl rfl (fun k => rfl) ?_
      refine xg_step rfl rfl (fun k => rfl) ?_
      refine xg_step rfl rfl (fun k => rfl) ?_
      refine zg_eq rfl rfl (fun x y k => rfl) (by first | assumption | exact hA _ _ | exact hB _ _ | exact zrg_max (by assumption) (hA _ _) | (constructor <;> omega)) (by first | assumption | exact hA _ _ | exact hB _ _ | exact zrg_max (by assumption) (hA _ _) | (constructor <;> omega)) (fun hc => ?_) (fun hc => ?_)
      ·
        refine zg_inc (y := 3) rfl rfl (by decide) rfl ?_
        refine xg_step rfl rfl (fun k => rfl) ?_
        refine xg_step rfl rfl (fun k => rfl) ?_
        refine xg_step rfl rfl (fun k => rfl) ?_
        refine xg_step rfl rfl (fun k => rfl) ?_
        refine xg_step rfl rfl (fun k => rfl) ?_
        refine xg_get rfl rfl (zha (by decide)) zc_House rfl rfl ?_
        refine xg_step rfl rfl (fun k => rfl) ?_
        refine zg_aald rfl (zha (by decide)) zc_servers (by decide) (by decide) ⟨by omega, by omega⟩ (if_pos (by omega)) ?_
        refine zg_cvv rfl rfl rfl (Nat.le_of_ble_eq_true rfl) (zha (by omega)) (zc_Server hp) rfl rfl (zr_49 hp hA) ?_
        refine xg_step rfl rfl (fun k => rfl) ?_
        refine zg_iret rfl rfl (zfitZ (by omega)) ?_
        (rw [zb2_t (by simp only [zLi]; omega), if_pos (by simp only [zLi]; omega)])
      ·
        refine xg_step rfl rfl (fun k => rfl) ?_
        refine xg_get rfl rfl (zha (by decide)) zc_House rfl rfl ?_
        refine xg_step rfl rfl (fun k => rfl) ?_
        refine zg_aald rfl (zha (by decide)) zc_servers (by decide) (by decide) ⟨by omega, by omega⟩ (if_pos (by omega)) ?_
        refine zg_cvi rfl rfl rfl (Nat.le_of_ble_eq_true rfl) (zha (by omega)) (zc_Server (by omega)) rfl rfl (zr_45 (by omega) hA (hz _ (by omega))) ?_
        refine zg_eq0 rfl rfl (fun x k => rfl) (by first | assumption | exact hA _ _ | exact hB _ _ | exact zrg_max (by assumption) (hA _ _) | (constructor <;> omega)) (fun hc => ?_) (fun hc => ?_)
        ·
          refine zg_inc (y := 3) rfl rfl (by decide) rfl ?_
          refine xg_step rfl rfl (fun k => rfl) ?_
          refine xg_step rfl rfl (fun k => rfl) ?_
          refine xg_step rfl rfl (fun k => rfl) ?_
          refine xg_step rfl rfl (fun k => rfl) ?_
          refine xg_step rfl rfl (fun k => rfl) ?_
          refine xg_get rfl rfl (zha (by decide)) zc_House rfl rfl ?_
          refine xg_step rfl rfl (fun k => rfl) ?_
          refine zg_aald rfl (zha (by decide)) zc_servers (by decide) (by decide) ⟨by omega, by omega⟩ (if_pos (by omega)) ?_
          refine zg_cvv rfl rfl rfl (Nat.le_of_ble_eq_true rfl) (zha (by omega)) (zc_Server hp) rfl rfl (zr_49 hp hA) ?_
          refine xg_step rfl rfl (fun k => rfl) ?_
          refine zg_iret rfl rfl (zfitZ (by omega)) ?_
          (rw [zb2_t (by simp only [zLi]; omega), if_pos (by simp only [zLi]; omega)])
        ·
          refine xg_step rfl rfl (fun k => rfl) ?_
          refine zg_iret rfl rfl (zfitZ (by omega)) ?_
          (rw [zb2_f (by simp only [zLi]; omega), if_neg (by simp only [zLi]; omega)])
    ·
      refine xg_step rfl rfl (fun k => rfl) ?_
      refine xg_get rfl rfl (zha (by decide)) zc_House rfl rfl ?_
      refine xg_step rfl rfl (fun k => rfl) ?_
      refine zg_aald rfl (zha (by decide)) zc_servers (by decide) (by decide) ⟨by omega, by omega⟩ (if_pos (by omega)) ?_
      refine zg_cvi rfl rfl rfl (Nat.le_of_ble_eq_true rfl) (zha (by omega)) (zc_Server (by omega)) rfl rfl (zr_45 (by omega) hA (hz _ (by omega))) ?_
      refine zg_eq0 rfl rfl (fun x k => rfl) (by first | assumption | exact hA _ _ | exact hB _ _ | exact zrg_max (by assumption) (hA _ _) | (constructor <;> omega)) (fun hc => ?_) (fun hc => ?_)
      ·
        refine zg_inc (y := 2) rfl rfl (by decide) rfl ?_
        refine xg_step rfl rfl (fun k => rfl) ?_
        refine xg_step rfl rfl (fun k => rfl) ?_
        refine xg_step rfl rfl (fun k => rfl) ?_
        refine xg_step rfl rfl (fun k => rfl) ?_
        refine xg_step rfl rfl (fun k => rfl) ?_
        refine xg_step rfl rfl (fun k => rfl) ?_
        refine zg_eq rfl rfl (fun x y k => rfl) (by first | assumption | exact hA _ _ | exact hB _ _ | exact zrg_max (by assumption) (hA _ _) | (constructor <;> omega)) (by first | assumption | exact hA _ _ | exact hB _ _ | exact zrg_max (by assumption) (hA _ _) | (constructor <;> omega)) (fun hc => ?_) (fun hc => ?_)
        ·
          refine zg_inc (y := 3) rfl rfl (by decide) rfl ?_
          refine xg_step rfl rfl (fun k => rfl) ?_
          refine xg_step rfl rfl (fun k => rfl) ?_
          refine xg_step rfl rfl (fun k => rfl) ?_
          refine xg_step rfl rfl (fun k => rfl) ?_
          refine xg_step rfl rfl (fun k => rfl) ?_
          refine xg_get rfl rfl (zha (by decide)) zc_House rfl rfl ?_
          refine xg_step rfl rfl (fun k => rfl) ?_
          refine zg_aald rfl (zha (by decide)) zc_servers (by decide) (by decide) ⟨by omega, by omega⟩ (if_pos (by omega)) ?_
          refine zg_cvv rfl rfl rfl (Nat.le_of_ble_eq_true rfl) (zha (by omega)) (zc_Server hp) rfl rfl (zr_49 hp hA) ?_
          refine xg_step rfl rfl (fun k => rfl) ?_
          refine zg_iret rfl rfl (zfitZ (by omega)) ?_
          (rw [zb2_t (by simp only [zLi]; omega), if_pos (by simp only [zLi]; omega)])
        ·
          refine xg_step rfl rfl (fun k => rfl) ?_
          refine xg_get rfl rfl (zha (by decide)) zc_House rfl rfl ?_
          refine xg_step rfl rfl (fun k => rfl) ?_
          refine zg_aald rfl (zha (by decide)) zc_servers (by decide) (by decide) ⟨by omega, by omega⟩ (if_pos (by omega)) ?_
          refine zg_cvi rfl rfl rfl (Nat.le_of_ble_eq_true rfl) (zha (by omega)) (zc_Server (by omega)) rfl rfl (zr_45 (by omega) hA (hz _ (by omega))) ?_
          refine zg_eq0 rfl rfl (fun x k => rfl) (by first | assumption | exact hA _ _ | exact hB _ _ | exact zrg_max (by assumption) (hA _ _) | (constructor <;> omega)) (fun hc => ?_) (fun hc => ?_)
          ·
            refine zg_inc (y := 3) rfl rfl (by decide) rfl ?_
            refine xg_step rfl rfl (fun k => rfl) ?_
            refine xg_step rfl rfl (fun k => rfl) ?_
            refine xg_step rfl rfl (fun k => rfl) ?_
            refine xg_step rfl rfl (fun k => rfl) ?_
            refine xg_step rfl rfl (fun k => rfl) ?_
            refine xg_get rfl rfl (zha (by decide)) zc_House rfl rfl ?_
            refine xg_step rfl rfl (fun k => rfl) ?_
            refine zg_aald rfl (zha (by decide)) zc_servers (by decide) (by decide) ⟨by omega, by omega⟩ (if_pos (by omega)) ?_
            refine zg_cvv rfl rfl rfl (Nat.le_of_ble_eq_true rfl) (zha (by omega)) (zc_Server hp) rfl rfl (zr_49 hp hA) ?_
            refine xg_step rfl rfl (fun k => rfl) ?_
            refine zg_iret rfl rfl (zfitZ (by omega)) ?_
            (rw [zb2_t (by simp only [zLi]; omega), if_pos (by simp only [zLi]; omega)])
          ·
            refine xg_step rfl rfl (fun k => rfl) ?_
            refine zg_iret rfl rfl (zfitZ (by omega)) ?_
            (rw [zb2_f (by simp only [zLi]; omega), if_neg (by simp only [zLi]; omega)])
      ·
        refine xg_step rfl rfl (fun k => rfl) ?_
        refine zg_iret rfl rfl (zfitZ (by omega)) ?_
        (rw [zb2_f (by simp only [zLi]; omega), if_neg (by simp only [zLi]; omega)])
  ·
    refine xg_step rfl rfl (fun k => rfl) ?_
    refine xg_get rfl rfl (zha (by decide)) zc_House rfl rfl ?_
    refine xg_step rfl rfl (fun k => rfl) ?_
    refine zg_aald rfl (zha (by decide)) zc_servers (by decide) (by decide) ⟨by omega, by omega⟩ (if_pos (by omega)) ?_
    refine zg_cvi rfl rfl rfl (Nat.le_of_ble_eq_true rfl) (zha (by omega)) (zc_Server (by omega)) rfl rfl (zr_45 (by omega) hA (hz _ (by omega))) ?_
    refine zg_eq0 rfl rfl (fun x k => rfl) (by first | assumption | exact hA _ _ | exact hB _ _ | exact zrg_max (by assumption) (hA _ _) | (constructor <;> omega)) (fun hc => ?_) (fun hc => ?_)
    ·
      refine zg_inc (y := 1) rfl rfl (by decide) rfl ?_
      refine xg_step rfl rfl (fun k => rfl) ?_
      refine xg_step rfl rfl (fun k => rfl) ?_
      refine xg_step rfl rfl (fun k => rfl) ?_
      refine xg_step rfl rfl (fun k => rfl) ?_
      refine xg_step rfl rfl (fun k => rfl) ?_
      refine xg_step rfl rfl (fun k => rfl) ?_
      refine zg_eq rfl rfl (fun x y k => rfl) (by first | assumption | exact hA _ _ | exact hB _ _ | exact zrg_max (by assumption) (hA _ _) | (constructor <;> omega)) (by first | assumption | exact hA _ _ | exact hB _ _ | exact zrg_max (by assumption) (hA _ _) | (constructor <;> omega)) (fun hc => ?_) (fun hc => ?_)
      ·
        refine zg_inc (y := 2) rfl rfl (by decide) rfl ?_
        refine xg_step rfl rfl (fun k => rfl) ?_
        refine xg_step rfl rfl (fun k => rfl) ?_
        refine xg_step rfl rfl (fun k => rfl) ?_
        refine xg_step rfl rfl (fun k => rfl) ?_
        refine xg_step rfl rfl (fun k => rfl) ?_
        refine xg_step rfl rfl (fun k => rfl) ?_
        refine zg_eq rfl rfl (fun x y k => rfl) (by first | assumption | exact hA _ _ | exact hB _ _ | exact zrg_max (by assumption) (hA _ _) | (constructor <;> omega)) (by first | assumption | exact hA _ _ | exact hB _ _ | exact zrg_max (by assumption) (hA _ _) | (constructor <;> omega)) (fun hc => ?_) (fun hc => ?_)
        ·
          refine zg_inc (y := 3) rfl rfl (by decide) rfl ?_
          refine xg_step rfl rfl (fun k => rfl) ?_
          refine xg_step rfl rfl (fun k => rfl) ?_
          refine xg_step rfl rfl (fun k => rfl) ?_
          refine xg_step rfl rfl (fun k => rfl) ?_
          refine xg_step rfl rfl (fun k => rfl) ?_
          refine xg_get rfl rfl (zha (by decide)) zc_House rfl rfl ?_
          refine xg_step rfl rfl (fun k => rfl) ?_
          refine zg_aald rfl (zha (by decide)) zc_servers (by decide) (by decide) ⟨by omega, by omega⟩ (if_pos (by omega)) ?_
          refine zg_cvv rfl rfl rfl (Nat.le_of_ble_eq_true rfl) (zha (by omega)) (zc_Server hp) rfl rfl (zr_49 hp hA) ?_
          refine xg_step rfl rfl (fun k => rfl) ?_
          refine zg_iret rfl rfl (zfitZ (by omega)) ?_
          (rw [zb2_t (by simp only [zLi]; omega), if_pos (by simp only [zLi]; omega)])
        ·
          refine xg_step rfl rfl (fun k => rfl) ?_
          refine xg_get rfl rfl (zha (by decide)) zc_House rfl rfl ?_
          refine xg_step rfl rfl (fun k => rfl) ?_
          refine zg_aald rfl (zha (by decide)) zc_servers (by decide) (by decide) ⟨by omega, by omega⟩ (if_pos (by omega)) ?_
          refine zg_cvi rfl rfl rfl (Nat.le_of_ble_eq_true rfl) (zha (by omega)) (zc_Server (by omega)) rfl rfl (zr_45 (by omega) hA (hz _ (by omega))) ?_
          refine zg_eq0 rfl rfl (fun x k => rfl) (by first | assumption | exact hA _ _ | exact hB _ _ | exact zrg_max (by assumption) (hA _ _) | (constructor <;> omega)) (fun hc => ?_) (fun hc => ?_)
          ·
            refine zg_inc (y := 3) rfl rfl (by decide) rfl ?_
            refine xg_step rfl rfl (fun k => rfl) ?_
            refine xg_step rfl rfl (fun k => rfl) ?_
            refine xg_step rfl rfl (fun k => rfl) ?_
            refine xg_step rfl rfl (fun k => rfl) ?_
            refine xg_step rfl rfl (fun k => rfl) ?_
            refine xg_get rfl rfl (zha (by decide)) zc_House rfl rfl ?_
            refine xg_step rfl rfl (fun k => rfl) ?_
            refine zg_aald rfl (zha (by decide)) zc_servers (by decide) (by decide) ⟨by omega, by omega⟩ (if_pos (by omega)) ?_
            refine zg_cvv rfl rfl rfl (Nat.le_of_ble_eq_true rfl) (zha (by omega)) (zc_Server hp) rfl rfl (zr_49 hp hA) ?_
            refine xg_step rfl rfl (fun k => rfl) ?_
            refine zg_iret rfl rfl (zfitZ (by omega)) ?_
            (rw [zb2_t (by simp only [zLi]; omega), if_pos (by simp only [zLi]; omega)])
          ·
            refine xg_step rfl rfl (fun k => rfl) ?_
            refine zg_iret rfl rfl (zfitZ (by omega)) ?_
            (rw [zb2_f (by simp only [zLi]; omega), if_neg (by simp only [zLi]; omega)])
      ·
        refine xg_step rfl rfl (fun k => rfl) ?_
        refine xg_get rfl rfl (zha (by decide)) zc_House rfl rfl ?_
        refine xg_step rfl rfl (fun k => rfl) ?_
        refine zg_aald rfl (zha (by decide)) zc_servers (by decide) (by decide) ⟨by omega, by omega⟩ (if_pos (by omega)) ?_
        refine zg_cvi rfl rfl rfl (Nat.le_of_ble_eq_true rfl) (zha (by omega)) (zc_Server (by omega)) rfl rfl (zr_45 (by omega) hA (hz _ (by omega))) ?_
        refine zg_eq0 rfl rfl (fun x k => rfl) (by first | assumption | exact hA _ _ | exact hB _ _ | exact zrg_max (by assumption) (hA _ _) | (constructor <;> omega)) (fun hc => ?_) (fun hc => ?_)
        ·
          refine zg_inc (y := 2) rfl rfl (by decide) rfl ?_
          refine xg_step rfl rfl (fun k => rfl) ?_
          refine xg_step rfl rfl (fun k => rfl) ?_
          refine xg_step rfl rfl (fun k => rfl) ?_
          refine xg_step rfl rfl (fun k => rfl) ?_
          refine xg_step rfl rfl (fun k => rfl) ?_
          refine xg_step rfl rfl (fun k => rfl) ?_
          refine zg_eq rfl rfl (fun x y k => rfl) (by first | assumption | exact hA _ _ | exact hB _ _ | exact zrg_max (by assumption) (hA _ _) | (constructor <;> omega)) (by first | assumption | exact hA _ _ | exact hB _ _ | exact zrg_max (by assumption) (hA _ _) | (constructor <;> omega)) (fun hc => ?_) (fun hc => ?_)
          ·
            refine zg_inc (y := 3) rfl rfl (by decide) rfl ?_
            refine xg_step rfl rfl (fun k => rfl) ?_
            refine xg_step rfl rfl (fun k => rfl) ?_
            refine xg_step rfl rfl (fun k => rfl) ?_
            refine xg_step rfl rfl (fun k => rfl) ?_
            refine xg_step rfl rfl (fun k => rfl) ?_
            refine xg_get rfl rfl (zha (by decide)) zc_House rfl rfl ?_
            refine xg_step rfl rfl (fun k => rfl) ?_
            refine zg_aald rfl (zha (by decide)) zc_servers (by decide) (by decide) ⟨by omega, by omega⟩ (if_pos (by omega)) ?_
            refine zg_cvv rfl rfl rfl (Nat.le_of_ble_eq_true rfl) (zha (by omega)) (zc_Server hp) rfl rfl (zr_49 hp hA) ?_
            refine xg_step rfl rfl (fun k => rfl) ?_
            refine zg_iret rfl rfl (zfitZ (by omega)) ?_
            (rw [zb2_t (by simp only [zLi]; omega), if_pos (by simp only [zLi]; omega)])
          ·
            refine xg_step rfl rfl (fun k => rfl) ?_
            refine xg_get rfl rfl (zha (by decide)) zc_House rfl rfl ?_
            refine xg_step rfl rfl (fun k => rfl) ?_
            refine zg_aald rfl (zha (by decide)) zc_servers (by decide) (by decide) ⟨by omega, by omega⟩ (if_pos (by omega)) ?_
            refine zg_cvi rfl rfl rfl (Nat.le_of_ble_eq_true rfl) (zha (by omega)) (zc_Server (by omega)) rfl rfl (zr_45 (by omega) hA (hz _ (by omega))) ?_
            refine zg_eq0 rfl rfl (fun x k => rfl) (by first | assumption | exact hA _ _ | exact hB _ _ | exact zrg_max (by assumption) (hA _ _) | (constructor <;> omega)) (fun hc => ?_) (fun hc => ?_)
            ·
              refine zg_inc (y := 3) rfl rfl (by decide) rfl ?_
              refine xg_step rfl rfl (fun k => rfl) ?_
              refine xg_step rfl rfl (fun k => rfl) ?_
              refine xg_step rfl rfl (fun k => rfl) ?_
              refine xg_step rfl rfl (fun k => rfl) ?_
              refine xg_step rfl rfl (fun k => rfl) ?_
              refine xg_get rfl rfl (zha (by decide)) zc_House rfl rfl ?_
              refine xg_step rfl rfl (fun k => rfl) ?_
              refine zg_aald rfl (zha (by decide)) zc_servers (by decide) (by decide) ⟨by omega, by omega⟩ (if_pos (by omega)) ?_
              refine zg_cvv rfl rfl rfl (Nat.le_of_ble_eq_true rfl) (zha (by omega)) (zc_Server hp) rfl rfl (zr_49 hp hA) ?_
              refine xg_step rfl rfl (fun k => rfl) ?_
              refine zg_iret rfl rfl (zfitZ (by omega)) ?_
              (rw [zb2_t (by simp only [zLi]; omega), if_pos (by simp only [zLi]; omega)])
            ·
              refine xg_step rfl rfl (fun k => rfl) ?_
              refine zg_iret rfl rfl (zfitZ (by omega)) ?_
              (rw [zb2_f (by simp only [zLi]; omega), if_neg (by simp only [zLi]; omega)])
        ·
          refine xg_step rfl rfl (fun k => rfl) ?_
          refine zg_iret rfl rfl (zfitZ (by omega)) ?_
          (rw [zb2_f (by simp only [zLi]; omega), if_neg (by simp only [zLi]; omega)])
    ·
      refine xg_step rfl rfl (fun k => rfl) ?_
      refine zg_iret rfl rfl (zfitZ (by omega)) ?_
      (rw [zb2_f (by simp only [zLi]; omega), if_neg (by simp only [zLi]; omega)])
set_option maxRecDepth 10000 in
theorem zr_83 {d : Nat} {A B : ZM} (hG : zG A) (hz : ∀ s, 0 ≤ s ∧ s < 3 → A (56 + 17 * s) 9 = 0 ∨ A (56 + 17 * s) 9 = 1) {p kd v a b : Int} (hp : 0 ≤ p ∧ p < 3) (hl : ¬ A (56 + 17 * p) 9 = 0) (hkd : 0 ≤ kd ∧ kd < 4) (hv : 0 ≤ v ∧ v < 31) (ha : zCS A kd a) (hb : (kd = 3 ∧ zCS A 3 b) ∨ (¬ kd = 3 ∧ b = 0)) (har : zrg a) (hbr : zrg b) (hq : A 1 6 ≤ 60) : XR (d + 6) 83 [.ref 0, zci (p), zci (kd), zci (v), zci (a), zci (b)] (zhp A B) (some (zci (if A (44 + 2 * p) 1 < 100 then A (44 + 2 * p) 1 + 1 else -1)), zhp (zentF A p kd v a b) B) := by
  have hA := hG.1
  have ha1 : 0 ≤ a ∧ a < 1000 := by simp only [zCS] at ha; omega
  have hb1 : 0 ≤ b ∧ b < 1000 := by simp only [zCS] at hb; omega
  refine XR.of (Nat.le_of_ble_eq_true rfl) rfl ?_
  refine xg_step rfl rfl (fun k => rfl) ?_
  refine zg_csv rfl rfl (by decide) rfl rfl (Nat.le_of_ble_eq_true rfl) rfl (zr_92 hA (by omega)) ?_
  refine xg_step rfl rfl (fun k => rfl) ?_
  refine xg_step rfl rfl (fun k => rfl) ?_
  refine zg_cvv rfl rfl rfl (Nat.le_of_ble_eq_true rfl) (zha (by decide)) zc_House rfl rfl (zr_97 hA (by omega) hz (by assumption)) ?_
  refine xg_step rfl rfl (fun k => rfl) ?_
  refine zg_lt0 rfl rfl (fun x k => rfl) (by first | assumption | exact hA _ _ | exact hB _ _ | exact zrg_max (by assumption) (hA _ _) | (constructor <;> omega)) (fun hc => ?_) (fun hc => ?_)
  ·
    exact (by first | omega | contradiction | (rcases hb with ⟨q1, q2⟩ | ⟨q1, q2⟩ <;> first | contradiction | omega) : False).elim
  ·
    refine xg_step rfl rfl (fun k => rfl) ?_
    refine xg_step rfl rfl (fun k => rfl) ?_
    refine zg_gt rfl rfl (fun x y k => rfl) (by first | assumption | exact hA _ _ | exact hB _ _ | exact zrg_max (by assumption) (hA _ _) | (constructor <;> omega)) (by first | assumption | exact hA _ _ | exact hB _ _ | exact zrg_max (by assumption) (hA _ _) | (constructor <;> omega)) (fun hc => ?_) (fun hc => ?_)
    ·
      exact (by first | omega | contradiction | (rcases hb with ⟨q1, q2⟩ | ⟨q1, q2⟩ <;> first | contradiction | omega) : False).elim
    ·
      refine xg_step rfl rfl (fun k => rfl) ?_
      refine zg_csv rfl rfl (by decide) rfl rfl (Nat.le_of_ble_eq_true rfl) rfl (zr_96 hA (by omega)) ?_
      refine xg_step rfl rfl (fun k => rfl) ?_
      refine xg_step rfl rfl (fun k => rfl) ?_
      refine xg_step rfl rfl (fun k => rfl) ?_
      refine zg_cvb rfl rfl rfl (Nat.le_of_ble_eq_true rfl) (zha (by decide)) zc_House rfl rfl (zr_98 hA (by omega) ⟨by omega, by omega⟩ (by first | assumption | exact hA _ _ | exact hB _ _ | exact zrg_max (by assumption) (hA _ _) | (constructor <;> omega))) (fun hc => ?_) (fun hc => ?_)
      ·
        refine xg_step rfl rfl (fun k => rfl) ?_
        refine xg_step rfl rfl (fun k => rfl) ?_
        refine xg_step rfl rfl (fun k => rfl) ?_
        refine zg_eq rfl rfl (fun x y k => rfl) (by first | assumption | exact hA _ _ | exact hB _ _ | exact zrg_max (by assumption) (hA _ _) | (constructor <;> omega)) (by first | assumption | exact hA _ _ | exact hB _ _ | exact zrg_max (by assumption) (hA _ _) | (constructor <;> omega)) (fun hc => ?_) (fun hc => ?_)
        ·
          refine xg_step rfl rfl (fun k => rfl) ?_
          refine xg_step rfl rfl (fun k => rfl) ?_
          refine xg_step rfl rfl (fun k => rfl) ?_
          refine zg_cvb rfl rfl rfl (Nat.le_of_ble_eq_true rfl) (zha (by decide)) zc_House rfl rfl (zr_98 hA (by omega) ⟨by omega, by omega⟩ (by first | assumption | exact hA _ _ | exact hB _ _ | exact zrg_max (by assumption) (hA _ _) | (constructor <;> omega))) (fun hc => ?_) (fun hc => ?_)
          ·
            refine xg_step rfl rfl (fun k => rfl) ?_
            refine xg_step rfl rfl (fun k => rfl) ?_
            refine xg_get rfl rfl (zha (by decide)) zc_House rfl rfl ?_
            refine xg_step rfl rfl (fun k => rfl) ?_
            refine xg_step rfl rfl (fun k => rfl) ?_
            refine xg_step rfl rfl (fun k => rfl) ?_
            refine xg_step rfl rfl (fun k => rfl) ?_
            refine xg_step rfl rfl (fun k => rfl) ?_
            refine zg_cvi rfl rfl rfl (Nat.le_of_ble_eq_true rfl) (zha (by decide)) zc_Book rfl rfl (zr_11 hG hp (by omega) (by omega) (by omega) (by omega)) ?_
            refine zg_iret rfl rfl zfitI ?_
            first | rfl | exact (by first | omega | contradiction | (rcases hb with ⟨q1, q2⟩ | ⟨q1, q2⟩ <;> first | contradiction | omega) : False).elim
          ·
            refine xg_step rfl rfl (fun k => rfl) ?_
            refine xg_step rfl rfl (fun k => rfl) ?_
            exact (by first | omega | contradiction | (rcases hb with ⟨q1, q2⟩ | ⟨q1, q2⟩ <;> first | contradiction | omega) : False).elim
        ·
          refine xg_step rfl rfl (fun k => rfl) ?_
          refine zg_eq0 rfl rfl (fun x k => rfl) (by first | assumption | exact hA _ _ | exact hB _ _ | exact zrg_max (by assumption) (hA _ _) | (constructor <;> omega)) (fun hc => ?_) (fun hc => ?_)
          ·
            refine xg_step rfl rfl (fun k => rfl) ?_
            refine xg_get rfl rfl (zha (by decide)) zc_House rfl rfl ?_
            refine xg_step rfl rfl (fun k => rfl) ?_
            refine xg_step rfl rfl (fun k => rfl) ?_
            refine xg_step rfl rfl (fun k => rfl) ?_
            refine xg_step rfl rfl (fun k => rfl) ?_
            refine xg_step rfl rfl (fun k => rfl) ?_
            refine zg_cvi rfl rfl rfl (Nat.le_of_ble_eq_true rfl) (zha (by decide)) zc_Book rfl rfl (zr_11 hG hp (by omega) (by omega) (by omega) (by omega)) ?_
            refine zg_iret rfl rfl zfitI ?_
            first | rfl | exact (by first | omega | contradiction | (rcases hb with ⟨q1, q2⟩ | ⟨q1, q2⟩ <;> first | contradiction | omega) : False).elim
          ·
            exact (by first | omega | contradiction | (rcases hb with ⟨q1, q2⟩ | ⟨q1, q2⟩ <;> first | contradiction | omega) : False).elim
      ·
        refine xg_step rfl rfl (fun k => rfl) ?_
        exact (by first | omega | contradiction | (rcases hb with ⟨q1, q2⟩ | ⟨q1, q2⟩ <;> first | contradiction | omega) : False).elim
set_option maxRecDepth 10000 in
theorem zr_84 {d : Nat} {A B : ZM} (hA : zRg A) (hz : ∀ s, 0 ≤ s ∧ s < 3 → A (56 + 17 * s) 9 = 0 ∨ A (56 + 17 * s) 9 = 1) {p v : Int} (hp : 0 ≤ p ∧ p < 3) (hl : ¬ A (56 + 17 * p) 9 = 0) (hv : 0 ≤ v ∧ v < 31) (hidp : A (56 + 17 * p) 0 = p) : XR (d + 3) 84 [.ref 0, zci (p), zci (v)] (zhp A B) (none, zhp (zup A (66 + 17 * p) p v) B) := by
  refine XR.of (Nat.le_of_ble_eq_true rfl) rfl ?_
  refine xg_step rfl rfl (fun k => rfl) ?_
  refine zg_csv rfl rfl (by decide) rfl rfl (Nat.le_of_ble_eq_true rfl) rfl (zr_92 hA (by omega)) ?_
  refine xg_step rfl rfl (fun k => rfl) ?_
  refine xg_step rfl rfl (fun k => rfl) ?_
  refine zg_cvv rfl rfl rfl (Nat.le_of_ble_eq_true rfl) (zha (by decide)) zc_House rfl rfl (zr_97 hA (by omega) hz (by assumption)) ?_
  refine xg_step rfl rfl (fun k => rfl) ?_
  refine zg_csv rfl rfl (by decide) rfl rfl (Nat.le_of_ble_eq_true rfl) rfl (zr_96 hA (by omega)) ?_
  refine xg_step rfl rfl (fun k => rfl) ?_
  refine xg_get rfl rfl (zha (by decide)) zc_House rfl rfl ?_
  refine xg_step rfl rfl (fun k => rfl) ?_
  refine zg_aald rfl (zha (by decide)) zc_servers (by decide) (by decide) ⟨by omega, by omega⟩ (if_pos (by omega)) ?_
  refine xg_step rfl rfl (fun k => rfl) ?_
  refine zg_cvv rfl rfl rfl (Nat.le_of_ble_eq_true rfl) (zha (by omega)) (zc_Server hp) rfl rfl (zr_50 hp hA hidp) ?_
  refine zg_ret rfl rfl ?_
  first | rfl | exact (by omega : False).elim
set_option maxRecDepth 10000 in
theorem zr_85 {d : Nat} {A B : ZM} (hA : zRg A) (hz : ∀ s, 0 ≤ s ∧ s < 3 → A (56 + 17 * s) 9 = 0 ∨ A (56 + 17 * s) 9 = 1) {p r w : Int} (hp : 0 ≤ p ∧ p < 3) (hl : ¬ A (56 + 17 * p) 9 = 0) (hr : 0 ≤ r ∧ r < A 1 6) (hq60 : A 1 6 ≤ 60) : XR (d + 3) 85 [.ref 0, zci (p), zci (r), zci (w)] (zhp A B) (none, zhp (zup (zup A (71 + 17 * p) r 1) (72 + 17 * p) r w) B) := by
  refine XR.of (Nat.le_of_ble_eq_true rfl) rfl ?_
  refine xg_step rfl rfl (fun k => rfl) ?_
  refine zg_csv rfl rfl (by decide) rfl rfl (Nat.le_of_ble_eq_true rfl) rfl (zr_92 hA (by omega)) ?_
  refine xg_step rfl rfl (fun k => rfl) ?_
  refine xg_step rfl rfl (fun k => rfl) ?_
  refine zg_cvv rfl rfl rfl (Nat.le_of_ble_eq_true rfl) (zha (by decide)) zc_House rfl rfl (zr_93 hA (by omega) (by first | assumption | exact hA _ _ | exact hB _ _ | exact zrg_max (by assumption) (hA _ _) | (constructor <;> omega))) ?_
  refine xg_step rfl rfl (fun k => rfl) ?_
  refine xg_step rfl rfl (fun k => rfl) ?_
  refine zg_cvv rfl rfl rfl (Nat.le_of_ble_eq_true rfl) (zha (by decide)) zc_House rfl rfl (zr_97 hA (by omega) hz (by assumption)) ?_
  refine xg_step rfl rfl (fun k => rfl) ?_
  refine xg_get rfl rfl (zha (by decide)) zc_House rfl rfl ?_
  refine xg_step rfl rfl (fun k => rfl) ?_
  refine zg_aald rfl (zha (by decide)) zc_servers (by decide) (by decide) ⟨by omega, by omega⟩ (if_pos (by omega)) ?_
  refine zg_cvi rfl rfl rfl (Nat.le_of_ble_eq_true rfl) (zha (by omega)) (zc_Server hp) rfl rfl (zr_46 hp) ?_
  refine xg_step rfl rfl (fun k => rfl) ?_
  refine xg_step rfl rfl (fun k => rfl) ?_
  refine zg_cvv rfl rfl rfl (Nat.le_of_ble_eq_true rfl) (zha (by omega)) (zc_Store hp) rfl rfl (zr_67' hp hA (by omega)) ?_
  refine zg_ret rfl rfl ?_
  first | rfl | exact (by omega : False).elim
def zsta (A : ZM) (p w : Int) : Int := if w = 0 then A (56 + 17 * p) 7 else if w = 1 then A (56 + 17 * p) 8 else if w = 2 then A (44 + 2 * p) 1 else if w = 3 then A (67 + 17 * p) 6 else if w = 4 then A (56 + 17 * p) 9 else if w = 5 then A (66 + 17 * p) p else if w ≤ 8 then A (59 + 17 * p) (w - 6) else A (68 + 17 * p) (w - 9)
set_option maxRecDepth 10000 in
theorem zr_86 {d : Nat} {A B : ZM} (hA : zRg A) (hz : ∀ s, 0 ≤ s ∧ s < 3 → A (56 + 17 * s) 9 = 0 ∨ A (56 + 17 * s) 9 = 1) (hz8 : ∀ s, 0 ≤ s ∧ s < 3 → A (56 + 17 * s) 8 = 0 ∨ A (56 + 17 * s) 8 = 1) {p w : Int} (hp : 0 ≤ p ∧ p < 3) (hw : 0 ≤ w ∧ w < 13) (hidp : A (56 + 17 * p) 0 = p) : XR (d + 3) 86 [.ref 0, zci (p), zci (w)] (zhp A B) (some (zci (zsta A p w)), zhp A B) := by
  have hz1 := hz p hp
  have hz2 := hz8 p hp
  refine XR.of (Nat.le_of_ble_eq_true rfl) rfl ?_
  refine xg_step rfl rfl (fun k => rfl) ?_
  refine zg_csv rfl rfl (by decide) rfl rfl (Nat.le_of_ble_eq_true rfl) rfl (zr_92 hA (by omega)) ?_
  refine xg_step rfl rfl (fun k => rfl) ?_
  refine xg_get rfl rfl (zha (by decide)) zc_House rfl rfl ?_
  refine xg_step rfl rfl (fun k => rfl) ?_
  refine zg_aald rfl (zha (by decide)) zc_servers (by decide) (by decide) ⟨by omega, by omega⟩ (if_pos (by omega)) ?_
  refine xg_step rfl rfl (fun k => rfl) ?_
  refine xg_step rfl rfl (fun k => rfl) ?_
  refine zg_swi 0 rfl rfl (fun k => rfl) (fun hc => ?_) (fun hc => ?_)
  ·
    refine xg_step rfl rfl (fun k => rfl) ?_
    refine zg_cvi rfl rfl rfl (Nat.le_of_ble_eq_true rfl) (zha (by omega)) (zc_Server hp) rfl rfl (zr_43 hp hA) ?_
    refine zg_iret rfl rfl zfitI ?_
    first | exact (by omega : False).elim | (refine congrArg (fun x => (some (zci x), zhp A B)) ?_; unfold zsta; (repeat' split) <;> first | rfl | omega)
  refine zg_swi 1 rfl rfl (fun k => rfl) (fun hc => ?_) (fun hc => ?_)
  ·
    refine xg_step rfl rfl (fun k => rfl) ?_
    refine zg_cvi rfl rfl rfl (Nat.le_of_ble_eq_true rfl) (zha (by omega)) (zc_Server hp) rfl rfl (zr_44 hp hA (hz8 _ (by omega))) ?_
    refine zg_eq0 rfl rfl (fun x k => rfl) (by first | assumption | exact hA _ _ | exact hB _ _ | exact zrg_max (by assumption) (hA _ _) | (constructor <;> omega)) (fun hc => ?_) (fun hc => ?_)
    ·
      refine xg_step rfl rfl (fun k => rfl) ?_
      refine zg_iret rfl rfl zfitI ?_
      first | exact (by omega : False).elim | (refine congrArg (fun x => (some (zci x), zhp A B)) ?_; unfold zsta; (repeat' split) <;> first | rfl | omega)
    ·
      refine xg_step rfl rfl (fun k => rfl) ?_
      refine xg_step rfl rfl (fun k => rfl) ?_
      refine zg_iret rfl rfl zfitI ?_
      first | exact (by omega : False).elim | (refine congrArg (fun x => (some (zci x), zhp A B)) ?_; unfold zsta; (repeat' split) <;> first | rfl | omega)
  refine zg_swi 2 rfl rfl (fun k => rfl) (fun hc => ?_) (fun hc => ?_)
  ·
    refine xg_step rfl rfl (fun k => rfl) ?_
    refine xg_get rfl rfl (zha (by decide)) zc_House rfl rfl ?_
    refine xg_step rfl rfl (fun k => rfl) ?_
    refine zg_cvi rfl rfl rfl (Nat.le_of_ble_eq_true rfl) (zha (by decide)) zc_Book rfl rfl (zr_6 hA (by omega)) ?_
    refine zg_iret rfl rfl zfitI ?_
    first | exact (by omega : False).elim | (refine congrArg (fun x => (some (zci x), zhp A B)) ?_; unfold zsta; (repeat' split) <;> first | rfl | omega)
  refine zg_swi 3 rfl rfl (fun k => rfl) (fun hc => ?_) (fun hc => ?_)
  ·
    refine xg_step rfl rfl (fun k => rfl) ?_
    refine zg_cvi rfl rfl rfl (Nat.le_of_ble_eq_true rfl) (zha (by omega)) (zc_Server hp) rfl rfl (zr_46 hp) ?_
    refine zg_cvi rfl rfl rfl (Nat.le_of_ble_eq_true rfl) (zha (by omega)) (zc_Store hp) rfl rfl (zr_62 hp hA) ?_
    refine zg_iret rfl rfl zfitI ?_
    first | exact (by omega : False).elim | (refine congrArg (fun x => (some (zci x), zhp A B)) ?_; unfold zsta; (repeat' split) <;> first | rfl | omega)
  refine zg_swi 4 rfl rfl (fun k => rfl) (fun hc => ?_) (fun hc => ?_)
  ·
    refine xg_step rfl rfl (fun k => rfl) ?_
    refine zg_cvi rfl rfl rfl (Nat.le_of_ble_eq_true rfl) (zha (by omega)) (zc_Server hp) rfl rfl (zr_45 hp hA (hz _ (by omega))) ?_
    refine zg_eq0 rfl rfl (fun x k => rfl) (by first | assumption | exact hA _ _ | exact hB _ _ | exact zrg_max (by assumption) (hA _ _) | (constructor <;> omega)) (fun hc => ?_) (fun hc => ?_)
    ·
      refine xg_step rfl rfl (fun k => rfl) ?_
      refine zg_iret rfl rfl zfitI ?_
      first | exact (by omega : False).elim | (refine congrArg (fun x => (some (zci x), zhp A B)) ?_; unfold zsta; (repeat' split) <;> first | rfl | omega)
    ·
      refine xg_step rfl rfl (fun k => rfl) ?_
      refine xg_step rfl rfl (fun k => rfl) ?_
      refine zg_iret rfl rfl zfitI ?_
      first | exact (by omega : False).elim | (refine congrArg (fun x => (some (zci x), zhp A B)) ?_; unfold zsta; (repeat' split) <;> first | rfl | omega)
  refine zg_swi 5 rfl rfl (fun k => rfl) (fun hc => ?_) (fun hc => ?_)
  ·
    refine xg_step rfl rfl (fun k => rfl) ?_
    refine zg_cvi rfl rfl rfl (Nat.le_of_ble_eq_true rfl) (zha (by omega)) (zc_Server hp) rfl rfl (zr_47 hp hA hidp) ?_
    refine zg_iret rfl rfl zfitI ?_
    first | exact (by omega : False).elim | (refine congrArg (fun x => (some (zci x), zhp A B)) ?_; unfold zsta; (repeat' split) <;> first | rfl | omega)
  refine zg_swi 6 rfl rfl (fun k => rfl) (fun hc => ?_) (fun hc => ?_)
  ·
    refine xg_step rfl rfl (fun k => rfl) ?_
    refine xg_step rfl rfl (fun k => rfl) ?_
    refine zg_bi rfl (by decide) ?_
    refine zg_sub rfl ?_
    refine zg_cvi rfl rfl rfl (Nat.le_of_ble_eq_true rfl) (zha (by omega)) (zc_Server hp) rfl rfl (zr_48 hp hA (by omega)) ?_
    refine zg_iret rfl rfl zfitI ?_
    first | exact (by omega : False).elim | (refine congrArg (fun x => (some (zci x), zhp A B)) ?_; unfold zsta; (repeat' split) <;> first | rfl | omega)
  refine zg_swi 7 rfl rfl (fun k => rfl) (fun hc => ?_) (fun hc => ?_)
  ·
    refine xg_step rfl rfl (fun k => rfl) ?_
    refine xg_step rfl rfl (fun k => rfl) ?_
    refine zg_bi rfl (by decide) ?_
    refine zg_sub rfl ?_
    refine zg_cvi rfl rfl rfl (Nat.le_of_ble_eq_true rfl) (zha (by omega)) (zc_Server hp) rfl rfl (zr_48 hp hA (by omega)) ?_
    refine zg_iret rfl rfl zfitI ?_
    first | exact (by omega : False).elim | (refine congrArg (fun x => (some (zci x), zhp A B)) ?_; unfold zsta; (repeat' split) <;> first | rfl | omega)
  refine zg_swi 8 rfl rfl (fun k => rfl) (fun hc => ?_) (fun hc => ?_)
  ·
    refine xg_step rfl rfl (fun k => rfl) ?_
    refine xg_step rfl rfl (fun k => rfl) ?_
    refine zg_bi rfl (by decide) ?_
    refine zg_sub rfl ?_
    refine zg_cvi rfl rfl rfl (Nat.le_of_ble_eq_true rfl) (zha (by omega)) (zc_Server hp) rfl rfl (zr_48 hp hA (by omega)) ?_
    refine zg_iret rfl rfl zfitI ?_
    first | exact (by omega : False).elim | (refine congrArg (fun x => (some (zci x), zhp A B)) ?_; unfold zsta; (repeat' split) <;> first | rfl | omega)
  refine zg_swi 9 rfl rfl (fun k => rfl) (fun hc => ?_) (fun hc => ?_)
  ·
    refine xg_step rfl rfl (fun k => rfl) ?_
    refine zg_cvi rfl rfl rfl (Nat.le_of_ble_eq_true rfl) (zha (by omega)) (zc_Server hp) rfl rfl (zr_46 hp) ?_
    refine xg_step rfl rfl (fun k => rfl) ?_
    refine zg_bi rfl (by decide) ?_
    refine zg_sub rfl ?_
    refine zg_cvi rfl rfl rfl (Nat.le_of_ble_eq_true rfl) (zha (by omega)) (zc_Store hp) rfl rfl (zreq (x := A (68 + 17 * p) (w - 9)) (zr_64 hp hA ⟨by omega, by omega⟩) (if_pos (by omega))) ?_
    refine zg_iret rfl rfl zfitI ?_
    first | exact (by omega : False).elim | (refine congrArg (fun x => (some (zci x), zhp A B)) ?_; unfold zsta; (repeat' split) <;> first | rfl | omega)
  refine zg_swi 10 rfl rfl (fun k => rfl) (fun hc => ?_) (fun hc => ?_)
  ·
    refine xg_step rfl rfl (fun k => rfl) ?_
    refine zg_cvi rfl rfl rfl (Nat.le_of_ble_eq_true rfl) (zha (by omega)) (zc_Server hp) rfl rfl (zr_46 hp) ?_
    refine xg_step rfl rfl (fun k => rfl) ?_
    refine zg_bi rfl (by decide) ?_
    refine zg_sub rfl ?_
    refine zg_cvi rfl rfl rfl (Nat.le_of_ble_eq_true rfl) (zha (by omega)) (zc_Store hp) rfl rfl (zreq (x := A (68 + 17 * p) (w - 9)) (zr_64 hp hA ⟨by omega, by omega⟩) (if_pos (by omega))) ?_
    refine zg_iret rfl rfl zfitI ?_
    first | exact (by omega : False).elim | (refine congrArg (fun x => (some (zci x), zhp A B)) ?_; unfold zsta; (repeat' split) <;> first | rfl | omega)
  refine zg_swi 11 rfl rfl (fun k => rfl) (fun hc => ?_) (fun hc => ?_)
  ·
    refine xg_step rfl rfl (fun k => rfl) ?_
    refine zg_cvi rfl rfl rfl (Nat.le_of_ble_eq_true rfl) (zha (by omega)) (zc_Server hp) rfl rfl (zr_46 hp) ?_
    refine xg_step rfl rfl (fun k => rfl) ?_
    refine zg_bi rfl (by decide) ?_
    refine zg_sub rfl ?_
    refine zg_cvi rfl rfl rfl (Nat.le_of_ble_eq_true rfl) (zha (by omega)) (zc_Store hp) rfl rfl (zreq (x := A (68 + 17 * p) (w - 9)) (zr_64 hp hA ⟨by omega, by omega⟩) (if_pos (by omega))) ?_
    refine zg_iret rfl rfl zfitI ?_
    first | exact (by omega : False).elim | (refine congrArg (fun x => (some (zci x), zhp A B)) ?_; unfold zsta; (repeat' split) <;> first | rfl | omega)
  refine zg_swi 12 rfl rfl (fun k => rfl) (fun hc => ?_) (fun hc => ?_)
  ·
    refine xg_step rfl rfl (fun k => rfl) ?_
    refine zg_cvi rfl rfl rfl (Nat.le_of_ble_eq_true rfl) (zha (by omega)) (zc_Server hp) rfl rfl (zr_46 hp) ?_
    refine xg_step rfl rfl (fun k => rfl) ?_
    refine zg_bi rfl (by decide) ?_
    refine zg_sub rfl ?_
    refine zg_cvi rfl rfl rfl (Nat.le_of_ble_eq_true rfl) (zha (by omega)) (zc_Store hp) rfl rfl (zreq (x := A (68 + 17 * p) (w - 9)) (zr_64 hp hA ⟨by omega, by omega⟩) (if_pos (by omega))) ?_
    refine zg_iret rfl rfl zfitI ?_
    first | exact (by omega : False).elim | (refine congrArg (fun x => (some (zci x), zhp A B)) ?_; unfold zsta; (repeat' split) <;> first | rfl | omega)
  refine zg_swd rfl (by first | assumption | exact hA _ _ | exact hB _ _ | exact zrg_max (by assumption) (hA _ _) | (constructor <;> omega)) (by omega) (fun k => rfl) ?_
  exact (by omega : False).elim
set_option maxRecDepth 10000 in
theorem zr_87 {d : Nat} {A B : ZM} (hA : zRg A) {p k : Int} (hp : 0 ≤ p ∧ p < 3) (hk : zrg k) (hdn : 0 ≤ A (67 + 17 * p) 6 ∧ A (67 + 17 * p) 6 ≤ 300) : XR (d + 3) 87 [.ref 0, zci (p), zci (k)] (zhp A B) (some (zci (if 0 ≤ k ∧ k < A (67 + 17 * p) 6 then A (70 + 17 * p) k else -1)), zhp A B) := by
  refine XR.of (Nat.le_of_ble_eq_true rfl) rfl ?_
  refine xg_step rfl rfl (fun k => rfl) ?_
  refine zg_csv rfl rfl (by decide) rfl rfl (Nat.le_of_ble_eq_true rfl) rfl (zr_92 hA (by omega)) ?_
  refine xg_step rfl rfl (fun k => rfl) ?_
  refine xg_get rfl rfl (zha (by decide)) zc_House rfl rfl ?_
  refine xg_step rfl rfl (fun k => rfl) ?_
  refine zg_aald rfl (zha (by decide)) zc_servers (by decide) (by decide) ⟨by omega, by omega⟩ (if_pos (by omega)) ?_
  refine zg_cvi rfl rfl rfl (Nat.le_of_ble_eq_true rfl) (zha (by omega)) (zc_Server hp) rfl rfl (zr_46 hp) ?_
  refine xg_step rfl rfl (fun k => rfl) ?_
  refine zg_cvi rfl rfl rfl (Nat.le_of_ble_eq_true rfl) (zha (by omega)) (zc_Store hp) rfl rfl (zr_63 hp hA (by first | assumption | exact hA _ _ | exact hB _ _ | exact zrg_max (by assumption) (hA _ _) | (constructor <;> omega)) hdn) ?_
  refine zg_iret rfl rfl zfitI ?_
  first | rfl | exact (by omega : False).elim
set_option maxRecDepth 10000 in
theorem zr_88 {d : Nat} {A B : ZM} (hA : zRg A) {p k w : Int} (hp : 0 ≤ p ∧ p < 3) (hcp : 0 ≤ A (44 + 2 * p) 1 ∧ A (44 + 2 * p) 1 ≤ 100) (hk : 1 ≤ k ∧ k ≤ A (44 + 2 * p) 1) (hw : 0 ≤ w ∧ w ≤ 4) : XR (d + 5) 88 [.ref 0, zci (p), zci (k), zci (w)] (zhp A B) (some (zci (A (45 + 2 * p) (k * 5 + w))), zhp A B) := by
  refine XR.of (Nat.le_of_ble_eq_true rfl) rfl ?_
  refine xg_step rfl rfl (fun k => rfl) ?_
  refine xg_step rfl rfl (fun k => rfl) ?_
  refine xg_step rfl rfl (fun k => rfl) ?_
  refine zg_cvv rfl rfl rfl (Nat.le_of_ble_eq_true rfl) (zha (by decide)) zc_House rfl rfl (zr_94 hA (by omega) (by omega) (by first | assumption | exact hA _ _ | exact hB _ _ | exact zrg_max (by assumption) (hA _ _) | (constructor <;> omega))) ?_
  refine xg_step rfl rfl (fun k => rfl) ?_
  refine zg_lt0 rfl rfl (fun x k => rfl) (by first | assumption | exact hA _ _ | exact hB _ _ | exact zrg_max (by assumption) (hA _ _) | (constructor <;> omega)) (fun hc => ?_) (fun hc => ?_)
  ·
    exact (by omega : False).elim
  ·
    refine xg_step rfl rfl (fun k => rfl) ?_
    refine xg_step rfl rfl (fun k => rfl) ?_
    refine zg_gt rfl rfl (fun x y k => rfl) (by first | assumption | exact hA _ _ | exact hB _ _ | exact zrg_max (by assumption) (hA _ _) | (constructor <;> omega)) (by first | assumption | exact hA _ _ | exact hB _ _ | exact zrg_max (by assumption) (hA _ _) | (constructor <;> omega)) (fun hc => ?_) (fun hc => ?_)
    ·
      exact (by omega : False).elim
    ·
      refine xg_step rfl rfl (fun k => rfl) ?_
      refine xg_get rfl rfl (zha (by decide)) zc_House rfl rfl ?_
      refine xg_step rfl rfl (fun k => rfl) ?_
      refine xg_step rfl rfl (fun k => rfl) ?_
      refine xg_step rfl rfl (fun k => rfl) ?_
      refine zg_cvi rfl rfl rfl (Nat.le_of_ble_eq_true rfl) (zha (by decide)) zc_Book rfl rfl (zr_7 hA hp (by first | assumption | exact hA _ _ | exact hB _ _ | exact zrg_max (by assumption) (hA _ _) | (constructor <;> omega)) (by first | assumption | exact hA _ _ | exact hB _ _ | exact zrg_max (by assumption) (hA _ _) | (constructor <;> omega)) hcp) ?_
      refine zg_iret rfl rfl zfitI ?_
      first | exact (by omega : False).elim | rw [if_pos (by omega)]
set_option maxRecDepth 10000 in
theorem zr_89 {d : Nat} {A B : ZM} (hA : zRg A) {v k : Int} {q : Nat} (hqc : (q : Int) = A 11 v) (hv : 0 ≤ v ∧ v < 31) (hk : zrg k) (h20 : 0 ≤ A (-2) 0) (w1 : 12 ≤ A 11 v ∧ A 11 v ≤ 42 ∨ 144 ≤ A 11 v ∧ A 11 v < 144 + A (-2) 0) (w3 : 0 ≤ A (-1) q ∧ A (-1) q ≤ 1000) : XR (d + 3) 89 [.ref 0, zci (v), zci (k)] (zhp A B) (some (zci (if 0 ≤ k ∧ k < A (-1) q then A q k else -1)), zhp A B) := by
  have hzq : zrow q = true := by simp only [zrow, Bool.or_eq_true, Bool.and_eq_true, decide_eq_true_eq]; omega
  refine XR.of (Nat.le_of_ble_eq_true rfl) rfl ?_
  refine xg_step rfl rfl (fun k => rfl) ?_
  refine zg_csv rfl rfl (by decide) rfl rfl (Nat.le_of_ble_eq_true rfl) rfl (zr_96 hA (by omega)) ?_
  refine xg_step rfl rfl (fun k => rfl) ?_
  refine xg_get rfl rfl (zha (by decide)) zc_House rfl rfl ?_
  refine xg_step rfl rfl (fun k => rfl) ?_
  refine zg_cvi rfl rfl rfl (Nat.le_of_ble_eq_true rfl) (zha (by decide)) zc_Book rfl rfl (zr_9 (q := q) hA (by omega) (by omega)) ?_
  refine xg_step rfl rfl (fun k => rfl) ?_
  refine xg_step rfl rfl (fun k => rfl) ?_
  refine zg_lt0 rfl rfl (fun x k => rfl) (by first | assumption | exact hA _ _ | exact hB _ _ | exact zrg_max (by assumption) (hA _ _) | (constructor <;> omega)) (fun hc => ?_) (fun hc => ?_)
  ·
    refine xg_step rfl rfl (fun k => rfl) ?_
    refine zg_iret rfl rfl zfitI ?_
    first | exact zli (by omega) | exact zle (by omega)
  ·
    refine xg_step rfl rfl (fun k => rfl) ?_
    refine xg_step rfl rfl (fun k => rfl) ?_
    refine zg_len (x := A (-1) q) rfl (zhb (by omega)) (zc_rowcell hzq) (Int.toNat_of_nonneg (by omega)) ?_
    refine zg_lt rfl rfl (fun x y k => rfl) (by first | assumption | exact hA _ _ | exact hB _ _ | exact zrg_max (by assumption) (hA _ _) | (constructor <;> omega)) (by first | assumption | exact hA _ _ | exact hB _ _ | exact zrg_max (by assumption) (hA _ _) | (constructor <;> omega)) (fun hc => ?_) (fun hc => ?_)
    ·
      refine xg_step rfl rfl (fun k => rfl) ?_
      refine xg_step rfl rfl (fun k => rfl) ?_
      refine zg_ald (.inl ⟨rfl, rfl⟩) (zhb (by omega)) (zc_rowcell hzq) (by omega) ⟨by omega, by omega⟩ rfl ?_
      refine xg_step rfl rfl (fun k => rfl) ?_
      refine zg_iret rfl rfl zfitI ?_
      first | exact zli (by omega) | exact zle (by omega)
    ·
      refine xg_step rfl rfl (fun k => rfl) ?_
      refine zg_iret rfl rfl zfitI ?_
      first | exact zli (by omega) | exact zle (by omega)
def zto (A : ZM) (r w : Int) : Int := if w = 0 then A 2 r else if w = 1 then A 3 r else if w = 2 then zb2 (¬ A 53 r = 0) else if ¬ A 53 r = 0 then A 54 r else 0
set_option maxRecDepth 10000 in
theorem zr_90 {d : Nat} {A B : ZM} (hA : zRg A) {r w : Int} (hr : 0 ≤ r ∧ r < A 1 6) (hq60 : A 1 6 ≤ 60) (hw : 0 ≤ w ∧ w < 4) : XR (d + 3) 90 [.ref 0, zci (r), zci (w)] (zhp A B) (some (zci (zto A r w)), zhp A B) := by
  refine XR.of (Nat.le_of_ble_eq_true rfl) rfl ?_
  refine xg_step rfl rfl (fun k => rfl) ?_
  refine xg_step rfl rfl (fun k => rfl) ?_
  refine zg_cvv rfl rfl rfl (Nat.le_of_ble_eq_true rfl) (zha (by decide)) zc_House rfl rfl (zr_93 hA (by omega) (by first | assumption | exact hA _ _ | exact hB _ _ | exact zrg_max (by assumption) (hA _ _) | (constructor <;> omega))) ?_
  refine xg_step rfl rfl (fun k => rfl) ?_
  refine zg_swi 0 rfl rfl (fun k => rfl) (fun hc => ?_) (fun hc => ?_)
  ·
    refine xg_step rfl rfl (fun k => rfl) ?_
    refine xg_get rfl rfl (zha (by decide)) zc_House rfl rfl ?_
    refine xg_step rfl rfl (fun k => rfl) ?_
    refine zg_cvi rfl rfl rfl (Nat.le_of_ble_eq_true rfl) (zha (by decide)) zc_Requests rfl rfl (zreq (x := A 2 r) (zr_37 hA (by first | assumption | exact hA _ _ | exact hB _ _ | exact zrg_max (by assumption) (hA _ _) | (constructor <;> omega)) (by omega)) (if_pos (by omega))) ?_
    refine zg_iret rfl rfl zfitI ?_
    first | exact (by omega : False).elim | (refine congrArg (fun x => (some (zci x), zhp A B)) ?_; unfold zto zb2; (repeat' split) <;> first | rfl | omega)
  refine zg_swi 1 rfl rfl (fun k => rfl) (fun hc => ?_) (fun hc => ?_)
  ·
    refine xg_step rfl rfl (fun k => rfl) ?_
    refine xg_get rfl rfl (zha (by decide)) zc_House rfl rfl ?_
    refine xg_step rfl rfl (fun k => rfl) ?_
    refine zg_cvi rfl rfl rfl (Nat.le_of_ble_eq_true rfl) (zha (by decide)) zc_Requests rfl rfl (zreq (x := A 3 r) (zr_38 hA (by first | assumption | exact hA _ _ | exact hB _ _ | exact zrg_max (by assumption) (hA _ _) | (constructor <;> omega)) (by omega)) (if_pos (by omega))) ?_
    refine zg_iret rfl rfl zfitI ?_
    first | exact (by omega : False).elim | (refine congrArg (fun x => (some (zci x), zhp A B)) ?_; unfold zto zb2; (repeat' split) <;> first | rfl | omega)
  refine zg_swi 2 rfl rfl (fun k => rfl) (fun hc => ?_) (fun hc => ?_)
  ·
    refine xg_step rfl rfl (fun k => rfl) ?_
    refine xg_get rfl rfl (zha (by decide)) zc_House rfl rfl ?_
    refine xg_step rfl rfl (fun k => rfl) ?_
    refine zg_cvb rfl rfl rfl (Nat.le_of_ble_eq_true rfl) (zha (by decide)) zc_Answers rfl rfl (zr_2 hA (by first | assumption | exact hA _ _ | exact hB _ _ | exact zrg_max (by assumption) (hA _ _) | (constructor <;> omega))) (fun hc => ?_) (fun hc => ?_)
    ·
      refine xg_step rfl rfl (fun k => rfl) ?_
      refine xg_step rfl rfl (fun k => rfl) ?_
      refine xg_step rfl rfl (fun k => rfl) ?_
      refine zg_iret rfl rfl zfitI ?_
      first | exact (by omega : False).elim | (refine congrArg (fun x => (some (zci x), zhp A B)) ?_; unfold zto zb2; (repeat' split) <;> first | rfl | omega)
    ·
      refine xg_step rfl rfl (fun k => rfl) ?_
      refine xg_step rfl rfl (fun k => rfl) ?_
      refine zg_iret rfl rfl zfitI ?_
      first | exact (by omega : False).elim | (refine congrArg (fun x => (some (zci x), zhp A B)) ?_; unfold zto zb2; (repeat' split) <;> first | rfl | omega)
  refine zg_swi 3 rfl rfl (fun k => rfl) (fun hc => ?_) (fun hc => ?_)
  ·
    refine xg_step rfl rfl (fun k => rfl) ?_
    refine xg_get rfl rfl (zha (by decide)) zc_House rfl rfl ?_
    refine xg_step rfl rfl (fun k => rfl) ?_
    refine zg_cvi rfl rfl rfl (Nat.le_of_ble_eq_true rfl) (zha (by decide)) zc_Answers rfl rfl (zr_3 hA (by first | assumption | exact hA _ _ | exact hB _ _ | exact zrg_max (by assumption) (hA _ _) | (constructor <;> omega))) ?_
    refine zg_iret rfl rfl zfitI ?_
    first | exact (by omega : False).elim | (refine congrArg (fun x => (some (zci x), zhp A B)) ?_; unfold zto zb2; (repeat' split) <;> first | rfl | omega)
  refine zg_swd rfl (by first | assumption | exact hA _ _ | exact hB _ _ | exact zrg_max (by assumption) (hA _ _) | (constructor <;> omega)) (by omega) (fun k => rfl) ?_
  exact (by omega : False).elim
set_option maxRecDepth 10000 in
theorem zr_91 {d : Nat} {A B : ZM} (hA : zRg A) {p r : Int} (hp : 0 ≤ p ∧ p < 3) (hr : 0 ≤ r ∧ r < A 1 6) (hq60 : A 1 6 ≤ 60) : XR (d + 3) 91 [.ref 0, zci (p), zci (r)] (zhp A B) (some (zci (if ¬ A (71 + 17 * p) r = 0 then A (72 + 17 * p) r else 0)), zhp A B) := by
  refine XR.of (Nat.le_of_ble_eq_true rfl) rfl ?_
  refine xg_step rfl rfl (fun k => rfl) ?_
  refine zg_csv rfl rfl (by decide) rfl rfl (Nat.le_of_ble_eq_true rfl) rfl (zr_92 hA (by omega)) ?_
  refine xg_step rfl rfl (fun k => rfl) ?_
  refine xg_step rfl rfl (fun k => rfl) ?_
  refine zg_cvv rfl rfl rfl (Nat.le_of_ble_eq_true rfl) (zha (by decide)) zc_House rfl rfl (zr_93 hA (by omega) (by first | assumption | exact hA _ _ | exact hB _ _ | exact zrg_max (by assumption) (hA _ _) | (constructor <;> omega))) ?_
  refine xg_step rfl rfl (fun k => rfl) ?_
  refine xg_get rfl rfl (zha (by decide)) zc_House rfl rfl ?_
  refine xg_step rfl rfl (fun k => rfl) ?_
  refine zg_aald rfl (zha (by decide)) zc_servers (by decide) (by decide) ⟨by omega, by omega⟩ (if_pos (by omega)) ?_
  refine zg_cvi rfl rfl rfl (Nat.le_of_ble_eq_true rfl) (zha (by omega)) (zc_Server hp) rfl rfl (zr_46 hp) ?_
  refine xg_step rfl rfl (fun k => rfl) ?_
  refine zg_cvi rfl rfl rfl (Nat.le_of_ble_eq_true rfl) (zha (by omega)) (zc_Store hp) rfl rfl (zr_66 hp hA (by first | assumption | exact hA _ _ | exact hB _ _ | exact zrg_max (by assumption) (hA _ _) | (constructor <;> omega))) ?_
  refine zg_iret rfl rfl zfitI ?_
  (refine congrArg (fun x => (some (zci x), zhp A B)) ?_; (repeat' split) <;> first | rfl | omega)
