/-! preparing, following, answers -/
theorem zr_11t {d : Nat} {A B : ZM} (hG : zG A) {s kd v a b : Int} (hs : 0 ≤ s ∧ s < 3) (hkd : 0 ≤ kd ∧ kd < 4) (hv : 0 ≤ v ∧ v < 31) (ha : 0 ≤ a ∧ a < 1000) (hb : 0 ≤ b ∧ b < 1000) (hf : A (44 + 2 * s) 1 < 100) : XR (d + 5) 11 [.ref 8, zci s, zci kd, zci v, zci a, zci b] (zhp A B) (some (zci (A (44 + 2 * s) 1 + 1)), zhp (zentF A s kd v a b) B) := zreq (zr_11 hG hs hkd hv ha hb) (if_pos hf)
theorem zr_11f {d : Nat} {A B : ZM} (hG : zG A) {s kd v a b : Int} (hs : 0 ≤ s ∧ s < 3) (hkd : 0 ≤ kd ∧ kd < 4) (hv : 0 ≤ v ∧ v < 31) (ha : 0 ≤ a ∧ a < 1000) (hb : 0 ≤ b ∧ b < 1000) (hf : ¬ A (44 + 2 * s) 1 < 100) : XR (d + 5) 11 [.ref 8, zci s, zci kd, zci v, zci a, zci b] (zhp A B) (some (zci (-1)), zhp (zentF A s kd v a b) B) := zreq (zr_11 hG hs hkd hv ha hb) (if_neg hf)
set_option maxRecDepth 10000 in
theorem zr_10 {d : Nat} {A B : ZM} (hA : zRg A) {p v r : Int} (hp : 0 ≤ p ∧ p < 3) (hv : zrg v) (hr : zrg r) (hcp : 0 ≤ A (44 + 2 * p) 1 ∧ A (44 + 2 * p) 1 ≤ 100) : XR (d + 3) 10 [.ref 8, zci (p), zci (v), zci (r)] (zhp A B) (some (zci (zb2 (zex (zHP A p v r) (A (44 + 2 * p) 1) = true))), zhp A B) := by
  refine XR.of (Nat.le_of_ble_eq_true rfl) rfl ?_
  refine xg_step rfl rfl (fun k => rfl) ?_
  refine xg_get rfl rfl (zha (by decide)) zc_Book rfl rfl ?_
  refine xg_step rfl rfl (fun k => rfl) ?_
  refine zg_aald rfl (zha (by decide)) zc_counters (by decide) (by decide) ⟨by omega, by omega⟩ (if_pos (by omega)) ?_
  refine xg_step rfl rfl (fun k => rfl) ?_
  refine xg_step rfl rfl (fun k => rfl) ?_
  refine zg_cvi rfl rfl rfl (Nat.le_of_ble_eq_true rfl) (zha (by omega)) (zc_Counter hp) rfl rfl (zr_23 hp hA (by first | assumption | exact hA _ _ | exact hB _ _ | exact zrg_max (by assumption) (hA _ _) | (constructor <;> omega)) (by first | assumption | exact hA _ _ | exact hB _ _ | exact zrg_max (by assumption) (hA _ _) | (constructor <;> omega)) hcp) ?_
  refine zg_iret rfl rfl (zfitZ (by unfold zb2; split <;> omega)) ?_
  rfl
/-- a server prepares a request -/
abbrev zPc (A : ZM) (t r : Int) : Prop := A (56 + 17 * t) 9 = 0 ∧ ¬ A (56 + 17 * t) 8 = 0 ∧ A (56 + 17 * t) 7 % 3 = t ∧ ¬ zex (zHP A t (A (56 + 17 * t) 7) r) (A (44 + 2 * t) 1) = true
set_option maxRecDepth 10000 in
theorem zr_53t {d : Nat} {A B : ZM} {s : Int} (hs : 0 ≤ s ∧ s < 3) (hG : zG A) (hid : A (56 + 17 * s) 0 = s) (hvw : 0 ≤ A (56 + 17 * s) 7 ∧ A (56 + 17 * s) 7 < 31) {r : Int} (hr : 0 ≤ r ∧ r < 60) (hf : A (44 + 2 * s) 1 < 100) : XR (d + 6) 53 [.ref (56 + 17 * s.toNat), zci (r)] (zhp A B) (some (zci (zb2 (zPc A s r))), zhp (if zPc A s r then zentF A s 0 (A (56 + 17 * s) 7) r 0 else A) B) := by
  obtain ⟨hA, hcN, g3, g4, g5⟩ := id hG
  have hcn := hcN s hs
  refine XR.of (Nat.le_of_ble_eq_true rfl) rfl ?_
  refine xg_step rfl rfl (fun k => rfl) ?_
  refine xg_get rfl rfl (zha (by omega)) (zc_Server hs) rfl rfl ?_
  refine zg_eq0 rfl rfl (fun x k => rfl) (by first | assumption | exact hA _ _ | exact hB _ _ | exact zrg_max (by assumption) (hA _ _) | (constructor <;> omega)) (fun hc => ?_) (fun hc => ?_)
  ·
    refine xg_step rfl rfl (fun k => rfl) ?_
    refine xg_get rfl rfl (zha (by omega)) (zc_Server hs) rfl rfl ?_
    refine zg_eq0 rfl rfl (fun x k => rfl) (by first | assumption | exact hA _ _ | exact hB _ _ | exact zrg_max (by assumption) (hA _ _) | (constructor <;> omega)) (fun hc => ?_) (fun hc => ?_)
    ·
      refine xg_step rfl rfl (fun k => rfl) ?_
      refine zg_iret rfl rfl (zfitZ (by omega)) ?_
      first | exact (by omega : False).elim | (rw [zb2_f (fun ⟨q1, q2, q3, q4⟩ => by first | exact q4 (by assumption) | omega), if_neg (fun ⟨q1, q2, q3, q4⟩ => by first | exact q4 (by assumption) | omega)])
    ·
      refine xg_step rfl rfl (fun k => rfl) ?_
      refine xg_get rfl rfl (zha (by omega)) (zc_Server hs) rfl rfl ?_
      refine zg_csi rfl rfl (by decide) rfl rfl (Nat.le_of_ble_eq_true rfl) rfl (zr_99 hA (by omega)) ?_
      refine xg_step rfl rfl (fun k => rfl) ?_
      refine zg_geti (x := s) rfl rfl (zha (by omega)) (zc_Server hs) rfl hid ?_
      refine zg_eq rfl rfl (fun x y k => rfl) (by first | assumption | exact hA _ _ | exact hB _ _ | exact zrg_max (by assumption) (hA _ _) | (constructor <;> omega)) (by first | assumption | exact hA _ _ | exact hB _ _ | exact zrg_max (by assumption) (hA _ _) | (constructor <;> omega)) (fun hc => ?_) (fun hc => ?_)
      ·
        refine xg_step rfl rfl (fun k => rfl) ?_
        refine xg_get rfl rfl (zha (by omega)) (zc_Server hs) rfl rfl ?_
        refine xg_step rfl rfl (fun k => rfl) ?_
        refine zg_geti (x := s) rfl rfl (zha (by omega)) (zc_Server hs) rfl hid ?_
        refine xg_step rfl rfl (fun k => rfl) ?_
        refine xg_get rfl rfl (zha (by omega)) (zc_Server hs) rfl rfl ?_
        refine xg_step rfl rfl (fun k => rfl) ?_
        refine zg_cvb rfl rfl rfl (Nat.le_of_ble_eq_true rfl) (zha (by decide)) zc_Book rfl rfl (zr_10 hA (by omega) (by first | assumption | exact hA _ _ | exact hB _ _ | exact zrg_max (by assumption) (hA _ _) | (constructor <;> omega)) (by first | assumption | exact hA _ _ | exact hB _ _ | exact zrg_max (by assumption) (hA _ _) | (constructor <;> omega)) (hcN _ (by omega))) (fun hc => ?_) (fun hc => ?_)
        ·
          refine xg_step rfl rfl (fun k => rfl) ?_
          refine xg_step rfl rfl (fun k => rfl) ?_
          refine zg_iret rfl rfl (zfitZ (by omega)) ?_
          first | exact (by omega : False).elim | (rw [zb2_f (fun ⟨q1, q2, q3, q4⟩ => by first | exact q4 (by assumption) | omega), if_neg (fun ⟨q1, q2, q3, q4⟩ => by first | exact q4 (by assumption) | omega)])
        ·
          refine xg_step rfl rfl (fun k => rfl) ?_
          refine xg_step rfl rfl (fun k => rfl) ?_
          refine xg_get rfl rfl (zha (by omega)) (zc_Server hs) rfl rfl ?_
          refine xg_step rfl rfl (fun k => rfl) ?_
          refine zg_geti (x := s) rfl rfl (zha (by omega)) (zc_Server hs) rfl hid ?_
          refine xg_step rfl rfl (fun k => rfl) ?_
          refine xg_step rfl rfl (fun k => rfl) ?_
          refine xg_get rfl rfl (zha (by omega)) (zc_Server hs) rfl rfl ?_
          refine xg_step rfl rfl (fun k => rfl) ?_
          refine xg_step rfl rfl (fun k => rfl) ?_
          refine zg_cvi rfl rfl rfl (Nat.le_of_ble_eq_true rfl) (zha (by decide)) zc_Book rfl rfl (zr_11t hG hs (by omega) (by omega) (by omega) (by omega) hf) ?_
          refine xg_step rfl rfl (fun k => rfl) ?_
          refine zg_eq rfl rfl (fun x y k => rfl) (by first | assumption | exact hA _ _ | exact hB _ _ | exact zrg_max (by assumption) (hA _ _) | (constructor <;> omega)) (by first | assumption | exact hA _ _ | exact hB _ _ | exact zrg_max (by assumption) (hA _ _) | (constructor <;> omega)) (fun hc => ?_) (fun hc => ?_)
          ·
            refine xg_step rfl rfl (fun k => rfl) ?_
            refine zg_iret rfl rfl (zfitZ (by omega)) ?_
            first | exact (by omega : False).elim | (rw [zb2_f (fun ⟨q1, q2, q3, q4⟩ => by first | exact q4 (by assumption) | omega), if_neg (fun ⟨q1, q2, q3, q4⟩ => by first | exact q4 (by assumption) | omega)])
          ·
            refine xg_step rfl rfl (fun k => rfl) ?_
            refine xg_step rfl rfl (fun k => rfl) ?_
            refine zg_iret rfl rfl (zfitZ (by omega)) ?_
            (rw [zb2_t ⟨by omega, by omega, by omega, by assumption⟩, if_pos ⟨by omega, by omega, by omega, by assumption⟩])
      ·
        refine xg_step rfl rfl (fun k => rfl) ?_
        refine zg_iret rfl rfl (zfitZ (by omega)) ?_
        first | exact (by omega : False).elim | (rw [zb2_f (fun ⟨q1, q2, q3, q4⟩ => by first | exact q4 (by assumption) | omega), if_neg (fun ⟨q1, q2, q3, q4⟩ => by first | exact q4 (by assumption) | omega)])
  ·
    refine xg_step rfl rfl (fun k => rfl) ?_
    refine zg_iret rfl rfl (zfitZ (by omega)) ?_
    first | exact (by omega : False).elim | (rw [zb2_f (fun ⟨q1, q2, q3, q4⟩ => by first | exact q4 (by assumption) | omega), if_neg (fun ⟨q1, q2, q3, q4⟩ => by first | exact q4 (by assumption) | omega)])
set_option maxRecDepth 10000 in
theorem zr_53f {d : Nat} {A B : ZM} {s : Int} (hs : 0 ≤ s ∧ s < 3) (hG : zG A) (hid : A (56 + 17 * s) 0 = s) (hvw : 0 ≤ A (56 + 17 * s) 7 ∧ A (56 + 17 * s) 7 < 31) {r : Int} (hr : 0 ≤ r ∧ r < 60) (hf : ¬ A (44 + 2 * s) 1 < 100) : XR (d + 6) 53 [.ref (56 + 17 * s.toNat), zci (r)] (zhp A B) (some (zci (0)), zhp A B) := by
  obtain ⟨hA, hcN, g3, g4, g5⟩ := id hG
  have hcn := hcN s hs
  refine XR.of (Nat.le_of_ble_eq_true rfl) rfl ?_
  refine xg_step rfl rfl (fun k => rfl) ?_
  refine xg_get rfl rfl (zha (by omega)) (zc_Server hs) rfl rfl ?_
  refine zg_eq0 rfl rfl (fun x k => rfl) (by first | assumption | exact hA _ _ | exact hB _ _ | exact zrg_max (by assumption) (hA _ _) | (constructor <;> omega)) (fun hc => ?_) (fun hc => ?_)
  ·
    refine xg_step rfl rfl (fun k => rfl) ?_
    refine xg_get rfl rfl (zha (by omega)) (zc_Server hs) rfl rfl ?_
    refine zg_eq0 rfl rfl (fun x k => rfl) (by first | assumption | exact hA _ _ | exact hB _ _ | exact zrg_max (by assumption) (hA _ _) | (constructor <;> omega)) (fun hc => ?_) (fun hc => ?_)
    ·
      refine xg_step rfl rfl (fun k => rfl) ?_
      refine zg_iret rfl rfl (zfitZ (by omega)) ?_
      first | rfl | (unfold zentF; rw [if_neg hf])
    ·
      refine xg_step rfl rfl (fun k => rfl) ?_
      refine xg_get rfl rfl (zha (by omega)) (zc_Server hs) rfl rfl ?_
      refine zg_csi rfl rfl (by decide) rfl rfl (Nat.le_of_ble_eq_true rfl) rfl (zr_99 hA (by omega)) ?_
      refine xg_step rfl rfl (fun k => rfl) ?_
      refine zg_geti (x := s) rfl rfl (zha (by omega)) (zc_Server hs) rfl hid ?_
      refine zg_eq rfl rfl (fun x y k => rfl) (by first | assumption | exact hA _ _ | exact hB _ _ | exact zrg_max (by assumption) (hA _ _) | (constructor <;> omega)) (by first | assumption | exact hA _ _ | exact hB _ _ | exact zrg_max (by assumption) (hA _ _) | (constructor <;> omega)) (fun hc => ?_) (fun hc => ?_)
      ·
        refine xg_step rfl rfl (fun k => rfl) ?_
        refine xg_get rfl rfl (zha (by omega)) (zc_Server hs) rfl rfl ?_
        refine xg_step rfl rfl (fun k => rfl) ?_
        refine zg_geti (x := s) rfl rfl (zha (by omega)) (zc_Server hs) rfl hid ?_
        refine xg_step rfl rfl (fun k => rfl) ?_
        refine xg_get rfl rfl (zha (by omega)) (zc_Server hs) rfl rfl ?_
        refine xg_step rfl rfl (fun k => rfl) ?_
        refine zg_cvb rfl rfl rfl (Nat.le_of_ble_eq_true rfl) (zha (by decide)) zc_Book rfl rfl (zr_10 hA (by omega) (by first | assumption | exact hA _ _ | exact hB _ _ | exact zrg_max (by assumption) (hA _ _) | (constructor <;> omega)) (by first | assumption | exact hA _ _ | exact hB _ _ | exact zrg_max (by assumption) (hA _ _) | (constructor <;> omega)) (hcN _ (by omega))) (fun hc => ?_) (fun hc => ?_)
        ·
          refine xg_step rfl rfl (fun k => rfl) ?_
          refine xg_step rfl rfl (fun k => rfl) ?_
          refine zg_iret rfl rfl (zfitZ (by omega)) ?_
          first | rfl | (unfold zentF; rw [if_neg hf])
        ·
          refine xg_step rfl rfl (fun k => rfl) ?_
          refine xg_step rfl rfl (fun k => rfl) ?_
          refine xg_get rfl rfl (zha (by omega)) (zc_Server hs) rfl rfl ?_
          refine xg_step rfl rfl (fun k => rfl) ?_
          refine zg_geti (x := s) rfl rfl (zha (by omega)) (zc_Server hs) rfl hid ?_
          refine xg_step rfl rfl (fun k => rfl) ?_
          refine xg_step rfl rfl (fun k => rfl) ?_
          refine xg_get rfl rfl (zha (by omega)) (zc_Server hs) rfl rfl ?_
          refine xg_step rfl rfl (fun k => rfl) ?_
          refine xg_step rfl rfl (fun k => rfl) ?_
          refine zg_cvi rfl rfl rfl (Nat.le_of_ble_eq_true rfl) (zha (by decide)) zc_Book rfl rfl (zr_11f hG hs (by omega) (by omega) (by omega) (by omega) hf) ?_
          refine xg_step rfl rfl (fun k => rfl) ?_
          refine xg_step rfl rfl (fun k => rfl) ?_
          refine xg_step rfl rfl (fun k => rfl) ?_
          refine zg_iret rfl rfl (zfitZ (by omega)) ?_
          first | rfl | (unfold zentF; rw [if_neg hf])
      ·
        refine xg_step rfl rfl (fun k => rfl) ?_
        refine zg_iret rfl rfl (zfitZ (by omega)) ?_
        first | rfl | (unfold zentF; rw [if_neg hf])
  ·
    refine xg_step rfl rfl (fun k => rfl) ?_
    refine zg_iret rfl rfl (zfitZ (by omega)) ?_
    first | rfl | (unfold zentF; rw [if_neg hf])
/-- the second greatest asked -/
abbrev zSG (A : ZM) (t : Int) : Int := max (min (A (66 + 17 * t) 0) (A (66 + 17 * t) 1)) (min (max (A (66 + 17 * t) 0) (A (66 + 17 * t) 1)) (A (66 + 17 * t) 2))
set_option maxRecDepth 10000 in
theorem zr_52 {d : Nat} {A B : ZM} {s : Int} (hs : 0 ≤ s ∧ s < 3) (hG : zG A) (hid : A (56 + 17 * s) 0 = s) (hvw : 0 ≤ A (56 + 17 * s) 7 ∧ A (56 + 17 * s) 7 < 31) (has : ∀ p, 0 ≤ p ∧ p < 3 → -1 ≤ A (66 + 17 * s) p ∧ A (66 + 17 * s) p < 31) : XR (d + 6) 52 [.ref (56 + 17 * s.toNat)] (zhp A B) (some (zci (zb2 (A (56 + 17 * s) 7 < zSG A s))), zhp (if A (56 + 17 * s) 7 < zSG A s then zentF (zturn A s (zSG A s) 0) s 2 (zSG A s) 0 0 else A) B) := by
  obtain ⟨hA, hcN, g3, g4, g5⟩ := id hG
  have a0 := has 0 (by omega)
  have a1 := has 1 (by omega)
  have a2 := has 2 (by omega)
  have hGt : zG (zturn A s (max (min (A (66 + 17 * s) 0) (A (66 + 17 * s) 1)) (min (max (A (66 + 17 * s) 0) (A (66 + 17 * s) 1)) (A (66 + 17 * s) 2))) 0) := zG_turn hG hs ⟨by omega, by omega⟩ ⟨by decide, by decide⟩
  refine XR.of (Nat.le_of_ble_eq_true rfl) rfl ?_
  refine xg_step rfl rfl (fun k => rfl) ?_
  refine xg_get rfl rfl (zha (by omega)) (zc_Server hs) rfl rfl ?_
  refine xg_step rfl rfl (fun k => rfl) ?_
  refine zg_ald (.inl ⟨rfl, rfl⟩) (zha (by omega)) (zc_asked hs) (by decide) ⟨by omega, by omega⟩ rfl ?_
  refine xg_step rfl rfl (fun k => rfl) ?_
  refine xg_get rfl rfl (zha (by omega)) (zc_Server hs) rfl rfl ?_
  refine xg_step rfl rfl (fun k => rfl) ?_
  refine zg_ald (.inl ⟨rfl, rfl⟩) (zha (by omega)) (zc_asked hs) (by decide) ⟨by omega, by omega⟩ rfl ?_
  refine zg_min rfl rfl (Nat.le_of_ble_eq_true rfl) (by first | assumption | exact hA _ _ | exact hB _ _ | exact zrg_max (by assumption) (hA _ _) | (constructor <;> omega)) (by first | assumption | exact hA _ _ | exact hB _ _ | exact zrg_max (by assumption) (hA _ _) | (constructor <;> omega)) ?_
  refine xg_step rfl rfl (fun k => rfl) ?_
  refine xg_step rfl rfl (fun k => rfl) ?_
  refine xg_get rfl rfl (zha (by omega)) (zc_Server hs) rfl rfl ?_
  refine xg_step rfl rfl (fun k => rfl) ?_
  refine zg_ald (.inl ⟨rfl, rfl⟩) (zha (by omega)) (zc_asked hs) (by decide) ⟨by omega, by omega⟩ rfl ?_
  refine xg_step rfl rfl (fun k => rfl) ?_
  refine xg_get rfl rfl (zha (by omega)) (zc_Server hs) rfl rfl ?_
  refine xg_step rfl rfl (fun k => rfl) ?_
  refine zg_ald (.inl ⟨rfl, rfl⟩) (zha (by omega)) (zc_asked hs) (by decide) ⟨by omega, by omega⟩ rfl ?_
  refine zg_max rfl rfl (Nat.le_of_ble_eq_true rfl) (by first | assumption | exact hA _ _ | exact hB _ _ | exact zrg_max (by assumption) (hA _ _) | (constructor <;> omega)) (by first | assumption | exact hA _ _ | exact hB _ _ | exact zrg_max (by assumption) (hA _ _) | (constructor <;> omega)) ?_
  refine xg_step rfl rfl (fun k => rfl) ?_
  refine xg_step rfl rfl (fun k => rfl) ?_
  refine xg_step rfl rfl (fun k => rfl) ?_
  refine xg_step rfl rfl (fun k => rfl) ?_
  refine xg_get rfl rfl (zha (by omega)) (zc_Server hs) rfl rfl ?_
  refine xg_step rfl rfl (fun k => rfl) ?_
  refine zg_ald (.inl ⟨rfl, rfl⟩) (zha (by omega)) (zc_asked hs) (by decide) ⟨by omega, by omega⟩ rfl ?_
  refine zg_min rfl rfl (Nat.le_of_ble_eq_true rfl) (by first | assumption | exact hA _ _ | exact hB _ _ | exact zrg_max (by assumption) (hA _ _) | (constructor <;> omega)) (by first | assumption | exact hA _ _ | exact hB _ _ | exact zrg_max (by assumption) (hA _ _) | (constructor <;> omega)) ?_
  refine zg_max rfl rfl (Nat.le_of_ble_eq_true rfl) (by first | assumption | exact hA _ _ | exact hB _ _ | exact zrg_max (by assumption) (hA _ _) | (constructor <;> omega)) (by first | assumption | exact hA _ _ | exact hB _ _ | exact zrg_max (by assumption) (hA _ _) | (constructor <;> omega)) ?_
  refine xg_step rfl rfl (fun k => rfl) ?_
  refine xg_step rfl rfl (fun k => rfl) ?_
  refine xg_step rfl rfl (fun k => rfl) ?_
  refine xg_get rfl rfl (zha (by omega)) (zc_Server hs) rfl rfl ?_
  refine zg_gt rfl rfl (fun x y k => rfl) (by first | assumption | exact hA _ _ | exact hB _ _ | exact zrg_max (by assumption) (hA _ _) | (constructor <;> omega)) (by first | assumption | exact hA _ _ | exact hB _ _ | exact zrg_max (by assumption) (hA _ _) | (constructor <;> omega)) (fun hc => ?_) (fun hc => ?_)
  ·
    refine xg_step rfl rfl (fun k => rfl) ?_
    refine xg_step rfl rfl (fun k => rfl) ?_
    refine xg_step rfl rfl (fun k => rfl) ?_
    refine zg_cvv rfl rfl rfl (Nat.le_of_ble_eq_true rfl) (zha (by omega)) (zc_Server hs) rfl rfl (zr_59 hs hA ⟨by omega, by omega⟩ (by omega)) ?_
    refine xg_step rfl rfl (fun k => rfl) ?_
    refine xg_get rfl rfl (zha (by omega)) (zc_Server hs) rfl rfl ?_
    refine xg_step rfl rfl (fun k => rfl) ?_
    refine zg_geti (x := s) rfl rfl (zha (by omega)) (zc_Server hs) rfl ((zturn_0).trans hid) ?_
    refine xg_step rfl rfl (fun k => rfl) ?_
    refine xg_step rfl rfl (fun k => rfl) ?_
    refine zg_geti (x := max (min (A (66 + 17 * s) 0) (A (66 + 17 * s) 1)) (min (max (A (66 + 17 * s) 0) (A (66 + 17 * s) 1)) (A (66 + 17 * s) 2))) rfl rfl (zha (by omega)) (zc_Server hs) rfl (zturn_7) ?_
    refine xg_step rfl rfl (fun k => rfl) ?_
    refine xg_step rfl rfl (fun k => rfl) ?_
    refine zg_cvi rfl rfl rfl (Nat.le_of_ble_eq_true rfl) (zha (by decide)) zc_Book rfl rfl (zr_11 hGt hs (by omega) (by omega) (by omega) (by omega)) ?_
    refine xg_step rfl rfl (fun k => rfl) ?_
    refine xg_step rfl rfl (fun k => rfl) ?_
    refine zg_iret rfl rfl (zfitZ (by omega)) ?_
    (rw [zb2_t (by assumption), if_pos (by assumption)])
  ·
    refine xg_step rfl rfl (fun k => rfl) ?_
    refine zg_iret rfl rfl (zfitZ (by omega)) ?_
    (rw [zb2_f (by assumption), if_neg (by assumption)])
/-- a reply held against those that came before -/
def zanf (r s w i : Int) (A : ZM) : ZM := if A 53 r = 0 ∧ i ≠ s ∧ ¬ A 51 (r * 3 + i) = 0 ∧ A 52 (r * 3 + i) = w then zup (zup A 53 r 1) 54 r w else A
theorem zanf_id {r s w : Int} {A : ZM} (h : ¬ A 53 r = 0) : ∀ (n : Nat) (k l : Int), (l + 1 - k).toNat = n → zfi (zanf r s w) k l A = A
  | 0, k, l, e => zfi_N (by omega)
  | n + 1, k, l, e => by
    rw [zfi_S (by omega), show zanf r s w k A = A from if_neg (fun q => h q.1)]
    exact zanf_id h n (k + 1) l (by omega)
def zans (A : ZM) (r s w : Int) : ZM := zfi (zanf r s w) 0 2 (zup (zup A 51 (r * 3 + s) 1) 52 (r * 3 + s) w)
set_option maxRecDepth 10000 in
theorem zl_1 {d : Nat} {A B : ZM} {p q w : Int} (hA : zRg A) (hq : 0 ≤ q ∧ q < 60) (hp : 0 ≤ p ∧ p < 3) (hw : zrg w) (k : Int) (hk : 0 ≤ k ∧ k ≤ 3) {r : Option Value × XS} (hr : r = (none, zhp (zfi (zanf q p w) k 2 A) B)) : XG (d + 1) 1 48 [some (.ref 50), some (zci (q)), some (zci (p)), some (zci (w)), some (zci (q * 3)), some (zci (k))] [] (zhp A B) r := by
  refine xg_step rfl rfl (fun k => rfl) ?_
  refine xg_step rfl rfl (fun k => rfl) ?_
  refine zg_lt rfl rfl (fun x y k => rfl) (by first | assumption | exact hA _ _ | exact hB _ _ | exact zrg_max (by assumption) (hA _ _) | (constructor <;> omega)) (by first | assumption | exact hA _ _ | exact hB _ _ | exact zrg_max (by assumption) (hA _ _) | (constructor <;> omega)) (fun hc => ?_) (fun hc => ?_)
  ·
    refine xg_step rfl rfl (fun k => rfl) ?_
    refine xg_get rfl rfl (zha (by decide)) zc_Answers rfl rfl ?_
    refine xg_step rfl rfl (fun k => rfl) ?_
    refine zg_ald (.inr ⟨rfl, rfl⟩) (zha (by decide)) zc_aanswered (by decide) ⟨by omega, by omega⟩ rfl ?_
    refine zg_eq0 rfl rfl (fun x k => rfl) (by first | assumption | exact hA _ _ | exact hB _ _ | exact zrg_max (by assumption) (hA _ _) | (constructor <;> omega)) (fun hc => ?_) (fun hc => ?_)
    ·
      refine xg_step rfl rfl (fun k => rfl) ?_
      refine xg_step rfl rfl (fun k => rfl) ?_
      refine zg_eq rfl rfl (fun x y k => rfl) (by first | assumption | exact hA _ _ | exact hB _ _ | exact zrg_max (by assumption) (hA _ _) | (constructor <;> omega)) (by first | assumption | exact hA _ _ | exact hB _ _ | exact zrg_max (by assumption) (hA _ _) | (constructor <;> omega)) (fun hc => ?_) (fun hc => ?_)
      ·
        refine zg_inc rfl rfl rfl rfl ?_
        refine xg_step rfl rfl (fun k => rfl) ?_
        exact zl_1 hA hq hp hw (k + 1) (by omega) (hr.trans (zfi_m (by omega) (by first | exact if_pos (by omega) | exact if_neg (by omega))))
      ·
        refine xg_step rfl rfl (fun k => rfl) ?_
        refine xg_get rfl rfl (zha (by decide)) zc_Answers rfl rfl ?_
        refine xg_step rfl rfl (fun k => rfl) ?_
        refine xg_step rfl rfl (fun k => rfl) ?_
        refine zg_add rfl ?_
        refine zg_ald (.inr ⟨rfl, rfl⟩) (zha (by decide)) zc_abrought (by decide) ⟨by omega, by omega⟩ rfl ?_
        refine zg_eq0 rfl rfl (fun x k => rfl) (by first | assumption | exact hA _ _ | exact hB _ _ | exact zrg_max (by assumption) (hA _ _) | (constructor <;> omega)) (fun hc => ?_) (fun hc => ?_)
        ·
          refine zg_inc rfl rfl rfl rfl ?_
          refine xg_step rfl rfl (fun k => rfl) ?_
          exact zl_1 hA hq hp hw (k + 1) (by omega) (hr.trans (zfi_m (by omega) (by first | exact if_pos (by omega) | exact if_neg (by omega))))
        ·
          refine xg_step rfl rfl (fun k => rfl) ?_
          refine xg_get rfl rfl (zha (by decide)) zc_Answers rfl rfl ?_
          refine xg_step rfl rfl (fun k => rfl) ?_
          refine xg_step rfl rfl (fun k => rfl) ?_
          refine zg_add rfl ?_
          refine zg_ald (.inl ⟨rfl, rfl⟩) (zha (by decide)) zc_alast (by decide) ⟨by omega, by omega⟩ rfl ?_
          refine xg_step rfl rfl (fun k => rfl) ?_
          refine zg_eq rfl rfl (fun x y k => rfl) (by first | assumption | exact hA _ _ | exact hB _ _ | exact zrg_max (by assumption) (hA _ _) | (constructor <;> omega)) (by first | assumption | exact hA _ _ | exact hB _ _ | exact zrg_max (by assumption) (hA _ _) | (constructor <;> omega)) (fun hc => ?_) (fun hc => ?_)
          ·
            refine xg_step rfl rfl (fun k => rfl) ?_
            refine xg_get rfl rfl (zha (by decide)) zc_Answers rfl rfl ?_
            refine xg_step rfl rfl (fun k => rfl) ?_
            refine xg_step rfl rfl (fun k => rfl) ?_
            refine zg_ast (.inr ⟨rfl, rfl, by omega⟩) (zha (by decide)) zc_aanswered (by decide) ⟨by omega, by omega⟩ (zhwA (by omega) zw_aanswered) ?_
            refine xg_step rfl rfl (fun k => rfl) ?_
            refine xg_get rfl rfl (zha (by decide)) zc_Answers rfl rfl ?_
            refine xg_step rfl rfl (fun k => rfl) ?_
            refine xg_step rfl rfl (fun k => rfl) ?_
            refine zg_ast (.inl ⟨rfl, rfl⟩) (zha (by decide)) zc_aanswer (by decide) ⟨by omega, by omega⟩ (zhwA (by omega) zw_aanswer) ?_
            refine zg_inc rfl rfl rfl rfl ?_
            refine xg_step rfl rfl (fun k => rfl) ?_
            exact zl_1 (zRg_up (zRg_up hA (by first | assumption | exact hA _ _ | exact hB _ _ | exact zrg_max (by assumption) (hA _ _) | (constructor <;> omega))) (by first | assumption | exact hA _ _ | exact hB _ _ | exact zrg_max (by assumption) (hA _ _) | (constructor <;> omega))) hq hp hw (k + 1) (by omega) (hr.trans (zfi_m (by omega) (by first | exact if_pos (by omega) | exact if_neg (by omega))))
          ·
            refine zg_inc rfl rfl rfl rfl ?_
            refine xg_step rfl rfl (fun k => rfl) ?_
            exact zl_1 hA hq hp hw (k + 1) (by omega) (hr.trans (zfi_m (by omega) (by first | exact if_pos (by omega) | exact if_neg (by omega))))
    ·
      refine zg_ret rfl rfl ?_
      first | rw [hr, zfi_N (by omega)] | rw [hr, zanf_id (by assumption) _ k 2 rfl]
  ·
    refine zg_ret rfl rfl ?_
    first | rw [hr, zfi_N (by omega)] | rw [hr, zanf_id (by assumption) _ k 2 rfl]
termination_by (3 - k).toNat
decreasing_by all_goals omega
set_option maxRecDepth 10000 in
theorem zr_1 {d : Nat} {A B : ZM} {p q w : Int} (hA : zRg A) (hq : 0 ≤ q ∧ q < 60) (hp : 0 ≤ p ∧ p < 3) (hw : zrg w) : XR (d + 2) 1 [.ref 50, zci (q), zci (p), zci (w)] (zhp A B) (none, zhp (zans A q p w) B) := by
  refine XR.of (Nat.le_of_ble_eq_true rfl) rfl ?_
  refine xg_step rfl rfl (fun k => rfl) ?_
  refine zg_lt0 rfl rfl (fun x k => rfl) (by first | assumption | exact hA _ _ | exact hB _ _ | exact zrg_max (by assumption) (hA _ _) | (constructor <;> omega)) (fun hc => ?_) (fun hc => ?_)
  ·
    refine zg_ret rfl rfl ?_
    exact (by omega : False).elim
  ·
    refine xg_step rfl rfl (fun k => rfl) ?_
    refine zg_bi rfl (by decide) ?_
    refine zg_lt rfl rfl (fun x y k => rfl) (by first | assumption | exact hA _ _ | exact hB _ _ | exact zrg_max (by assumption) (hA _ _) | (constructor <;> omega)) (by first | assumption | exact hA _ _ | exact hB _ _ | exact zrg_max (by assumption) (hA _ _) | (constructor <;> omega)) (fun hc => ?_) (fun hc => ?_)
    ·
      refine xg_step rfl rfl (fun k => rfl) ?_
      refine zg_lt0 rfl rfl (fun x k => rfl) (by first | assumption | exact hA _ _ | exact hB _ _ | exact zrg_max (by assumption) (hA _ _) | (constructor <;> omega)) (fun hc => ?_) (fun hc => ?_)
      ·
        refine zg_ret rfl rfl ?_
        exact (by omega : False).elim
      ·
        refine xg_step rfl rfl (fun k => rfl) ?_
        refine xg_step rfl rfl (fun k => rfl) ?_
        refine zg_lt rfl rfl (fun x y k => rfl) (by first | assumption | exact hA _ _ | exact hB _ _ | exact zrg_max (by assumption) (hA _ _) | (constructor <;> omega)) (by first | assumption | exact hA _ _ | exact hB _ _ | exact zrg_max (by assumption) (hA _ _) | (constructor <;> omega)) (fun hc => ?_) (fun hc => ?_)
        ·
          refine xg_step rfl rfl (fun k => rfl) ?_
          refine xg_step rfl rfl (fun k => rfl) ?_
          refine zg_mul rfl ?_
          refine xg_step rfl rfl (fun k => rfl) ?_
          refine xg_step rfl rfl (fun k => rfl) ?_
          refine xg_get rfl rfl (zha (by decide)) zc_Answers rfl rfl ?_
          refine xg_step rfl rfl (fun k => rfl) ?_
          refine xg_step rfl rfl (fun k => rfl) ?_
          refine zg_add rfl ?_
          refine xg_step rfl rfl (fun k => rfl) ?_
          refine zg_ast (.inr ⟨rfl, rfl, by omega⟩) (zha (by decide)) zc_abrought (by decide) ⟨by omega, by omega⟩ (zhwA (by omega) zw_abrought) ?_
          refine xg_step rfl rfl (fun k => rfl) ?_
          refine xg_get rfl rfl (zha (by decide)) zc_Answers rfl rfl ?_
          refine xg_step rfl rfl (fun k => rfl) ?_
          refine xg_step rfl rfl (fun k => rfl) ?_
          refine zg_add rfl ?_
          refine xg_step rfl rfl (fun k => rfl) ?_
          refine zg_ast (.inl ⟨rfl, rfl⟩) (zha (by decide)) zc_alast (by decide) ⟨by omega, by omega⟩ (zhwA (by omega) zw_alast) ?_
          refine xg_step rfl rfl (fun k => rfl) ?_
          refine xg_step rfl rfl (fun k => rfl) ?_
          exact zl_1 (zRg_up (zRg_up hA (by first | assumption | exact hA _ _ | exact hB _ _ | exact zrg_max (by assumption) (hA _ _) | (constructor <;> omega))) (by first | assumption | exact hA _ _ | exact hB _ _ | exact zrg_max (by assumption) (hA _ _) | (constructor <;> omega))) hq hp hw 0 (by omega) rfl
        ·
          refine zg_ret rfl rfl ?_
          exact (by omega : False).elim
    ·
      refine zg_ret rfl rfl ?_
      exact (by omega : False).elim
