set_option maxRecDepth 10000 in
theorem zq_112 {d : Nat} {A B C : ZM} (hB : zRg B) (hC : zRg C) (hL : zLI B C) {s k : Int} (hs : 0 ≤ s ∧ s < 3) (hk : 1 ≤ k ∧ k ≤ B (44 + 2 * s) 1) (h0 : B (45 + 2 * s) (k * 5 + 0) = 0) : XR (d + 6) 112 [.ref 107, zci (s), zci (k)] (zhp A (zmg B C)) (some (zci (zb2 (¬ B (45 + 2 * s) (k * 5 + 4) = 0))), zhp A (zmg B C)) := by
  obtain ⟨hcN, hLm, h10, hLo⟩ := id hL
  have hcs := hcN s hs
  obtain ⟨⟨m0, m1, m2, m3⟩, q3, q0, q1, q2⟩ := hLm s k hs hk
  replace q0 := q0 h0
  have hor : 0 ≤ B 10 (B (45 + 2 * s) (k * 5 + 1)) ∧ B 10 (B (45 + 2 * s) (k * 5 + 1)) ≤ 100 := by
    by_cases e : B (45 + 2 * s) (k * 5 + 1) = 0
    · rw [e, h10]; omega
    · have e1 := (hLo (B (45 + 2 * s) (k * 5 + 1)) (by omega)).1
      have e2 := hcN (B (45 + 2 * s) (k * 5 + 1) % 3) (by omega)
      omega
  refine XR.of (Nat.le_of_ble_eq_true rfl) rfl ?_
  refine xg_step rfl rfl (fun k => rfl) ?_
  refine xg_get rfl rfl (zha (by decide)) zc_RefM rfl rfl ?_
  refine xg_step rfl rfl (fun k => rfl) ?_
  refine xg_step rfl rfl (fun k => rfl) ?_
  refine zg_csi rfl rfl (by decide) rfl rfl (Nat.le_of_ble_eq_true rfl) rfl (zq_106 hB hC) ?_
  refine zg_ald (.inl ⟨rfl, rfl⟩) (zha (by decide)) zc_r_views (by decide) ⟨by omega, by omega⟩ (zvB (zk_views (by omega) (by omega)) (by omega)) ?_
  refine xg_step rfl rfl (fun k => rfl) ?_
  refine xg_step rfl rfl (fun k => rfl) ?_
  refine xg_step rfl rfl (fun k => rfl) ?_
  refine zg_cvi rfl rfl rfl (Nat.le_of_ble_eq_true rfl) (zha (by decide)) zc_RefM rfl rfl (zq_111 hB hC hL (by omega)) ?_
  refine xg_step rfl rfl (fun k => rfl) ?_
  refine xg_step rfl rfl (fun k => rfl) ?_
  refine xg_step rfl rfl (fun k => rfl) ?_
  refine zg_rem rfl (by omega) ?_
  refine xg_step rfl rfl (fun k => rfl) ?_
  refine zg_eq rfl rfl (fun x y k => rfl) (by first | assumption | exact hA _ _ | exact hB _ _ | exact hC _ _ | exact zrg_max (by assumption) (hA _ _) | (constructor <;> omega)) (by first | assumption | exact hA _ _ | exact hB _ _ | exact hC _ _ | exact zrg_max (by assumption) (hA _ _) | (constructor <;> omega)) (fun hc => ?_) (fun hc => ?_)
  ·
    refine xg_step rfl rfl (fun k => rfl) ?_
    refine zg_gt0 rfl rfl (fun x k => rfl) (by first | assumption | exact hA _ _ | exact hB _ _ | exact hC _ _ | exact zrg_max (by assumption) (hA _ _) | (constructor <;> omega)) (fun hc => ?_) (fun hc => ?_)
    ·
      refine xg_step rfl rfl (fun k => rfl) ?_
      refine zg_eq0 rfl rfl (fun x k => rfl) (by first | assumption | exact hA _ _ | exact hB _ _ | exact hC _ _ | exact zrg_max (by assumption) (hA _ _) | (constructor <;> omega)) (fun hc => ?_) (fun hc => ?_)
      ·
        refine xg_step rfl rfl (fun k => rfl) ?_
        refine xg_step rfl rfl (fun k => rfl) ?_
        refine zg_iret rfl rfl (zfitZ (by omega)) ?_
        exact zl1 (q0.mpr (by first | (left; omega) | (right; left; omega) | (right; right; assumption)))
      ·
        refine xg_step rfl rfl (fun k => rfl) ?_
        refine xg_step rfl rfl (fun k => rfl) ?_
        refine zg_gt rfl rfl (fun x y k => rfl) (by first | assumption | exact hA _ _ | exact hB _ _ | exact hC _ _ | exact zrg_max (by assumption) (hA _ _) | (constructor <;> omega)) (by first | assumption | exact hA _ _ | exact hB _ _ | exact hC _ _ | exact zrg_max (by assumption) (hA _ _) | (constructor <;> omega)) (fun hc => ?_) (fun hc => ?_)
        ·
          refine xg_step rfl rfl (fun k => rfl) ?_
          refine xg_step rfl rfl (fun k => rfl) ?_
          refine zg_iret rfl rfl (zfitZ (by omega)) ?_
          exact zl1 (q0.mpr (by first | (left; omega) | (right; left; omega) | (right; right; assumption)))
        ·
          refine xg_step rfl rfl (fun k => rfl) ?_
          refine xg_step rfl rfl (fun k => rfl) ?_
          refine xg_step rfl rfl (fun k => rfl) ?_
          refine xg_step rfl rfl (fun k => rfl) ?_
          refine zg_cvb rfl rfl rfl (Nat.le_of_ble_eq_true rfl) (zha (by decide)) zc_RefM rfl rfl (zq_108 hB hC (by omega) (by first | assumption | exact hA _ _ | exact hB _ _ | exact hC _ _ | exact zrg_max (by assumption) (hA _ _) | (constructor <;> omega)) (by omega)) (fun hc => ?_) (fun hc => ?_)
          ·
            refine xg_step rfl rfl (fun k => rfl) ?_
            refine xg_step rfl rfl (fun k => rfl) ?_
            refine xg_step rfl rfl (fun k => rfl) ?_
            refine zg_iret rfl rfl (zfitZ (by omega)) ?_
            exact zl1 (q0.mpr (by first | (left; omega) | (right; left; omega) | (right; right; assumption)))
          ·
            refine xg_step rfl rfl (fun k => rfl) ?_
            refine xg_step rfl rfl (fun k => rfl) ?_
            refine zg_iret rfl rfl (zfitZ (by omega)) ?_
            exact zl0 (fun q => by rcases q0.mp q with q | q | q <;> first | omega | contradiction)
    ·
      refine xg_step rfl rfl (fun k => rfl) ?_
      refine xg_step rfl rfl (fun k => rfl) ?_
      refine xg_step rfl rfl (fun k => rfl) ?_
      refine xg_step rfl rfl (fun k => rfl) ?_
      refine zg_cvb rfl rfl rfl (Nat.le_of_ble_eq_true rfl) (zha (by decide)) zc_RefM rfl rfl (zq_108 hB hC (by omega) (by first | assumption | exact hA _ _ | exact hB _ _ | exact hC _ _ | exact zrg_max (by assumption) (hA _ _) | (constructor <;> omega)) (by omega)) (fun hc => ?_) (fun hc => ?_)
      ·
        refine xg_step rfl rfl (fun k => rfl) ?_
        refine xg_step rfl rfl (fun k => rfl) ?_
        refine xg_step rfl rfl (fun k => rfl) ?_
        refine zg_iret rfl rfl (zfitZ (by omega)) ?_
        exact zl1 (q0.mpr (by first | (left; omega) | (right; left; omega) | (right; right; assumption)))
      ·
        refine xg_step rfl rfl (fun k => rfl) ?_
        refine xg_step rfl rfl (fun k => rfl) ?_
        refine zg_iret rfl rfl (zfitZ (by omega)) ?_
        exact zl0 (fun q => by rcases q0.mp q with q | q | q <;> first | omega | contradiction)
  ·
    refine xg_step rfl rfl (fun k => rfl) ?_
    refine xg_step rfl rfl (fun k => rfl) ?_
    refine zg_iret rfl rfl (zfitZ (by omega)) ?_
    exact zl1 (q0.mpr (by first | (left; omega) | (right; left; omega) | (right; right; assumption)))
set_option maxRecDepth 10000 in
theorem zq_113 {d : Nat} {A B C : ZM} (hB : zRg B) (hC : zRg C) (hL : zLI B C) {s k : Int} (hs : 0 ≤ s ∧ s < 3) (hk : 1 ≤ k ∧ k ≤ B (44 + 2 * s) 1) (h1 : B (45 + 2 * s) (k * 5 + 0) = 1) : XR (d + 7) 113 [.ref 107, zci (s), zci (k)] (zhp A (zmg B C)) (some (zci (zb2 (¬ B (45 + 2 * s) (k * 5 + 4) = 0))), zhp A (zmg B C)) := by
  obtain ⟨hcN, hLm, h10, hLo⟩ := id hL
  have hcs := hcN s hs
  obtain ⟨⟨m0, m1, m2, m3⟩, q3, q0, q1, q2⟩ := hLm s k hs hk
  replace q1 := q1 h1
  have hcl := hcN (B (45 + 2 * s) (k * 5 + 1) % 3) (by omega)
  refine XR.of (Nat.le_of_ble_eq_true rfl) rfl ?_
  refine xg_step rfl rfl (fun k => rfl) ?_
  refine xg_step rfl rfl (fun k => rfl) ?_
  refine zg_csi rfl rfl (by decide) rfl rfl (Nat.le_of_ble_eq_true rfl) rfl (zq_106 hB hC) ?_
  refine xg_step rfl rfl (fun k => rfl) ?_
  refine xg_step rfl rfl (fun k => rfl) ?_
  refine xg_get rfl rfl (zha (by decide)) zc_RefM rfl rfl ?_
  refine xg_step rfl rfl (fun k => rfl) ?_
  refine zg_ald (.inl ⟨rfl, rfl⟩) (zha (by decide)) zc_r_views (by decide) ⟨by omega, by omega⟩ (zvB (zk_views (by omega) (by omega)) (by omega)) ?_
  refine xg_step rfl rfl (fun k => rfl) ?_
  refine xg_step rfl rfl (fun k => rfl) ?_
  refine xg_step rfl rfl (fun k => rfl) ?_
  refine zg_rem rfl (by omega) ?_
  refine xg_step rfl rfl (fun k => rfl) ?_
  refine xg_step rfl rfl (fun k => rfl) ?_
  refine xg_step rfl rfl (fun k => rfl) ?_
  refine zg_eq rfl rfl (fun x y k => rfl) (by first | assumption | exact hA _ _ | exact hB _ _ | exact hC _ _ | exact zrg_max (by assumption) (hA _ _) | (constructor <;> omega)) (by first | assumption | exact hA _ _ | exact hB _ _ | exact hC _ _ | exact zrg_max (by assumption) (hA _ _) | (constructor <;> omega)) (fun hc => ?_) (fun hc => ?_)
  ·
    refine xg_step rfl rfl (fun k => rfl) ?_
    refine zg_iret rfl rfl (zfitZ (by omega)) ?_
    exact zl1 (q1.mpr (by simp only [zVC]; first | (left; left; omega) | (left; right; left; assumption) | (left; right; right; left; omega) | (left; right; right; right; omega) | (right; omega)))
  ·
    refine xg_step rfl rfl (fun k => rfl) ?_
    refine xg_step rfl rfl (fun k => rfl) ?_
    refine xg_step rfl rfl (fun k => rfl) ?_
    refine xg_step rfl rfl (fun k => rfl) ?_
    refine zg_cvb rfl rfl rfl (Nat.le_of_ble_eq_true rfl) (zha (by decide)) zc_RefM rfl rfl (zq_108 hB hC (by omega) (by first | assumption | exact hA _ _ | exact hB _ _ | exact hC _ _ | exact zrg_max (by assumption) (hA _ _) | (constructor <;> omega)) (by omega)) (fun hc => ?_) (fun hc => ?_)
    ·
      refine xg_step rfl rfl (fun k => rfl) ?_
      refine xg_step rfl rfl (fun k => rfl) ?_
      refine zg_iret rfl rfl (zfitZ (by omega)) ?_
      exact zl1 (q1.mpr (by simp only [zVC]; first | (left; left; omega) | (left; right; left; assumption) | (left; right; right; left; omega) | (left; right; right; right; omega) | (right; omega)))
    ·
      refine xg_step rfl rfl (fun k => rfl) ?_
      refine xg_step rfl rfl (fun k => rfl) ?_
      refine xg_step rfl rfl (fun k => rfl) ?_
      refine xg_step rfl rfl (fun k => rfl) ?_
      refine xg_get rfl rfl (zha (by decide)) zc_RefM rfl rfl ?_
      refine xg_step rfl rfl (fun k => rfl) ?_
      refine zg_ald (.inl ⟨rfl, rfl⟩) (zha (by decide)) zc_r_as (by decide) ⟨by omega, by omega⟩ (zvB (zk_as (by omega) (by omega)) (by omega)) ?_
      refine zg_cvb rfl rfl rfl (Nat.le_of_ble_eq_true rfl) (zha (by decide)) zc_RefM rfl rfl (zq_107 hB hC (by omega) (by first | assumption | exact hA _ _ | exact hB _ _ | exact hC _ _ | exact zrg_max (by assumption) (hA _ _) | (constructor <;> omega))) (fun hc => ?_) (fun hc => ?_)
      ·
        refine xg_step rfl rfl (fun k => rfl) ?_
        refine xg_step rfl rfl (fun k => rfl) ?_
        refine xg_get rfl rfl (zha (by decide)) zc_RefM rfl rfl ?_
        refine xg_step rfl rfl (fun k => rfl) ?_
        refine xg_step rfl rfl (fun k => rfl) ?_
        refine xg_get rfl rfl (zha (by decide)) zc_RefM rfl rfl ?_
        refine xg_step rfl rfl (fun k => rfl) ?_
        refine zg_ald (.inl ⟨rfl, rfl⟩) (zha (by decide)) zc_r_as (by decide) ⟨by omega, by omega⟩ (zvB (zk_as (by omega) (by omega)) (by omega)) ?_
        refine zg_csi rfl rfl (by decide) rfl rfl (Nat.le_of_ble_eq_true rfl) rfl (zq_106 hB hC) ?_
        refine zg_ald (.inl ⟨rfl, rfl⟩) (zha (by decide)) zc_r_moment (by decide) ⟨by omega, by omega⟩ (zvC zk_moment (by omega)) ?_
        refine xg_step rfl rfl (fun k => rfl) ?_
        refine xg_get rfl rfl (zha (by decide)) zc_RefM rfl rfl ?_
        refine xg_step rfl rfl (fun k => rfl) ?_
        refine zg_ald (.inl ⟨rfl, rfl⟩) (zha (by decide)) zc_r_moment (by decide) ⟨by omega, by omega⟩ (zvC zk_moment (by omega)) ?_
        refine zg_gt rfl rfl (fun x y k => rfl) (by first | assumption | exact hA _ _ | exact hB _ _ | exact hC _ _ | exact zrg_max (by assumption) (hA _ _) | (constructor <;> omega)) (by first | assumption | exact hA _ _ | exact hB _ _ | exact hC _ _ | exact zrg_max (by assumption) (hA _ _) | (constructor <;> omega)) (fun hc => ?_) (fun hc => ?_)
        ·
          refine xg_step rfl rfl (fun k => rfl) ?_
          refine zg_iret rfl rfl (zfitZ (by omega)) ?_
          exact zl1 (q1.mpr (by simp only [zVC]; first | (left; left; omega) | (left; right; left; assumption) | (left; right; right; left; omega) | (left; right; right; right; omega) | (right; omega)))
        ·
          refine xg_step rfl rfl (fun k => rfl) ?_
          refine xg_step rfl rfl (fun k => rfl) ?_
          refine xg_get rfl rfl (zha (by decide)) zc_RefM rfl rfl ?_
          refine xg_step rfl rfl (fun k => rfl) ?_
          refine zg_ald (.inl ⟨rfl, rfl⟩) (zha (by decide)) zc_r_as (by decide) ⟨by omega, by omega⟩ (zvB (zk_as (by omega) (by omega)) (by omega)) ?_
          refine zg_csi rfl rfl (by decide) rfl rfl (Nat.le_of_ble_eq_true rfl) rfl (zq_106 hB hC) ?_
          refine xg_step rfl rfl (fun k => rfl) ?_
          refine xg_step rfl rfl (fun k => rfl) ?_
          refine xg_get rfl rfl (zha (by decide)) zc_RefM rfl rfl ?_
          refine xg_step rfl rfl (fun k => rfl) ?_
          refine zg_ald (.inl ⟨rfl, rfl⟩) (zha (by decide)) zc_r_kinds (by decide) ⟨by omega, by omega⟩ (zvB (zk_kinds (by omega) (by omega)) (by omega)) ?_
          refine zg_eq0 rfl rfl (fun x k => rfl) (by first | assumption | exact hA _ _ | exact hB _ _ | exact hC _ _ | exact zrg_max (by assumption) (hA _ _) | (constructor <;> omega)) (fun hc => ?_) (fun hc => ?_)
          ·
            refine xg_step rfl rfl (fun k => rfl) ?_
            refine xg_get rfl rfl (zha (by decide)) zc_RefM rfl rfl ?_
            refine xg_step rfl rfl (fun k => rfl) ?_
            refine zg_ald (.inl ⟨rfl, rfl⟩) (zha (by decide)) zc_r_views (by decide) ⟨by omega, by omega⟩ (zvB (zk_views (by omega) (by omega)) (by omega)) ?_
            refine xg_step rfl rfl (fun k => rfl) ?_
            refine zg_eq rfl rfl (fun x y k => rfl) (by first | assumption | exact hA _ _ | exact hB _ _ | exact hC _ _ | exact zrg_max (by assumption) (hA _ _) | (constructor <;> omega)) (by first | assumption | exact hA _ _ | exact hB _ _ | exact hC _ _ | exact zrg_max (by assumption) (hA _ _) | (constructor <;> omega)) (fun hc => ?_) (fun hc => ?_)
            ·
              refine xg_step rfl rfl (fun k => rfl) ?_
              refine xg_step rfl rfl (fun k => rfl) ?_
              refine xg_step rfl rfl (fun k => rfl) ?_
              refine xg_get rfl rfl (zha (by decide)) zc_RefM rfl rfl ?_
              refine xg_step rfl rfl (fun k => rfl) ?_
              refine zg_ald (.inl ⟨rfl, rfl⟩) (zha (by decide)) zc_r_as (by decide) ⟨by omega, by omega⟩ (zvB (zk_as (by omega) (by omega)) (by omega)) ?_
              refine zg_cvb rfl rfl rfl (Nat.le_of_ble_eq_true rfl) (zha (by decide)) zc_RefM rfl rfl (zq_112 hB hC hL (by omega) (by omega) (by omega)) (fun hc => ?_) (fun hc => ?_)
              ·
                refine xg_step rfl rfl (fun k => rfl) ?_
                refine xg_step rfl rfl (fun k => rfl) ?_
                refine xg_step rfl rfl (fun k => rfl) ?_
                refine xg_step rfl rfl (fun k => rfl) ?_
                refine xg_step rfl rfl (fun k => rfl) ?_
                refine xg_step rfl rfl (fun k => rfl) ?_
                refine zg_eq0 rfl rfl (fun x k => rfl) (by first | assumption | exact hA _ _ | exact hB _ _ | exact hC _ _ | exact zrg_max (by assumption) (hA _ _) | (constructor <;> omega)) (fun hc => ?_) (fun hc => ?_)
                ·
                  refine xg_step rfl rfl (fun k => rfl) ?_
                  refine xg_step rfl rfl (fun k => rfl) ?_
                  refine zg_iret rfl rfl (zfitZ (by omega)) ?_
                  exact zl1 (q1.mpr (by simp only [zVC]; first | (left; left; omega) | (left; right; left; assumption) | (left; right; right; left; omega) | (left; right; right; right; omega) | (right; omega)))
                ·
                  refine xg_step rfl rfl (fun k => rfl) ?_
                  refine xg_step rfl rfl (fun k => rfl) ?_
                  refine zg_cvi rfl rfl rfl (Nat.le_of_ble_eq_true rfl) (zha (by decide)) zc_RefM rfl rfl (zq_111 hB hC hL (by omega)) ?_
                  refine xg_step rfl rfl (fun k => rfl) ?_
                  refine xg_get rfl rfl (zha (by decide)) zc_RefM rfl rfl ?_
                  refine xg_step rfl rfl (fun k => rfl) ?_
                  refine zg_ald (.inl ⟨rfl, rfl⟩) (zha (by decide)) zc_r_as (by decide) ⟨by omega, by omega⟩ (zvB (zk_as (by omega) (by omega)) (by omega)) ?_
                  refine zg_eq rfl rfl (fun x y k => rfl) (by first | assumption | exact hA _ _ | exact hB _ _ | exact hC _ _ | exact zrg_max (by assumption) (hA _ _) | (constructor <;> omega)) (by first | assumption | exact hA _ _ | exact hB _ _ | exact hC _ _ | exact zrg_max (by assumption) (hA _ _) | (constructor <;> omega)) (fun hc => ?_) (fun hc => ?_)
                  ·
                    refine xg_step rfl rfl (fun k => rfl) ?_
                    refine zg_iret rfl rfl (zfitZ (by omega)) ?_
                    exact zl0 (fun q => by rcases q1.mp q with (q | q | q | q) | ⟨qa, qb⟩ <;> first | omega | contradiction)
                  ·
                    refine xg_step rfl rfl (fun k => rfl) ?_
                    refine xg_step rfl rfl (fun k => rfl) ?_
                    refine zg_iret rfl rfl (zfitZ (by omega)) ?_
                    exact zl1 (q1.mpr (by simp only [zVC]; first | (left; left; omega) | (left; right; left; assumption) | (left; right; right; left; omega) | (left; right; right; right; omega) | (right; omega)))
              ·
                refine xg_step rfl rfl (fun k => rfl) ?_
                refine xg_step rfl rfl (fun k => rfl) ?_
                refine xg_step rfl rfl (fun k => rfl) ?_
                refine xg_step rfl rfl (fun k => rfl) ?_
                refine xg_step rfl rfl (fun k => rfl) ?_
                refine xg_step rfl rfl (fun k => rfl) ?_
                refine xg_step rfl rfl (fun k => rfl) ?_
                refine zg_iret rfl rfl (zfitZ (by omega)) ?_
                exact zl0 (fun q => by rcases q1.mp q with (q | q | q | q) | ⟨qa, qb⟩ <;> first | omega | contradiction)
            ·
              refine xg_step rfl rfl (fun k => rfl) ?_
              refine xg_step rfl rfl (fun k => rfl) ?_
              refine xg_step rfl rfl (fun k => rfl) ?_
              refine xg_step rfl rfl (fun k => rfl) ?_
              refine xg_step rfl rfl (fun k => rfl) ?_
              refine zg_eq0 rfl rfl (fun x k => rfl) (by first | assumption | exact hA _ _ | exact hB _ _ | exact hC _ _ | exact zrg_max (by assumption) (hA _ _) | (constructor <;> omega)) (fun hc => ?_) (fun hc => ?_)
              ·
                refine xg_step rfl rfl (fun k => rfl) ?_
                refine xg_step rfl rfl (fun k => rfl) ?_
                refine zg_iret rfl rfl (zfitZ (by omega)) ?_
                exact zl1 (q1.mpr (by simp only [zVC]; first | (left; left; omega) | (left; right; left; assumption) | (left; right; right; left; omega) | (left; right; right; right; omega) | (right; omega)))
              ·
                refine xg_step rfl rfl (fun k => rfl) ?_
                refine xg_step rfl rfl (fun k => rfl) ?_
                refine zg_cvi rfl rfl rfl (Nat.le_of_ble_eq_true rfl) (zha (by decide)) zc_RefM rfl rfl (zq_111 hB hC hL (by omega)) ?_
                refine xg_step rfl rfl (fun k => rfl) ?_
                refine xg_get rfl rfl (zha (by decide)) zc_RefM rfl rfl ?_
                refine xg_step rfl rfl (fun k => rfl) ?_
                refine zg_ald (.inl ⟨rfl, rfl⟩) (zha (by decide)) zc_r_as (by decide) ⟨by omega, by omega⟩ (zvB (zk_as (by omega) (by omega)) (by omega)) ?_
                refine zg_eq rfl rfl (fun x y k => rfl) (by first | assumption | exact hA _ _ | exact hB _ _ | exact hC _ _ | exact zrg_max (by assumption) (hA _ _) | (constructor <;> omega)) (by first | assumption | exact hA _ _ | exact hB _ _ | exact hC _ _ | exact zrg_max (by assumption) (hA _ _) | (constructor <;> omega)) (fun hc => ?_) (fun hc => ?_)
                ·
                  refine xg_step rfl rfl (fun k => rfl) ?_
                  refine zg_iret rfl rfl (zfitZ (by omega)) ?_
                  exact zl0 (fun q => by rcases q1.mp q with (q | q | q | q) | ⟨qa, qb⟩ <;> first | omega | contradiction)
                ·
                  refine xg_step rfl rfl (fun k => rfl) ?_
                  refine xg_step rfl rfl (fun k => rfl) ?_
                  refine zg_iret rfl rfl (zfitZ (by omega)) ?_
                  exact zl1 (q1.mpr (by simp only [zVC]; first | (left; left; omega) | (left; right; left; assumption) | (left; right; right; left; omega) | (left; right; right; right; omega) | (right; omega)))
          ·
            refine xg_step rfl rfl (fun k => rfl) ?_
            refine xg_step rfl rfl (fun k => rfl) ?_
            refine xg_step rfl rfl (fun k => rfl) ?_
            refine xg_step rfl rfl (fun k => rfl) ?_
            refine xg_step rfl rfl (fun k => rfl) ?_
            refine zg_eq0 rfl rfl (fun x k => rfl) (by first | assumption | exact hA _ _ | exact hB _ _ | exact hC _ _ | exact zrg_max (by assumption) (hA _ _) | (constructor <;> omega)) (fun hc => ?_) (fun hc => ?_)
            ·
              refine xg_step rfl rfl (fun k => rfl) ?_
              refine xg_step rfl rfl (fun k => rfl) ?_
              refine zg_iret rfl rfl (zfitZ (by omega)) ?_
              exact zl1 (q1.mpr (by simp only [zVC]; first | (left; left; omega) | (left; right; left; assumption) | (left; right; right; left; omega) | (left; right; right; right; omega) | (right; omega)))
            ·
              refine xg_step rfl rfl (fun k => rfl) ?_
              refine xg_step rfl rfl (fun k => rfl) ?_
              refine zg_cvi rfl rfl rfl (Nat.le_of_ble_eq_true rfl) (zha (by decide)) zc_RefM rfl rfl (zq_111 hB hC hL (by omega)) ?_
              refine xg_step rfl rfl (fun k => rfl) ?_
              refine xg_get rfl rfl (zha (by decide)) zc_RefM rfl rfl ?_
              refine xg_step rfl rfl (fun k => rfl) ?_
              refine zg_ald (.inl ⟨rfl, rfl⟩) (zha (by decide)) zc_r_as (by decide) ⟨by omega, by omega⟩ (zvB (zk_as (by omega) (by omega)) (by omega)) ?_
              refine zg_eq rfl rfl (fun x y k => rfl) (by first | assumption | exact hA _ _ | exact hB _ _ | exact hC _ _ | exact zrg_max (by assumption) (hA _ _) | (constructor <;> omega)) (by first | assumption | exact hA _ _ | exact hB _ _ | exact hC _ _ | exact zrg_max (by assumption) (hA _ _) | (constructor <;> omega)) (fun hc => ?_) (fun hc => ?_)
              ·
                refine xg_step rfl rfl (fun k => rfl) ?_
                refine zg_iret rfl rfl (zfitZ (by omega)) ?_
                exact zl0 (fun q => by rcases q1.mp q with (q | q | q | q) | ⟨qa, qb⟩ <;> first | omega | contradiction)
              ·
                refine xg_step rfl rfl (fun k => rfl) ?_
                refine xg_step rfl rfl (fun k => rfl) ?_
                refine zg_iret rfl rfl (zfitZ (by omega)) ?_
                exact zl1 (q1.mpr (by simp only [zVC]; first | (left; left; omega) | (left; right; left; assumption) | (left; right; right; left; omega) | (left; right; right; right; omega) | (right; omega)))
      ·
        refine xg_step rfl rfl (fun k => rfl) ?_
        refine xg_step rfl rfl (fun k => rfl) ?_
        refine zg_iret rfl rfl (zfitZ (by omega)) ?_
        exact zl1 (q1.mpr (by simp only [zVC]; first | (left; left; omega) | (left; right; left; assumption) | (left; right; right; left; omega) | (left; right; right; right; omega) | (right; omega)))
set_option maxRecDepth 10000 in
theorem zq_114 {d : Nat} {A B C : ZM} (hB : zRg B) (hC : zRg C) (hL : zLI B C) {s k : Int} (hs : 0 ≤ s ∧ s < 3) (hk : 1 ≤ k ∧ k ≤ B (44 + 2 * s) 1) : XR (d + 8) 114 [.ref 107, zci (s), zci (k)] (zhp A (zmg B C)) (some (zci (zb2 (¬ B (45 + 2 * s) (k * 5 + 4) = 0))), zhp A (zmg B C)) := by
  obtain ⟨hcN, hLm, h10, hLo⟩ := id hL
  have hcs := hcN s hs
  obtain ⟨⟨m0, m1, m2, m3⟩, q3, q0, q1, q2⟩ := hLm s k hs hk
  refine XR.of (Nat.le_of_ble_eq_true rfl) rfl ?_
  refine xg_step rfl rfl (fun k => rfl) ?_
  refine xg_get rfl rfl (zha (by decide)) zc_RefM rfl rfl ?_
  refine xg_step rfl rfl (fun k => rfl) ?_
  refine xg_step rfl rfl (fun k => rfl) ?_
  refine zg_csi rfl rfl (by decide) rfl rfl (Nat.le_of_ble_eq_true rfl) rfl (zq_106 hB hC) ?_
  refine zg_ald (.inl ⟨rfl, rfl⟩) (zha (by decide)) zc_r_kinds (by decide) ⟨by omega, by omega⟩ (zvB (zk_kinds (by omega) (by omega)) (by omega)) ?_
  refine zg_swi 0 rfl rfl (fun k => rfl) (fun hc => ?_) (fun hc => ?_)
  ·
    refine xg_step rfl rfl (fun k => rfl) ?_
    refine xg_step rfl rfl (fun k => rfl) ?_
    refine xg_step rfl rfl (fun k => rfl) ?_
    refine zg_cvb rfl rfl rfl (Nat.le_of_ble_eq_true rfl) (zha (by decide)) zc_RefM rfl rfl (zq_112 hB hC hL (by omega) (by omega) (by omega)) (fun hc => ?_) (fun hc => ?_)
    ·
      refine zg_iret rfl rfl (zfitZ (by omega)) ?_
      exact zl1 (by assumption)
    ·
      refine zg_iret rfl rfl (zfitZ (by omega)) ?_
      first | exact zl0 (by assumption) | exact zl0 (fun q => q (q2 (by omega)))
  refine zg_swi 1 rfl rfl (fun k => rfl) (fun hc => ?_) (fun hc => ?_)
  ·
    refine xg_step rfl rfl (fun k => rfl) ?_
    refine xg_step rfl rfl (fun k => rfl) ?_
    refine xg_step rfl rfl (fun k => rfl) ?_
    refine zg_cvb rfl rfl rfl (Nat.le_of_ble_eq_true rfl) (zha (by decide)) zc_RefM rfl rfl (zq_113 hB hC hL (by omega) (by omega) (by assumption)) (fun hc => ?_) (fun hc => ?_)
    ·
      refine zg_iret rfl rfl (zfitZ (by omega)) ?_
      exact zl1 (by assumption)
    ·
      refine zg_iret rfl rfl (zfitZ (by omega)) ?_
      first | exact zl0 (by assumption) | exact zl0 (fun q => q (q2 (by omega)))
  refine zg_swi 2 rfl rfl (fun k => rfl) (fun hc => ?_) (fun hc => ?_)
  ·
    refine xg_step rfl rfl (fun k => rfl) ?_
    refine zg_iret rfl rfl (zfitZ (by omega)) ?_
    first | exact zl0 (by assumption) | exact zl0 (fun q => q (q2 (by omega)))
  refine zg_swi 3 rfl rfl (fun k => rfl) (fun hc => ?_) (fun hc => ?_)
  ·
    refine xg_step rfl rfl (fun k => rfl) ?_
    refine xg_step rfl rfl (fun k => rfl) ?_
    refine xg_step rfl rfl (fun k => rfl) ?_
    refine zg_cvb rfl rfl rfl (Nat.le_of_ble_eq_true rfl) (zha (by decide)) zc_RefM rfl rfl (zq_110' hB hC hL (by omega) (by omega) (by assumption)) (fun hc => ?_) (fun hc => ?_)
    ·
      refine zg_iret rfl rfl (zfitZ (by omega)) ?_
      exact zl1 (by assumption)
    ·
      refine zg_iret rfl rfl (zfitZ (by omega)) ?_
      first | exact zl0 (by assumption) | exact zl0 (fun q => q (q2 (by omega)))
  refine zg_swd rfl (by first | assumption | exact hA _ _ | exact hB _ _ | exact hC _ _ | exact zrg_max (by assumption) (hA _ _) | (constructor <;> omega)) (by omega) (fun k => rfl) ?_
  refine xg_step rfl rfl (fun k => rfl) ?_
  refine zg_iret rfl rfl (zfitZ (by omega)) ?_
  first | exact zl0 (by assumption) | exact zl0 (fun q => q (q2 (by omega)))
