/-! reading one message; reading on is allowed -/
section ZTA
variable {A C Y X : ZM} {t p k : Int}
theorem zOw_c (h : zOw Y t) (h59 : X (59 + 17 * t) = Y (59 + 17 * t)) (h44 : X (44 + 2 * t) = Y (44 + 2 * t)) : zOw X t := by
  unfold zOw
  rw [h59, h44]
  exact h
theorem zTk_Y (hI : zI Y C) (ho : zOw Y t) (ht : 0 ≤ t ∧ t < 3) (hp : 0 ≤ p ∧ p < 3) (hk : 1 ≤ k ∧ k ≤ Y (44 + 2 * p) 1) (hnx : Y (59 + 17 * t) p = k + 1) (hs : C 107 40 + 1 ≤ zSum Y) (hput : p = Y (56 + 17 * t) 7 % 3 → Y (45 + 2 * p) (k * 5 + 0) = 0 → Y (45 + 2 * p) (k * 5 + 1) = Y (56 + 17 * t) 7 → Y (60 + 17 * t) 2 + 1 ≤ zPC Y (Y (56 + 17 * t) 7 % 3) (Y (56 + 17 * t) 7) k) (hw : Y (45 + 2 * p) (k * 5 + 0) = 0 ∨ Y (45 + 2 * p) (k * 5 + 0) = 1 → Y (45 + 2 * p) (k * 5 + 4) = 0 → Y (45 + 2 * p) (k * 5 + 1) < Y (56 + 17 * t) 7 ∨ (Y (45 + 2 * p) (k * 5 + 1) = Y (56 + 17 * t) 7 ∧ ¬ Y (56 + 17 * t) 8 = 0)) : (∃ C', zI (ztake Y t p k) C') ∧ zFr Y (ztake Y t p k) t ∧ zV4 (ztake Y t p k) t ∧ ztake Y t p k (59 + 17 * t) = Y (59 + 17 * t) := by
  obtain ⟨hA, hC, hL, hR, hQ, hN, hSS, hXx⟩ := id hI
  obtain ⟨⟨a1, a2, a3, a4, a5, a6, a7, a8, a9, a10⟩, ⟨b1, b2, b3, b4, b5, b6⟩, c1⟩ := hSS t ht
  obtain ⟨⟨m0, m1, m2, m3⟩, -⟩ := hL.1.2.1 p k hp hk
  have hcp := hL.1.1 p hp
  have hid : (∃ C', zI Y C') ∧ zFr Y Y t ∧ zV4 Y t ∧ Y (59 + 17 * t) = Y (59 + 17 * t) := ⟨⟨C, hI⟩, zFr_l hI ht (fun _ _ => rfl) rfl rfl (Int.le_refl _) rfl, zOw_4 ho, rfl⟩
  unfold ztake
  by_cases h0 : ¬ Y (45 + 2 * p) (k * 5 + 4) = 0 ∨ Y (45 + 2 * p) (k * 5 + 1) < Y (56 + 17 * t) 7
  · rw [if_pos h0]; exact hid
  rw [if_neg h0]
  have hf : Y (45 + 2 * p) (k * 5 + 4) = 0 := Classical.byContradiction fun q => h0 (.inl q)
  have hv : ¬ Y (45 + 2 * p) (k * 5 + 1) < Y (56 + 17 * t) 7 := fun q => h0 (.inr q)
  by_cases k0 : Y (45 + 2 * p) (k * 5 + 0) = 0
  · rw [if_pos k0]
    have hva := (hw (.inl k0) hf).resolve_left hv
    have hpl := (zF0 hL hp hk k0 rfl hf).1
    rw [hva.1] at hpl
    have hpc := hput hpl.symm k0 hva.1
    obtain ⟨i1, h100⟩ := zI_put hI ht (k := k) (by rw [hpl]; exact hk) (by rw [hpl]; exact k0) (by rw [show Y (59 + 17 * t) (Y (56 + 17 * t) 7 % 3) = k + 1 by rw [hpl]; exact hnx, show k + 1 - 1 = k by omega]; exact hpc)
    have rn : ∀ b, b ≠ 60 + 17 * t → b ≠ 61 + 17 * t → zput Y t k b = Y b := fun b h1 h2 => zput_row h1 h2
    have f1 : zFr Y (zput Y t k) t := zFr_l hI ht (fun b hb => rn b (by omega) (by omega)) (by rw [rn _ (by omega) (by omega)]) (rn _ (by omega) (by omega)) (by rw [rn _ (by omega) (by omega)]; exact Int.le_refl _) (rn _ (by omega) (by omega))
    have o1 : zOw (zput Y t k) t := zOw_c ho (rn _ (by omega) (by omega)) (rn _ (by omega) (by omega))
    by_cases e : p = t
    · rw [if_pos e]
      exact ⟨⟨C, i1⟩, f1, zOw_4 o1, rn _ (by omega) (by omega)⟩
    · rw [if_neg e]
      obtain ⟨j1, j2, j3, j4⟩ := zI_entF i1 ht (kd := 1) (v := Y (56 + 17 * t) 7) (a := k) (b := 0) (by decide) a2 (by omega) (by decide) (fun q => absurd q (by decide)) o1 (fun _ => by rw [rn (56 + 17 * t) (by omega) (by omega)]; exact ⟨rfl, hva.2⟩)
      exact ⟨j1, zFr_t f1 j2, j3, j4.trans (rn _ (by omega) (by omega))⟩
  rw [if_neg k0]
  by_cases k1 : Y (45 + 2 * p) (k * 5 + 0) = 1
  · rw [if_pos k1]
    obtain ⟨z1, z2, z3⟩ := zF1 hL hp hk k1 rfl rfl hf
    have hc2 := hL.1.1 (Y (45 + 2 * p) (k * 5 + 1) % 3) (by omega)
    have e : zvote Y t (Y (45 + 2 * p) (k * 5 + 2)) = zup Y (62 + 17 * t) (Y (45 + 2 * p) (k * 5 + 2)) 1 := if_pos (by omega)
    rw [e]
    have rn : ∀ b, b ≠ 62 + 17 * t → zup Y (62 + 17 * t) (Y (45 + 2 * p) (k * 5 + 2)) 1 b = Y b := fun b h1 => zup_row h1
    exact ⟨⟨C, zI_vote hI ht z2.1⟩, zFr_l hI ht (fun b hb => rn b (by omega)) (by rw [rn _ (by omega)]) (rn _ (by omega)) (by rw [rn _ (by omega)]; exact Int.le_refl _) (rn _ (by omega)), zOw_4 (zOw_c ho (rn _ (by omega)) (rn _ (by omega))), rn _ (by omega)⟩
  rw [if_neg k1]
  by_cases k2 : Y (45 + 2 * p) (k * 5 + 0) = 2
  · rw [if_pos k2]
    have i1 := zI_note hI ht hp (k := k) (w := Y (45 + 2 * p) (k * 5 + 1)) (by omega) m1 (by omega) hs
    have rn : ∀ b, b ≠ 64 + 17 * t → b ≠ 65 + 17 * t → znote Y t (Y (45 + 2 * p) (k * 5 + 1)) (k * 3 + p) b = Y b := fun b h1 h2 => znote_row h1 h2
    have f1 : zFr Y (znote Y t (Y (45 + 2 * p) (k * 5 + 1)) (k * 3 + p)) t := zFr_l hI ht (fun b hb => rn b (by omega) (by omega)) (by rw [rn _ (by omega) (by omega)]) (rn _ (by omega) (by omega)) (by rw [rn _ (by omega) (by omega)]; exact Int.le_refl _) (rn _ (by omega) (by omega))
    have o1 : zOw (znote Y t (Y (45 + 2 * p) (k * 5 + 1)) (k * 3 + p)) t := zOw_c ho (rn _ (by omega) (by omega)) (rn _ (by omega) (by omega))
    have a8' := (i1.2.2.2.2.2.2.1 t ht).1.2.2.2.2.2.2.2.1
    generalize znote Y t (Y (45 + 2 * p) (k * 5 + 1)) (k * 3 + p) = Z at *
    split
    · obtain ⟨j1, j2, j3, j4⟩ := zI_entF i1 ht (kd := 3) (v := Y (56 + 17 * t) 7) (a := Z (64 + 17 * t) (Y (56 + 17 * t) 7)) (b := Z (65 + 17 * t) (Y (56 + 17 * t) 7)) (by decide) a2 (a8' _ a2).1 (a8' _ a2).2 (fun q => absurd q (by decide)) o1 (fun q => absurd q (by decide))
      exact ⟨j1, zFr_t f1 j2, j3, j4.trans (rn _ (by omega) (by omega))⟩
    · exact ⟨⟨_, i1⟩, f1, zOw_4 o1, rn _ (by omega) (by omega)⟩
  rw [if_neg k2]
  have k3 : Y (45 + 2 * p) (k * 5 + 0) = 3 := by omega
  by_cases hc : Y (56 + 17 * t) 7 < Y (45 + 2 * p) (k * 5 + 1) ∨ Y (56 + 17 * t) 8 = 0
  · rw [if_pos hc]
    obtain ⟨z1, z2, z3, z4⟩ := zF3 hL hp hk k3 rfl hf
    have i1 := zI_turn hI ht (w := Y (45 + 2 * p) (k * 5 + 1)) (on := 1) (by omega) (.inr rfl) (by omega) (fun _ => z3)
    have rn : ∀ b, b ≠ 56 + 17 * t → b ≠ 60 + 17 * t → b ≠ 62 + 17 * t → zturn Y t (Y (45 + 2 * p) (k * 5 + 1)) 1 b = Y b := fun b h1 h2 h3 => zturn_row h1 h2 h3
    obtain ⟨e1, e2, e3, -⟩ := zturn_at (A := Y) (t := t) (w := Y (45 + 2 * p) (k * 5 + 1)) (on := 1)
    have f1 : zFr Y (zturn Y t (Y (45 + 2 * p) (k * 5 + 1)) 1) t := zFr_l hI ht (fun b hb => rn b (by omega) (by omega) (by omega)) (e1 9 (by decide) (by decide)) (rn _ (by omega) (by omega) (by omega)) (by rw [e2]; omega) (rn _ (by omega) (by omega) (by omega))
    have o1 : zOw (zturn Y t (Y (45 + 2 * p) (k * 5 + 1)) 1) t := zOw_c ho (rn _ (by omega) (by omega) (by omega)) (rn _ (by omega) (by omega) (by omega))
    by_cases e : p = t
    · rw [if_pos e]
      exact ⟨⟨_, i1⟩, f1, zOw_4 o1, rn _ (by omega) (by omega) (by omega)⟩
    · rw [if_neg e]
      obtain ⟨j1, j2, j3, j4⟩ := zI_entF i1 ht (kd := 1) (v := Y (45 + 2 * p) (k * 5 + 1)) (a := k) (b := 0) (by decide) m1 (by omega) (by decide) (fun q => absurd q (by decide)) o1 (fun _ => by rw [e2, e3]; exact ⟨rfl, by decide⟩)
      exact ⟨j1, zFr_t f1 j2, j3, j4.trans (rn _ (by omega) (by omega) (by omega))⟩
  · rw [if_neg hc]; exact hid
/-- what its own message may be, or another's that does not wait -/
abbrev zRy (A : ZM) (t p k : Int) : Prop := A (45 + 2 * p) (k * 5 + 0) = 0 ∨ A (45 + 2 * p) (k * 5 + 0) = 1 → A (45 + 2 * p) (k * 5 + 4) = 0 → A (45 + 2 * p) (k * 5 + 1) < A (56 + 17 * t) 7 ∨ (A (45 + 2 * p) (k * 5 + 1) = A (56 + 17 * t) 7 ∧ ¬ A (56 + 17 * t) 8 = 0)
/-- ahead of reading: the next one is counted -/
theorem zNx_Y (hI : zI A C) (ht : 0 ≤ t ∧ t < 3) (hp : 0 ≤ p ∧ p < 3) (hn : A (59 + 17 * t) p = k) (hk : 1 ≤ k ∧ k ≤ A (44 + 2 * p) 1) (hw : zRy A t p k) (ho : (p = t ∧ k = A (44 + 2 * t) 1) ∨ (p ≠ t ∧ zOw A t)) {Y : ZM} (hY : Y = zup A (59 + 17 * t) p (k + 1)) : zI Y C ∧ zOw Y t ∧ (1 ≤ k ∧ k ≤ Y (44 + 2 * p) 1) ∧ Y (59 + 17 * t) p = k + 1 ∧ C 107 40 + 1 ≤ zSum Y ∧ (p = Y (56 + 17 * t) 7 % 3 → Y (45 + 2 * p) (k * 5 + 0) = 0 → Y (45 + 2 * p) (k * 5 + 1) = Y (56 + 17 * t) 7 → Y (60 + 17 * t) 2 + 1 ≤ zPC Y (Y (56 + 17 * t) 7 % 3) (Y (56 + 17 * t) 7) k) ∧ zRy Y t p k ∧ zFr A Y t := by
  subst hY
  obtain ⟨i1, i2, i3⟩ := zI_nx hI ht hp hn hk
  have rn : ∀ b, b ≠ 59 + 17 * t → zup A (59 + 17 * t) p (k + 1) b = A b := fun b hb => zup_row hb
  have hsm : zSm A (zup A (59 + 17 * t) p (k + 1)) := zSm_of (rn _ (by omega)) (fun c hc => rn c (by omega))
  refine ⟨i1, ?_, ?_, zup_eq ⟨rfl, rfl⟩, i2, ?_, ?_, zFr_l hI ht (fun b hb => rn b (by omega)) (by rw [rn _ (by omega)]) (rn _ (by omega)) (by rw [rn _ (by omega)]; exact Int.le_refl _) (rn _ (by omega))⟩
  · unfold zOw
    rw [rn (44 + 2 * t) (by omega)]
    rcases ho with q | q
    · rw [zup_eq ⟨rfl, q.1.symm⟩, q.2]
    · rw [zup_ne (fun z => q.1 z.2.symm)]; exact q.2
  · rw [zSm_4 hsm hp]; exact hk
  · rw [rn (56 + 17 * t) (by omega), rn (60 + 17 * t) (by omega), zSm_5 hsm hp, zPC_c hsm]
    exact i3
  · unfold zRy
    rw [rn (56 + 17 * t) (by omega), zSm_5 hsm hp]
    exact hw
theorem zV4_D {A : ZM} (ht : 0 ≤ t ∧ t < 3) (h : zV4 A t) : zV4 (zD A t) t := zV4_gr ht (zD_row (by omega) (by omega)) (zD_row (by omega) (by omega)) (zD_row (by omega) (by omega)) (zD_row (by omega) (by omega)) h
theorem zFr_D (hI : zI A C) (ht : 0 ≤ t ∧ t < 3) : zFr A (zD A t) t := by
  have hr : ∀ b, (b < 67 + 17 * t ∨ 72 + 17 * t < b) → b ≠ 60 + 17 * t → zD A t b = A b := fun b h1 h2 => zD_row h1 h2
  refine zFr_l hI ht (fun b hb => hr b (by omega) (by omega)) (by rw [hr _ (by omega) (by omega)]) (hr _ (by omega) (by omega)) (by rw [hr _ (by omega) (by omega)]; exact Int.le_refl _) (hr _ (by omega) (by omega))
/-- who is next -/
theorem zNS_c (hI : zI A C) (ht : 0 ≤ t ∧ t < 3) (hl : A (56 + 17 * t) 9 = 0) (h4 : zV4 A t) (hn : ¬ zNS A t = -1) : (0 ≤ zNS A t ∧ zNS A t < 3) ∧ (1 ≤ A (59 + 17 * t) (zNS A t) ∧ A (59 + 17 * t) (zNS A t) ≤ A (44 + 2 * zNS A t) 1) ∧ zRy A t (zNS A t) (A (59 + 17 * t) (zNS A t)) ∧ ((zNS A t = t ∧ A (59 + 17 * t) (zNS A t) = A (44 + 2 * t) 1) ∨ (zNS A t ≠ t ∧ zOw A t ∧ zRd A t (zNS A t))) := by
  obtain ⟨⟨a1, a2, a3, a4, a5, a6, a7, a8, a9, a10⟩, -⟩ := hI.2.2.2.2.2.2.1 t ht
  obtain ⟨q1, q2⟩ := h4 hl
  have hr := (zNS_rg (A := A) ht).resolve_left hn
  by_cases e : A (59 + 17 * t) t ≤ A (44 + 2 * t) 1
  · have e1 : zNS A t = t := if_pos e
    have e2 : A (59 + 17 * t) t = A (44 + 2 * t) 1 := by omega
    rw [e1]
    have hnt := a5 t ht
    refine ⟨ht, by omega, ?_, .inl ⟨rfl, e2⟩⟩
    intro z1 z2
    rw [e2] at z1 z2 ⊢
    exact .inr (q2 e2 z1 z2)
  · have e1 : zNS A t = zNSg A t 0 := if_neg e
    have hn5 := a5 t ht
    have hrd : zRd A t (zNS A t) := by
      rw [e1] at hn ⊢
      by_cases g0 : zRd A t 0
      · rw [zNSg_S (by omega), if_pos g0]; exact g0
      · rw [zNSg_S (by omega), if_neg g0] at hn ⊢
        by_cases g1 : zRd A t (0 + 1)
        · rw [zNSg_S (by omega), if_pos g1]; exact g1
        · rw [zNSg_S (by omega), if_neg g1] at hn ⊢
          by_cases g2 : zRd A t (0 + 1 + 1)
          · rw [zNSg_S (by omega), if_pos g2]; exact g2
          · rw [zNSg_S (by omega), if_neg g2, zNSg_N (by omega)] at hn
            exact absurd rfl hn
    have hnp := a5 _ hr
    have hb := a6 (zNS A t) (A (59 + 17 * t) (zNS A t)) hr (by have := hrd.2.1.1; omega) hrd.2.1.2
    refine ⟨hr, hb, fun z1 z2 => ?_, .inr ⟨hrd.1, by show A (59 + 17 * t) t = A (44 + 2 * t) 1 + 1; omega, hrd⟩⟩
    have hw := hrd.2.2
    generalize A (59 + 17 * t) (zNS A t) = k at *
    generalize zNS A t = p at *
    by_cases g : A (45 + 2 * p) (k * 5 + 1) < A (56 + 17 * t) 7
    · exact .inl g
    · refine .inr ?_
      have g2 : ¬ (A (56 + 17 * t) 7 < A (45 + 2 * p) (k * 5 + 1) ∨ (A (45 + 2 * p) (k * 5 + 1) = A (56 + 17 * t) 7 ∧ A (56 + 17 * t) 8 = 0)) := fun q => hw ⟨by omega, z2, q⟩
      exact ⟨by omega, fun q => g2 (.inr ⟨by omega, q⟩)⟩
/-- one step of the class's reading on -/
theorem zRS_ok (hI : zI A C) (ht : 0 ≤ t ∧ t < 3) (hl : A (56 + 17 * t) 9 = 0) (h4 : zV4 A t) (hn : ¬ zNS A t = -1) : zTk A t (zNS A t) (A (59 + 17 * t) (zNS A t)) ∧ zDok (ztake (zup A (59 + 17 * t) (zNS A t) (A (59 + 17 * t) (zNS A t) + 1)) t (zNS A t) (A (59 + 17 * t) (zNS A t))) t ∧ (∃ C', zI (zRS A t) C') ∧ zFr A (zRS A t) t ∧ zV4 (zRS A t) t := by
  obtain ⟨n1, n2, n3, n4⟩ := zNS_c hI ht hl h4 hn
  obtain ⟨⟨a1, a2, a3, a4, a5, a6, a7, a8, a9, a10⟩, ⟨b1, -⟩, -⟩ := hI.2.2.2.2.2.2.1 t ht
  obtain ⟨⟨m0, m1, m2, m3⟩, -⟩ := hI.2.2.1.1.2.1 _ _ n1 n2
  obtain ⟨y1, y2, y3, y4, y5, y6, y7, y8⟩ := zNx_Y hI ht n1 rfl n2 n3 (n4.imp id (fun q => ⟨q.1, q.2.1⟩)) rfl
  obtain ⟨⟨C', i1⟩, i2, i3, -⟩ := zTk_Y y1 y2 ht n1 y3 y4 y5 y6 y7
  obtain ⟨d1, d2, d3, d4, d5⟩ := zD_all i1 ht
  exact ⟨⟨n2, ⟨m0, m1⟩, a2, by omega, a8⟩, d1, ⟨_, d3⟩, zFr_t y8 (zFr_t i2 (zFr_D i1 ht)), zV4_D ht i3⟩
theorem zRok_mk (ht : 0 ≤ t ∧ t < 3) : ∀ (n : Nat) (A C : ZM), zI A C → A (56 + 17 * t) 9 = 0 → zV4 A t → zRok t n A
  | 0, _, _, _, _, _ => trivial
  | n + 1, A, C, hI, hl, h4 => by
    obtain ⟨⟨a1, a2, a3, a4, a5, a6, a7, a8, a9, a10⟩, -⟩ := hI.2.2.2.2.2.2.1 t ht
    refine ⟨⟨zI_G hI, a1, fun p hp => ?_, a6⟩, fun hn => ?_⟩
    · have := a5 p hp
      have := hI.2.2.1.1.1 p hp
      omega
    · obtain ⟨q1, q2, ⟨C', q3⟩, q4, q5⟩ := zRS_ok hI ht hl h4 hn
      exact ⟨q1, q2, zRok_mk ht n _ C' q3 (q4.2.2.1.trans hl) q5⟩
end ZTA
