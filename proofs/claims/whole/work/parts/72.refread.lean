/-! the reference's reading of one message -/
theorem zup_comm {A : ZM} {a b i j x y : Int} (h : a ≠ b) : zup (zup A a i x) b j y = zup (zup A b j y) a i x := by
  funext c l
  by_cases h1 : c = a ∧ l = i
  · rw [zup_ne (by omega), zup_eq h1, zup_eq h1]
  · rw [zup_ne (A := zup A b j y) h1]
    by_cases h2 : c = b ∧ l = j
    · rw [zup_eq h2, zup_eq h2]
    · rw [zup_ne h2, zup_ne h1, zup_ne h2]
section ZCM
variable {A : ZM} {t i x : Int}
theorem zdo_59 {r : Int} (ht : 0 ≤ t ∧ t < 3) : zdo (zup A (59 + 17 * t) i x) t r = zup (zdo A t r) (59 + 17 * t) i x := by
  have e : ∀ c : Int, c ≠ 59 + 17 * t → zup A (59 + 17 * t) i x c = A c := fun c hc => zup_row hc
  funext c
  by_cases hc : c = 59 + 17 * t
  · subst hc
    rw [zdo_row (by omega)]
    exact zup_cr (zdo_row (by omega)).symm
  · rw [zup_row hc]
    unfold zdo
    (try dsimp only)
    rw [e 3 (by omega), e (69 + 17 * t) (by omega), e 2 (by omega), e (67 + 17 * t) (by omega), e (68 + 17 * t) (by omega), e 5 (by omega), e 4 (by omega), e 6 (by omega)]
    have b1 := e c hc
    split
    · exact zup_cr (zup_cr b1)
    · exact zup_cr (zup_cr (zup_cr (zup_cr (zup_cr (zup_cr b1)))))
theorem zNT_59 : zNT (zup A (59 + 17 * t) i x) t = zNT A t := by
  unfold zNT
  rw [zup_row (b := 60 + 17 * t) (by omega), zup_row (b := 61 + 17 * t) (by omega), zup_row (b := 62 + 17 * t) (by omega)]
theorem zDN_59 (ht : 0 ≤ t ∧ t < 3) : zDN (zup A (59 + 17 * t) i x) t = zup (zDN A t) (59 + 17 * t) i x := by
  unfold zDN
  rw [zNT_59, zup_row (b := 56 + 17 * t) (by omega), zup_row (b := 60 + 17 * t) (by omega), zup_row (b := 45 + 2 * (A (56 + 17 * t) 7 % 3)) (by omega), zdo_59 ht, zup_comm (by omega)]
theorem zDP_59 (ht : 0 ≤ t ∧ t < 3) : ∀ (n : Nat) (A : ZM), zDP t n (zup A (59 + 17 * t) i x) = zup (zDP t n A) (59 + 17 * t) i x
  | 0, _ => rfl
  | n + 1, A => by
    rw [zDP_s, zDP_s, zNT_59]
    split
    · rfl
    · rw [zDN_59 ht, zDP_59 ht n]
theorem zDR_59 (ht : 0 ≤ t ∧ t < 3) (hq : A 11 (A (56 + 17 * t) 7) ≠ 59 + 17 * t) : zDR (zup A (59 + 17 * t) i x) t = zup (zDR A t) (59 + 17 * t) i x := by
  unfold zDR
  rw [zup_row (b := 56 + 17 * t) (by omega), zup_row (b := 11) (by omega), zup_row (b := -1) (by omega), zup_row (b := 67 + 17 * t) (by omega)]
  refine zfi_rel (R := fun X Y : ZM => X = zup Y (59 + 17 * t) i x) _ _ _ _ _ rfl (fun k X Y hk e => ?_) (zup_comm (by omega))
  subst e
  unfold zDRf
  rw [zup_row hq, zdo_59 ht]
theorem zD_59 (ht : 0 ≤ t ∧ t < 3) (hq : A 11 (A (56 + 17 * t) 7) ≠ 59 + 17 * t) : zD (zup A (59 + 17 * t) i x) t = zup (zD A t) (59 + 17 * t) i x := by
  have e56 : zup A (59 + 17 * t) i x (56 + 17 * t) = A (56 + 17 * t) := zup_row (by omega)
  have e60 : zup A (59 + 17 * t) i x (60 + 17 * t) = A (60 + 17 * t) := zup_row (by omega)
  have e62 : zup A (59 + 17 * t) i x (62 + 17 * t) = A (62 + 17 * t) := zup_row (by omega)
  have e10 : zup A (59 + 17 * t) i x 10 = A 10 := zup_row (by omega)
  unfold zD zVo
  rw [e56, e60, e62, e10, zDR_59 ht hq, zDP_59 ht, zDP_59 ht]
  (repeat' split) <;> rfl
theorem zFx_59 (h : zFx A t) : zFx (zup A (59 + 17 * t) i x) t := by
  unfold zFx zVo
  rw [zNT_59, zup_row (b := 56 + 17 * t) (by omega), zup_row (b := 60 + 17 * t) (by omega), zup_row (b := 62 + 17 * t) (by omega), zup_row (b := 10) (by omega)]
  exact h
end ZCM
theorem zI_15 {A C : ZM} (hI : zI A C) : 0 ≤ C 107 15 ∧ C 107 15 ≤ 300 := by
  have hL := hI.2.2.1
  have h0 := hL.1.1 0 (by decide)
  have h1 := hL.1.1 1 (by decide)
  have h2 := hL.1.1 2 (by decide)
  have := hL.2.2.1
  simp only [Int.reduceMul, Int.reduceAdd] at h0 h1 h2
  omega
/-- full: nothing is certified -/
theorem zCf {d : Nat} {Z A C : ZM} {t kd w a b : Int} (hI : zI A C) (ht : 0 ≤ t ∧ t < 3) (hkd : 0 ≤ kd ∧ kd < 1000) (hw : 0 ≤ w ∧ w < 1000) (ha : 0 ≤ a ∧ a < 1000) (hb : 0 ≤ b ∧ b < 1000) (hf : ¬ A (44 + 2 * t) 1 < 100) : XR (d + 1) 121 [.ref 107, zci t, zci kd, zci w, zci a, zci b] (zhp Z (zmg A C)) (some (zci (-1)), zhp Z (zmg A C)) := by
  have hc := hI.2.2.1.1.1 t ht
  have h15 := zI_15 hI
  exact zq_121f hI.1 hI.2.1 ht (zRw_2 hI.2.2.2.1).1 hc ⟨by omega, by omega⟩ ⟨by omega, by omega⟩ ⟨by omega, by omega⟩ ⟨by omega, by omega⟩ (by omega) (by omega)
section ZR1
variable {Z C Y : ZM} {t p k : Int}
theorem zOw_ent {W : ZM} {kd v a b : Int} (hI : zI W C) (H : zAr W t kd v a b) (ho : zOw W t) : ¬ zOw (zent W t kd v a b) t := by
  have ho' : W (59 + 17 * t) t = W (44 + 2 * t) 1 + 1 := ho
  have ht := H.2.1
  unfold zOw
  rw [zent_srv H (zRw_2 hI.2.2.2.1).2 (by omega), zent_cnt H ht, if_pos rfl]
  omega
theorem zno_ne {f g q : Int} (hq : q ≠ 0) : (zno f g q).1 ≠ 0 := by
  unfold zno
  by_cases h : f = 0
  · rw [if_pos h]; exact hq
  · rw [if_neg h]
    split
    · exact h
    · exact h
set_option maxHeartbeats 1000000 in
theorem zR1 (hI : zI Y C) (ho : zOw Y t) (ht : 0 ≤ t ∧ t < 3) (hp : 0 ≤ p ∧ p < 3) (hk : 1 ≤ k ∧ k ≤ Y (44 + 2 * p) 1) (hnx : Y (59 + 17 * t) p = k + 1) (hs : C 107 40 + 1 ≤ zSum Y) (hput : p = Y (56 + 17 * t) 7 % 3 → Y (45 + 2 * p) (k * 5 + 0) = 0 → Y (45 + 2 * p) (k * 5 + 1) = Y (56 + 17 * t) 7 → Y (60 + 17 * t) 2 + 1 ≤ zPC Y (Y (56 + 17 * t) 7 % 3) (Y (56 + 17 * t) 7) k) (hw : zRy Y t p k) (hX : zOw (ztake Y t p k) t) (d : Nat) : ∃ C', zI (ztake Y t p k) C' ∧ XR (d + 15) 122 [.ref 107, zci t, zci p, zci k] (zhp Z (zmg Y C)) (none, zhp Z (zmg (zD (ztake Y t p k) t) (zDC (ztake Y t p k) t C'))) := by
  obtain ⟨hA, hC, hL, hR, hQ, hN, hSS, hXx⟩ := id hI
  obtain ⟨⟨a1, a2, a3, a4, a5, a6, a7, a8, a9, a10⟩, ⟨b1, b2, b3, b4, b5, b6⟩, c1⟩ := hSS t ht
  obtain ⟨⟨m0, m1, m2, m3⟩, -, -, -, mch⟩ := hL.1.2.1 p k hp hk
  have hcp := hL.1.1 p hp
  have h909 := zCx_909 hI
  have hk1 : 1 ≤ k ∧ k ≤ 100 := by omega
  have hvr : zrg (Y (56 + 17 * t) 7) := ⟨by omega, by omega⟩
  unfold ztake at hX ⊢
  by_cases hf : Y (45 + 2 * p) (k * 5 + 4) = 0
  · by_cases hv : Y (45 + 2 * p) (k * 5 + 1) < Y (56 + 17 * t) 7
    · rw [if_pos (.inr hv)]
      by_cases k2 : Y (45 + 2 * p) (k * 5 + 0) = 2
      · have i1 := zI_ch hI ht hp hk1 m1 hv hs
        refine ⟨_, i1, ?_⟩
        have hm : XR (d + 14) 125 [.ref 107, zci t, zci p, zci k, zci (Y (45 + 2 * p) (k * 5 + 1))] (zhp Z (zmg Y C)) (none, zhp Z (zmg Y (zch C t p k (Y (45 + 2 * p) (k * 5 + 1))))) := by
          have := zq_125e (d := d + 13) (A := Z) hA hC ht hp hk1 m1 (by omega) hvr (.inl (by omega))
          rw [znote_gh ht] at this
          exact this
        exact zq_122h hA hC hL.1 ht hp hk k2 hf hA i1.2.1 hm (zD_all i1 ht).2.1
      · refine ⟨C, hI, zq_122v hA hC hL.1 ht hp hk ?_ (zD_all hI ht).2.1⟩
        by_cases k3 : Y (45 + 2 * p) (k * 5 + 0) = 3
        · exact .inr (.inr ⟨k3, by omega⟩)
        · exact .inr (.inl ⟨by omega, by omega⟩)
    · have h0 : ¬ (¬ Y (45 + 2 * p) (k * 5 + 4) = 0 ∨ Y (45 + 2 * p) (k * 5 + 1) < Y (56 + 17 * t) 7) := fun q => q.elim (fun z => z hf) hv
      rw [if_neg h0] at hX ⊢
      by_cases k0 : Y (45 + 2 * p) (k * 5 + 0) = 0
      · rw [if_pos k0] at hX ⊢
        have hva := (hw (.inl k0) hf).resolve_left hv
        have hpl := (zF0 hL hp hk k0 rfl hf).1
        rw [hva.1] at hpl
        have hpc := hput hpl.symm k0 hva.1
        obtain ⟨i1, h100⟩ := zI_put hI ht (k := k) (by rw [hpl]; exact hk) (by rw [hpl]; exact k0) (by rw [show Y (59 + 17 * t) (Y (56 + 17 * t) 7 % 3) = k + 1 by rw [hpl]; exact hnx, show k + 1 - 1 = k by omega]; exact hpc)
        have o1 : zOw (zput Y t k) t := zOw_c ho (zput_row (by omega) (by omega)) (zput_row (by omega) (by omega))
        have e : (if p = t then zput Y t k else zentF (zput Y t k) t 1 (Y (56 + 17 * t) 7) k 0) = zput Y t k ∧ XR (d + 14) 123 [.ref 107, zci t, zci k] (zhp Z (zmg Y C)) (none, zhp Z (zmg (zput Y t k) C)) := by
          by_cases e : p = t
          · exact ⟨if_pos e, zq_123l (d := d + 12) hA hC ht hk1 (by omega) a2 (by omega)⟩
          · rw [if_neg e] at hX ⊢
            by_cases hful : zput Y t k (44 + 2 * t) 1 < 100
            · obtain ⟨H, -, -⟩ := zI_ent i1 ht (kd := 1) (v := Y (56 + 17 * t) 7) (a := k) (b := 0) (by decide) a2 (by omega) (by decide) hful (fun q => absurd q (by decide))
              unfold zentF at hX
              rw [if_pos hful] at hX
              exact absurd hX (zOw_ent i1 H o1)
            · exact ⟨if_neg hful, zq_123n (d := d + 12) hA hC ht hk1 (by omega) a2 (by omega) (zCf i1 ht (by decide) (by omega) (by omega) (by decide) hful)⟩
        rw [e.1]
        exact ⟨C, i1, zq_122p hA hC hL.1 ht hp hk k0 hf hva.1 hva.2 i1.1 hC e.2 (zD_all i1 ht).2.1⟩
      rw [if_neg k0] at hX ⊢
      by_cases k1 : Y (45 + 2 * p) (k * 5 + 0) = 1
      · rw [if_pos k1]
        have hva := (hw (.inr k1) hf).resolve_left hv
        obtain ⟨z1, z2, z3⟩ := zF1 hL hp hk k1 rfl rfl hf
        have hc2 := hL.1.1 (Y (45 + 2 * p) (k * 5 + 1) % 3) (by omega)
        have e : zvote Y t (Y (45 + 2 * p) (k * 5 + 2)) = zup Y (62 + 17 * t) (Y (45 + 2 * p) (k * 5 + 2)) 1 := if_pos (by omega)
        have i1 : zI (zvote Y t (Y (45 + 2 * p) (k * 5 + 2))) C := by rw [e]; exact zI_vote hI ht z2.1
        exact ⟨C, i1, zq_122c hA hC hL.1 ht hp hk k1 hf hva.1 hva.2 (by omega) (zD_all i1 ht).2.1⟩
      rw [if_neg k1] at hX ⊢
      by_cases k2 : Y (45 + 2 * p) (k * 5 + 0) = 2
      · rw [if_pos k2] at hX ⊢
        have i1 := zI_note hI ht hp (k := k) (w := Y (45 + 2 * p) (k * 5 + 1)) hk1 m1 (by omega) hs
        have o1 : zOw (znote Y t (Y (45 + 2 * p) (k * 5 + 1)) (k * 3 + p)) t := zOw_c ho (znote_row (by omega) (by omega)) (znote_row (by omega) (by omega))
        have n56 : znote Y t (Y (45 + 2 * p) (k * 5 + 1)) (k * 3 + p) (56 + 17 * t) = Y (56 + 17 * t) := znote_row (by omega) (by omega)
        have hcq := ((i1.2.2.2.2.2.2.1 t ht).2.2 (Y (45 + 2 * p) (k * 5 + 1)) (by rw [n56]; omega) m1.2).1
        have hfn : znote Y t (Y (45 + 2 * p) (k * 5 + 1)) (k * 3 + p) (64 + 17 * t) (Y (45 + 2 * p) (k * 5 + 1)) ≠ 0 := by
          rw [znote_at.1, if_pos rfl]
          exact zno_ne (by omega)
        have a8' := (i1.2.2.2.2.2.2.1 t ht).1.2.2.2.2.2.2.2.1
        have e : (if Y (45 + 2 * p) (k * 5 + 1) = Y (56 + 17 * t) 7 ∧ Y (56 + 17 * t) 8 = 0 ∧ Y (56 + 17 * t) 7 % 3 = t ∧ ¬ znote Y t (Y (45 + 2 * p) (k * 5 + 1)) (k * 3 + p) (65 + 17 * t) (Y (56 + 17 * t) 7) = 0 then zentF (znote Y t (Y (45 + 2 * p) (k * 5 + 1)) (k * 3 + p)) t 3 (Y (56 + 17 * t) 7) (znote Y t (Y (45 + 2 * p) (k * 5 + 1)) (k * 3 + p) (64 + 17 * t) (Y (56 + 17 * t) 7)) (znote Y t (Y (45 + 2 * p) (k * 5 + 1)) (k * 3 + p) (65 + 17 * t) (Y (56 + 17 * t) 7)) else znote Y t (Y (45 + 2 * p) (k * 5 + 1)) (k * 3 + p)) = znote Y t (Y (45 + 2 * p) (k * 5 + 1)) (k * 3 + p) ∧ XR (d + 14) 125 [.ref 107, zci t, zci p, zci k, zci (Y (45 + 2 * p) (k * 5 + 1))] (zhp Z (zmg Y C)) (none, zhp Z (zmg (znote Y t (Y (45 + 2 * p) (k * 5 + 1)) (k * 3 + p)) (zch C t p k (Y (45 + 2 * p) (k * 5 + 1))))) := by
          by_cases hcc : Y (45 + 2 * p) (k * 5 + 1) = Y (56 + 17 * t) 7 ∧ Y (56 + 17 * t) 8 = 0 ∧ Y (56 + 17 * t) 7 % 3 = t
          · by_cases hg : znote Y t (Y (45 + 2 * p) (k * 5 + 1)) (k * 3 + p) (65 + 17 * t) (Y (56 + 17 * t) 7) = 0
            · refine ⟨if_neg (fun q => q.2.2.2 hg), ?_⟩
              exact zq_125n (d := d + 12) hA hC ht hp hk1 m1 (by omega) hvr hcc.1 hcc.2.1 (by rw [hcc.1]; exact hcc.2.2) i1.2.1 hcq hfn (by rw [hcc.1] at hg ⊢; exact hg)
            · rw [if_pos ⟨hcc.1, hcc.2.1, hcc.2.2, hg⟩] at hX ⊢
              by_cases hful : znote Y t (Y (45 + 2 * p) (k * 5 + 1)) (k * 3 + p) (44 + 2 * t) 1 < 100
              · obtain ⟨H, -, -⟩ := zI_ent i1 ht (kd := 3) (v := Y (56 + 17 * t) 7) (by decide) a2 (a8' _ a2).1 (a8' _ a2).2 hful (fun q => absurd q (by decide))
                unfold zentF at hX
                rw [if_pos hful] at hX
                exact absurd hX (zOw_ent i1 H o1)
              · refine ⟨if_neg hful, ?_⟩
                have hcf := zCf (d := d + 12) (Z := Z) i1 ht (kd := 3) (w := Y (45 + 2 * p) (k * 5 + 1)) (by decide) (by omega) (a8' _ a2).1 (a8' _ a2).2 hful
                refine zq_125y (d := d + 12) hA hC ht hp hk1 m1 (by omega) hvr hcc.1 hcc.2.1 (by rw [hcc.1]; exact hcc.2.2) i1.2.1 hcq (by rw [hcc.1] at hg ⊢; exact hg) (rv := -1) ?_
                rw [← hcc.1] at hcf
                exact hcf
          · refine ⟨if_neg (fun q => hcc ⟨q.1, q.2.1, q.2.2.1⟩), zq_125e (d := d + 13) hA hC ht hp hk1 m1 (by omega) hvr ?_⟩
            by_cases q1 : Y (45 + 2 * p) (k * 5 + 1) = Y (56 + 17 * t) 7
            · by_cases q2 : Y (56 + 17 * t) 8 = 0
              · exact .inr (.inr (fun q3 => hcc ⟨q1, q2, by rw [← q1]; exact q3⟩))
              · exact .inr (.inl q2)
            · exact .inl q1
        rw [e.1]
        exact ⟨_, i1, zq_122h hA hC hL.1 ht hp hk k2 hf i1.1 i1.2.1 e.2 (zD_all i1 ht).2.1⟩
      rw [if_neg k2] at hX ⊢
      have k3 : Y (45 + 2 * p) (k * 5 + 0) = 3 := by omega
      by_cases hc : Y (56 + 17 * t) 7 < Y (45 + 2 * p) (k * 5 + 1) ∨ Y (56 + 17 * t) 8 = 0
      · rw [if_pos hc] at hX ⊢
        obtain ⟨z1, z2, z3, z4⟩ := zF3 hL hp hk k3 rfl hf
        have i1 := zI_turn hI ht (w := Y (45 + 2 * p) (k * 5 + 1)) (on := 1) (by omega) (.inr rfl) (by omega) (fun _ => z3)
        have o1 : zOw (zturn Y t (Y (45 + 2 * p) (k * 5 + 1)) 1) t := zOw_c ho (zturn_row (by omega) (by omega) (by omega)) (zturn_row (by omega) (by omega) (by omega))
        have e : (if p = t then zturn Y t (Y (45 + 2 * p) (k * 5 + 1)) 1 else zentF (zturn Y t (Y (45 + 2 * p) (k * 5 + 1)) 1) t 1 (Y (45 + 2 * p) (k * 5 + 1)) k 0) = zturn Y t (Y (45 + 2 * p) (k * 5 + 1)) 1 ∧ XR (d + 14) 124 [.ref 107, zci t, zci k, zci (Y (45 + 2 * p) (k * 5 + 1))] (zhp Z (zmg Y C)) (none, zhp Z (zmg (zturn Y t (Y (45 + 2 * p) (k * 5 + 1)) 1) (zup C 140 t 0))) := by
          by_cases e : p = t
          · exact ⟨if_pos e, zq_124l (d := d + 11) hA hC ht hk1 m1 (by omega)⟩
          · rw [if_neg e] at hX ⊢
            by_cases hful : zturn Y t (Y (45 + 2 * p) (k * 5 + 1)) 1 (44 + 2 * t) 1 < 100
            · obtain ⟨H, -, -⟩ := zI_ent i1 ht (kd := 1) (v := Y (45 + 2 * p) (k * 5 + 1)) (a := k) (b := 0) (by decide) m1 (by omega) (by decide) hful (fun q => absurd q (by decide))
              unfold zentF at hX
              rw [if_pos hful] at hX
              exact absurd hX (zOw_ent i1 H o1)
            · exact ⟨if_neg hful, zq_124n (d := d + 11) hA hC ht hk1 m1 (by omega) (zCf (d := d + 12) i1 ht (by decide) (by omega) (by omega) (by decide) hful)⟩
        rw [e.1]
        exact ⟨_, i1, zq_122n hA hC hL.1 ht hp hk k3 hf (by omega) i1.1 i1.2.1 e.2 (zD_all i1 ht).2.1⟩
      · rw [if_neg hc]
        exact ⟨C, hI, zq_122v hA hC hL.1 ht hp hk (.inr (.inr ⟨k3, by omega⟩)) (zD_all hI ht).2.1⟩
  · rw [if_pos (.inl hf)]
    exact ⟨C, hI, zq_122v hA hC hL.1 ht hp hk (.inl hf) (zD_all hI ht).2.1⟩
end ZR1
