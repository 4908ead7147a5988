/-! the calls: class and reference alike; those that read nothing -/
def zInv (σ : XS) : Prop := ∃ A C : ZM, σ = zhp A (zmg A C) ∧ zRg C ∧ zGd A (zup C 107 0 0)
theorem zok {A B C : ZM} : lwOk 0 107 (zhp A (zmg B C)) := ⟨⟨zha (by decide), _, zc_House⟩, zha (by decide), _, zc_RefM⟩
theorem zup_sf {C : ZM} {a i x : Int} (h : C a i = x) : zup C a i x = C := by
  funext b j
  by_cases e : b = a ∧ j = i
  · rw [zup_eq e, e.1, e.2, h]
  · rw [zup_ne e]
section ZFC
variable {uc um : Nat} {is : List Value} {codes : List (Nat × Int32)} {A C A' C' : ZM} {r b : Int}
theorem zInv_0 (hg : zGd A C) : zInv (zhp A (zmg A C))   := ⟨A, C, rfl, hg.1.2.1, by rw [zup_sf hg.1.2.2.2.2.2.2.2.2.2]; exact hg⟩
theorem z104 {e : Int} (hA : zRg A) (hC : zRg C) (h : C 107 0 = e) : XR 60 104 [.ref 107] (zhp A' (zmg A C)) (some (zci e), zhp A' (zmg A C)) := by
  have := zq_104 (d := 59) (A := A') hA hC
  rw [h] at this
  exact this
theorem zlwI (h1 : XR 60 uc (.ref 0 :: is) (zhp A (zmg A C)) (some (zci r), zhp A' (zmg A C))) (h2 : XR 60 um (.ref 107 :: is) (zhp A' (zmg A C)) (some (zci r), zhp A' (zmg A' C'))) (hg : zGd A' C') : lwI 60 0 107 uc um is codes zInv (zhp A (zmg A C)) := by
  obtain ⟨N1, h1⟩ := h1
  obtain ⟨N2, h2⟩ := h2
  obtain ⟨N3, h3⟩ := z104 (A' := A') hg.1.1 hg.1.2.1 hg.1.2.2.2.2.2.2.2.2.2
  exact .inl ⟨N1, N2, N3, _, _, _, h1, zok, h2, zok, h3, zInv_0 hg⟩
theorem zlwX {E : Nat} {k : Int32} {kk : Int} (h1 : XX 60 uc (.ref 0 :: is) (zhp A (zmg A C)) E) (hE : (E, k) ∈ codes) (h2 : XR 60 um (.ref 107 :: is) (zhp A (zmg A C)) (some (zci b), zhp A (zmg A (zup C 107 0 kk)))) (hk : k = Int32.ofInt kk) (hkk : zrg kk) (hC : zRg C) (hg : zGd A (zup C 107 0 0)) : lwI 60 0 107 uc um is codes zInv (zhp A (zmg A C)) := by
  obtain ⟨N1, h1⟩ := h1
  obtain ⟨N2, h2⟩ := h2
  obtain ⟨N3, h3⟩ := z104 (A' := A) (C := zup C 107 0 kk) hg.1.1 (zRg_up hC hkk) (zup_eq ⟨rfl, rfl⟩)
  subst hk
  exact .inr ⟨N1, N2, N3, E, _, _, _, _, h1 N1 (Nat.le_refl _), hE, zok, h2, zok, h3, A, _, rfl, zRg_up hC hkk, by rw [zup_zup]; exact hg⟩
theorem zlwV (h1 : XR 60 uc (.ref 0 :: is) (zhp A (zmg A C)) (none, zhp A' (zmg A C))) (h2 : XR 60 um (.ref 107 :: is) (zhp A' (zmg A C)) (none, zhp A' (zmg A' C'))) (hg : zGd A' C') : lwV 60 0 107 uc um is codes zInv (zhp A (zmg A C)) := by
  obtain ⟨N1, h1⟩ := h1
  obtain ⟨N2, h2⟩ := h2
  obtain ⟨N3, h3⟩ := z104 (A' := A') hg.1.1 hg.1.2.1 hg.1.2.2.2.2.2.2.2.2.2
  exact .inl ⟨N1, N2, N3, _, _, h1, zok, h2, zok, h3, zInv_0 hg⟩
theorem zlwVX {E : Nat} {k : Int32} {kk : Int} (h1 : XX 60 uc (.ref 0 :: is) (zhp A (zmg A C)) E) (hE : (E, k) ∈ codes) (h2 : XR 60 um (.ref 107 :: is) (zhp A (zmg A C)) (none, zhp A (zmg A (zup C 107 0 kk)))) (hk : k = Int32.ofInt kk) (hkk : zrg kk) (hC : zRg C) (hg : zGd A (zup C 107 0 0)) : lwV 60 0 107 uc um is codes zInv (zhp A (zmg A C)) := by
  obtain ⟨N1, h1⟩ := h1
  obtain ⟨N2, h2⟩ := h2
  obtain ⟨N3, h3⟩ := z104 (A' := A) (C := zup C 107 0 kk) hg.1.1 (zRg_up hC hkk) (zup_eq ⟨rfl, rfl⟩)
  subst hk
  exact .inr ⟨N1, N2, N3, E, _, _, _, h1 N1 (Nat.le_refl _), hE, zok, h2, zok, h3, A, _, rfl, zRg_up hC hkk, by rw [zup_zup]; exact hg⟩
end ZFC
theorem zr1 : zrg 1 := ⟨by decide, by decide⟩
theorem zr2 : zrg 2 := ⟨by decide, by decide⟩
theorem zr3 : zrg 3 := ⟨by decide, by decide⟩
section ZFD
variable {A C : ZM} {p q k r v w kd a b c n : Int}
theorem zGd_z (hg : zGd A (zup C 107 0 0)) : ∀ s, 0 ≤ s ∧ s < 3 → A (56 + 17 * s) 9 = 0 ∨ A (56 + 17 * s) 9 = 1 := fun s hs => (hg.1.2.2.2.2.2.2.1 s hs).1.2.2.2.1
theorem zf_76 (hC : zRg C) (hg : zGd A (zup C 107 0 0)) (hc : zrg c) (hk : zrg k) (hq : zrg q) (hn : zrg n) : lwI 60 0 107 76 105 [zci c, zci k, zci q, zci n] [(0, 1), (1, 2)] zInv (zhp A (zmg A C)) := by
  have hA := hg.1.1
  have hQ := hg.1.2.2.2.2.1
  by_cases e1 : 0 ≤ c ∧ c < 4
  · by_cases e2 : 0 ≤ k ∧ k ≤ 2
    · by_cases e3 : 0 ≤ q ∧ q < 4
      · by_cases e4 : A 1 6 < 60
        · exact zlwI ((zr_76 (d := 57) hA e1 e2 e3 ⟨hQ.1.1, e4⟩)) ((zo_105 (d := 58) hA hC hc hk hq e1 e2 e3 ⟨hQ.1.1, e4⟩ (hQ.2.2 c e1))) (zGd_rq hg e1 hk e3 hn e4)
        · exact zlwX (tx_76d (d := 51) hA e1 hc e2 hk e3 hq (by omega)) (by decide) ((zo_105b (d := 59) hA hC hc hk hq e1 e2 e3 (by have := hQ.1.2; omega))) rfl zr2 hC hg
      · exact zlwX (tx_76c (d := 51) e1 hc e2 hk hq e3) (by decide) ((zo_105a (d := 59) hA hC hc hk hq (fun z => e3 z.2.2))) rfl zr1 hC hg
    · exact zlwX (tx_76b (d := 51) e1 hc hk e2) (by decide) ((zo_105a (d := 59) hA hC hc hk hq (fun z => e2 z.2.1))) rfl zr1 hC hg
  · exact zlwX (tx_76a (d := 51) hc e1) (by decide) ((zo_105a (d := 59) hA hC hc hk hq (fun z => e1 z.1))) rfl zr1 hC hg
theorem zf_82 (hC : zRg C) (hg : zGd A (zup C 107 0 0)) (hp : zrg p) : lwI 60 0 107 82 139 [zci p] [(2, 1)] zInv (zhp A (zmg A C)) := by
  have hA := hg.1.1
  by_cases e1 : 0 ≤ p ∧ p < 3
  · refine zlwI (zr_82 (d := 57) hA (zGd_z hg) e1) (zo_139 (d := 58) hA hC hp e1) ?_
    split
    · have hI := zI_up1 hg.1 e1 (b := 56 + 17 * p) (i := 9) (x := 1) (.inr (.inr (.inr ⟨rfl, rfl, rfl⟩))) zr1
      exact zGd_lie hg hI e1 (fun c hc => zup_row (by omega)) (by rw [zup_eq ⟨rfl, rfl⟩]; decide)
    · exact hg
  · exact zlwX (tx_82 (d := 51) hp e1) (by decide) (zo_139a (d := 58) hA hC hp e1) rfl zr1 hC hg
theorem zf_83 (hC : zRg C) (hg : zGd A (zup C 107 0 0)) (hp : zrg p) (hkd : zrg kd) (hv : zrg v) (ha : zrg a) (hb : zrg b) : lwI 60 0 107 83 140 [zci p, zci kd, zci v, zci a, zci b] [(2, 1), (1, 2), (0, 3)] zInv (zhp A (zmg A C)) := by
  have hA := hg.1.1
  have hz := zGd_z hg
  have hC0 : zRg (zup C 107 0 0) := hg.1.2.1
  by_cases e1 : 0 ≤ p ∧ p < 3
  · by_cases e2 : A (56 + 17 * p) 9 = 0
    · exact zlwX (tx_83b (d := 51) hA e1 e2) (by decide) (zo_140b (d := 58) hA hC hp hkd hv ha hb e1 e2) rfl zr2 hC hg
    · have bad : ¬ ((0 ≤ kd ∧ kd < 4) ∧ (0 ≤ v ∧ v < 31) ∧ zCS A kd a ∧ ((kd = 3 ∧ zCS A 3 b) ∨ (¬ kd = 3 ∧ b = 0))) → XX 60 83 (.ref 0 :: [zci p, zci kd, zci v, zci a, zci b]) (zhp A (zmg A C)) 0 → lwI 60 0 107 83 140 [zci p, zci kd, zci v, zci a, zci b] [(2, 1), (1, 2), (0, 3)] zInv (zhp A (zmg A C)) := fun hn hx => zlwX hx (by decide) (zo_140c (d := 58) hA hC hp hkd hv ha hb e1 e2 hn) rfl zr3 hC hg
      by_cases e3 : 0 ≤ kd ∧ kd < 4
      · by_cases e4 : 0 ≤ v ∧ v < 31
        · by_cases e5 : zCS A kd a
          · by_cases e6 : (kd = 3 ∧ zCS A 3 b) ∨ (¬ kd = 3 ∧ b = 0)
            · have hq60 := hg.1.2.2.2.2.1.1.2
              have hcn := hg.1.2.2.1.1.1 p e1
              have ha2 : 0 ≤ a ∧ a < 1000 := by rcases e5 with z | z | z | z <;> omega
              have hb2 : 0 ≤ b ∧ b < 1000 := by
                rcases e6 with z | z
                · rcases z.2 with y | y | y | y <;> omega
                · omega
              have h15 := zI_15 hg.1
              by_cases hf : A (44 + 2 * p) 1 < 100
              · obtain ⟨H, i1, i2⟩ := zI_ent hg.1 e1 e3 e4 ha2 hb2 hf (fun z => by rcases e5 with y | y | y | y <;> omega)
                have eF : zentF A p kd v a b = zent A p kd v a b := if_pos hf
                have c1 := zr_83 (d := 54) (B := zmg A C) (zI_G hg.1) hz e1 e2 e3 e4 e5 e6 ha hb hq60
                rw [if_pos hf, eF] at c1
                have c2 := zq_121l (d := 57) (A := zent A p kd v a b) hA hC0 e1 (zRw_2 hg.1.2.2.2.1).1 hcn hkd hv ha hb (by omega) (by omega) e2
                refine zlwI c1 (zo_140 (d := 58) hA hC hp hkd hv ha hb e1 e2 ⟨e3, e4, e5, e6⟩ c2) ⟨i1, fun u hu hl => ?_⟩
                have h20 := (zRw_2 hg.1.2.2.2.1).2
                by_cases eu : u = p
                · subst eu
                  rw [zent_srv H h20 (by omega)] at hl
                  exact absurd hl e2
                · have hl2 := hl
                  rw [zent_srv H h20 (by omega)] at hl2
                  exact zQ_fr hg.1 i2 hu (fun c hc => zent_srv H h20 (by omega)) (zent_oth H hu eu).1 (hg.2 u hu hl2)
              · have eF : zentF A p kd v a b = A := if_neg hf
                have c1 := zr_83 (d := 54) (B := zmg A C) (zI_G hg.1) hz e1 e2 e3 e4 e5 e6 ha hb hq60
                rw [if_neg hf, eF] at c1
                exact zlwI c1 (zo_140 (d := 58) hA hC hp hkd hv ha hb e1 e2 ⟨e3, e4, e5, e6⟩ (zCf (d := 58) (Z := A) hg.1 e1 (by omega) (by omega) ha2 hb2 hf)) hg
            · refine bad (fun z => e6 z.2.2.2) ?_
              by_cases h3 : kd = 3
              · exact tx_83y (d := 51) hA e1 hz e2 e3 hkd e4 ha e5 hb h3 (fun z => e6 (.inl ⟨h3, z⟩))
              · exact tx_83z (d := 51) hA e1 hz e2 e3 hkd e4 ha e5 hb h3 (fun z => e6 (.inr ⟨h3, z⟩))
          · exact bad (fun z => e5 z.2.2.1) (tx_83x (d := 51) hA e1 hz e2 e3 hkd e4 ha e5)
        · exact bad (fun z => e4 z.2.1) (tx_83v (d := 51) hA e1 hz e2 e3 hkd hv e4)
      · exact bad (fun z => e3 z.1) (tx_83k (d := 51) hA e1 hz e2 hkd e3)
  · exact zlwX (tx_83a (d := 51) hp e1) (by decide) (zo_140a (d := 58) hA hC hp hkd hv ha hb e1) rfl zr1 hC hg
theorem zf_84 (hC : zRg C) (hg : zGd A (zup C 107 0 0)) (hp : zrg p) (hv : zrg v) : lwV 60 0 107 84 141 [zci p, zci v] [(2, 1), (1, 2), (0, 3)] zInv (zhp A (zmg A C)) := by
  have hA := hg.1.1
  have hz := zGd_z hg
  by_cases e1 : 0 ≤ p ∧ p < 3
  · by_cases e2 : A (56 + 17 * p) 9 = 0
    · exact zlwVX (tx_84b (d := 51) hA e1 e2) (by decide) (zo_141b (d := 58) hA hC hp hv e1 e2) rfl zr2 hC hg
    · by_cases e3 : 0 ≤ v ∧ v < 31
      · have hI := zI_up1 hg.1 e1 (b := 66 + 17 * p) (i := p) (x := v) (.inr (.inr (.inl ⟨rfl, by omega, by omega⟩))) hv
        exact zlwV (zr_84 (d := 57) hA hz e1 e2 e3 (hg.1.2.2.2.2.2.2.1 p e1).1.1) (zo_141 (d := 58) hA hC hp hv e1 e2 e3) (zGd_lie hg hI e1 (fun c hc => zup_row (by omega)) (by rw [zup_row (by omega)]; exact e2))
      · exact zlwVX (tx_84c (d := 51) hA e1 hz e2 hv e3) (by decide) (zo_141c (d := 58) hA hC hp hv e1 e2 e3) rfl zr3 hC hg
  · exact zlwVX (tx_84a (d := 51) hp e1) (by decide) (zo_141a (d := 58) hA hC hp hv e1) rfl zr1 hC hg
theorem zf_85 (hC : zRg C) (hg : zGd A (zup C 107 0 0)) (hp : zrg p) (hr : zrg r) (hw : zrg w) : lwV 60 0 107 85 142 [zci p, zci r, zci w] [(2, 1), (1, 2)] zInv (zhp A (zmg A C)) := by
  have hA := hg.1.1
  have hz := zGd_z hg
  have hq60 := hg.1.2.2.2.2.1.1.2
  by_cases e1 : 0 ≤ p ∧ p < 3
  · by_cases e2 : 0 ≤ r ∧ r < A 1 6
    · by_cases e3 : A (56 + 17 * p) 9 = 0
      · exact zlwVX (tx_85c (d := 51) hA e1 e2 hr e3) (by decide) (zo_142b (d := 58) hA hC hp hr e1 e2 e3) rfl zr2 hC hg
      · have hI := zI_up1 (zI_up1 hg.1 e1 (b := 71 + 17 * p) (i := r) (x := 1) (.inl rfl) zr1) e1 (b := 72 + 17 * p) (i := r) (x := w) (.inr (.inl rfl)) hw
        exact zlwV (zr_85 (d := 57) hA hz e1 e3 e2 hq60) (zo_142 (d := 58) hA hC hp hr e1 e2 hq60 e3) (zGd_lie hg hI e1 (fun c hc => by rw [zup_row (by omega), zup_row (by omega)]) (by rw [zup_row (by omega), zup_row (by omega)]; exact e3))
    · exact zlwVX (tx_85b (d := 51) hA e1 hr e2) (by decide) (zo_142a (d := 58) hA hC hp hr (fun z => e2 z.2)) rfl zr1 hC hg
  · exact zlwVX (tx_85a (d := 51) hp e1) (by decide) (zo_142a (d := 58) hA hC hp hr (fun z => e1 z.1)) rfl zr1 hC hg
theorem zf_86 (hC : zRg C) (hg : zGd A (zup C 107 0 0)) (hp : zrg p) (hw : zrg w) : lwI 60 0 107 86 143 [zci p, zci w] [(2, 1), (0, 2)] zInv (zhp A (zmg A C)) := by
  have hA := hg.1.1
  by_cases e1 : 0 ≤ p ∧ p < 3
  · by_cases e2 : 0 ≤ w ∧ w < 13
    · obtain ⟨a1, a2, a3, a4, -⟩ := (hg.1.2.2.2.2.2.2.1 p e1).1
      exact zlwI (zr_86 (d := 57) hA (zGd_z hg) (fun s hs => (hg.1.2.2.2.2.2.2.1 s hs).1.2.2.1) e1 e2 a1) (zo_143 (d := 58) hA hC hp e1 e2 a3 a4) hg
    · exact zlwX (tx_86b (d := 51) hA e1 hw e2) (by decide) (zo_143b (d := 58) hA hC hp hw e1 e2) rfl zr2 hC hg
  · exact zlwX (tx_86a (d := 51) hp e1) (by decide) (zo_143a (d := 58) hA hC hp hw e1) rfl zr1 hC hg
theorem zf_87 (hC : zRg C) (hg : zGd A (zup C 107 0 0)) (hp : zrg p) (hk : zrg k) : lwI 60 0 107 87 144 [zci p, zci k] [(2, 1)] zInv (zhp A (zmg A C)) := by
  have hA := hg.1.1
  by_cases e1 : 0 ≤ p ∧ p < 3
  · have htc := zI_tc hg.1 e1
    obtain ⟨b1, b2, b3, b4, b5, b6⟩ := (hg.1.2.2.2.2.2.2.1 p e1).2.1
    exact zlwI (zr_87 (d := 57) hA e1 hk ⟨b5.1, by omega⟩) (zo_144 (d := 58) hA hC hp hk e1 ⟨b5.1, by omega⟩) hg
  · exact zlwX (tx_87 (d := 51) hp e1) (by decide) (zo_144a (d := 58) hA hC hp hk e1) rfl zr1 hC hg
theorem zf_88 (hC : zRg C) (hg : zGd A (zup C 107 0 0)) (hp : zrg p) (hk : zrg k) (hw : zrg w) : lwI 60 0 107 88 145 [zci p, zci k, zci w] [(2, 1), (0, 2)] zInv (zhp A (zmg A C)) := by
  have hA := hg.1.1
  have hLI : zLI A C := zLI_C hg.1.2.2.1.1 (zup_row (by decide)).symm
  by_cases e1 : (0 ≤ p ∧ p < 3) ∧ (1 ≤ k ∧ k ≤ A (44 + 2 * p) 1)
  · by_cases e2 : 0 ≤ w ∧ w ≤ 4
    · exact zlwI (zr_88 (d := 55) hA e1.1 (hg.1.2.2.1.1.1 p e1.1) e1.2 e2) (zo_145 (d := 50) hA hC hLI hp e1.1 e1.2 e2 (hg.1.2.2.1.2.2.2.2.2 p k e1.1 e1.2)) hg
    · exact zlwX (tx_88b (d := 51) hA e1.1 e1.2 hk hw e2) (by decide) (zo_145b (d := 58) hA hC hp hk hw e1.1 e1.2 e2) rfl zr2 hC hg
  · exact zlwX (tx_88a (d := 51) hA hp hk e1) (by decide) (zo_145a (d := 58) hA hC hp hk hw e1) rfl zr1 hC hg
theorem zf_89 (hC : zRg C) (hg : zGd A (zup C 107 0 0)) (hv : zrg v) (hk : zrg k) : lwI 60 0 107 89 146 [zci v, zci k] [(0, 1)] zInv (zhp A (zmg A C)) := by
  have hA := hg.1.1
  have hLI : zLI A C := zLI_C hg.1.2.2.1.1 (zup_row (by decide)).symm
  by_cases e1 : 0 ≤ v ∧ v < 31
  · obtain ⟨w1, w2, w3, w4⟩ := hg.1.2.2.2.1.2.2.1 v e1
    have hnp := zNP_300 hg.1.2.2.1.1.1 (w := v)
    have hq : (((A 11 v).toNat : Nat) : Int) = A 11 v := by omega
    have c1 := zr_89 (d := 57) (A := A) (B := zmg A C) hA (q := (A 11 v).toNat) hq e1 hk (zRw_2 hg.1.2.2.2.1).1 w1 (by rw [hq]; omega)
    rw [hq] at c1
    by_cases e2 : v = 0 ∨ ¬ A 10 v = 0
    · have ho : v = 0 ∨ 1 ≤ A 10 v := by
        have := zop_le hg.1.2.2.1 e1
        omega
      obtain ⟨z1, z2, z3, z4⟩ := zrw_ok hA hg.1.2.1 hg.1.2.2.1 hg.1.2.2.2.1 e1 ho
      refine zlwI c1 (zo_146 (d := 46) hA hC hLI hk e1 e2 z1 w2.1) ⟨zI_C hg.1 z2 (z3 _ (by decide) (by decide) (by decide)) (z3 _ (by decide) (by decide) (by decide)) (z3 _ (by decide) (by decide) (by decide)) (z3 _ (by decide) (by decide) (by decide)) (z4 _ (by decide)) (z4 _ (by decide)) (z4 _ (by decide)), hg.2⟩
    · have e3 : A 10 v = 0 := by omega
      rw [w3 e3, if_neg (by omega)] at c1
      exact zlwI c1 (zo_146n (d := 54) hA hC hLI hk (by omega) e3) hg
  · exact zlwX (tx_89 (d := 51) hv e1) (by decide) (zo_146a (d := 58) hA hC hv hk e1) rfl zr1 hC hg
theorem zf_90 (hC : zRg C) (hg : zGd A (zup C 107 0 0)) (hr : zrg r) (hw : zrg w) : lwI 60 0 107 90 147 [zci r, zci w] [(2, 1), (0, 2)] zInv (zhp A (zmg A C)) := by
  have hA := hg.1.1
  have hq60 := hg.1.2.2.2.2.1.1.2
  by_cases e1 : 0 ≤ r ∧ r < A 1 6
  · by_cases e2 : 0 ≤ w ∧ w < 4
    · exact zlwI (zr_90 (d := 57) hA e1 hq60 e2) (zo_147 (d := 58) hA hC hr e1 hq60 e2) hg
    · exact zlwX (tx_90b (d := 51) hA e1 hr hw e2) (by decide) (zo_147b (d := 58) hA hC hr hw e1 e2) rfl zr2 hC hg
  · exact zlwX (tx_90a (d := 51) hA hr e1) (by decide) (zo_147a (d := 58) hA hC hr hw e1) rfl zr1 hC hg
theorem zf_91 (hC : zRg C) (hg : zGd A (zup C 107 0 0)) (hp : zrg p) (hr : zrg r) : lwI 60 0 107 91 148 [zci p, zci r] [(2, 1)] zInv (zhp A (zmg A C)) := by
  have hA := hg.1.1
  have hq60 := hg.1.2.2.2.2.1.1.2
  by_cases e1 : 0 ≤ p ∧ p < 3
  · by_cases e2 : 0 ≤ r ∧ r < A 1 6
    · exact zlwI (zr_91 (d := 57) hA e1 e2 hq60) (zo_148 (d := 58) hA hC hp hr e1 e2 hq60) hg
    · exact zlwX (tx_91b (d := 51) hA e1 hr e2) (by decide) (zo_148a (d := 58) hA hC hp hr (fun z => e2 z.2)) rfl zr1 hC hg
  · exact zlwX (tx_91a (d := 51) hp e1) (by decide) (zo_148a (d := 58) hA hC hp hr (fun z => e1 z.1)) rfl zr1 hC hg
end ZFD
