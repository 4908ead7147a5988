/-! the start is good -/
section ZST0
variable {t : Int}
theorem zA_rg : zRg zA0 := fun b j => by
  unfold zA0
  (repeat' split) <;> exact ⟨by omega, by omega⟩
theorem zC_rg : zRg zC0 := fun b j => by
  have h : zC0 b j = 0 := rfl
  rw [h]
  exact ⟨by decide, by decide⟩
theorem zA_cnt (ht : 0 ≤ t ∧ t < 3) : zA0 (44 + 2 * t) 1 = 0 := zA0_z (by omega) (by omega) (by omega) (by omega) (by omega) (by omega) (by omega)
theorem zA_gc (ht : 0 ≤ t ∧ t < 3) : zA0 (44 + 2 * t) 2 = -1 := by
  have h : t = 0 ∨ t = 1 ∨ t = 2 := by omega
  rcases h with rfl | rfl | rfl <;> rfl
theorem zA_nx {p : Int} (ht : 0 ≤ t ∧ t < 3) (hp : 0 ≤ p ∧ p < 3) : zA0 (59 + 17 * t) p = 1 ∧ zA0 (66 + 17 * t) p = -1 := by
  have h : t = 0 ∨ t = 1 ∨ t = 2 := by omega
  have h2 : p = 0 ∨ p = 1 ∨ p = 2 := by omega
  rcases h with rfl | rfl | rfl <;> rcases h2 with rfl | rfl | rfl <;> exact ⟨rfl, rfl⟩
theorem zA_56 (ht : 0 ≤ t ∧ t < 3) : zA0 (56 + 17 * t) 0 = t ∧ zA0 (56 + 17 * t) 7 = 0 ∧ zA0 (56 + 17 * t) 8 = 1 ∧ zA0 (56 + 17 * t) 9 = 0 ∧ zA0 (60 + 17 * t) 2 = 0 ∧ zA0 (60 + 17 * t) 3 = 0 ∧ zA0 (60 + 17 * t) 4 = 1 ∧ zA0 (67 + 17 * t) 6 = 0 := by
  have h : t = 0 ∨ t = 1 ∨ t = 2 := by omega
  rcases h with rfl | rfl | rfl <;> exact ⟨rfl, rfl, rfl, rfl, rfl, rfl, rfl, rfl⟩
theorem zA_z {b j : Int} (h : (0 ≤ b ∧ b ≤ 10) ∨ (12 ≤ b ∧ b ≤ 43) ∨ b = -1 ∨ (45 ≤ b ∧ b ≤ 55 ∧ b ≠ 46 ∧ b ≠ 48)) : zA0 b j = 0 := zA0_z (by omega) (by omega) (by omega) (by omega) (by omega) (by omega) (by omega)
theorem zA_s {b j : Int} (ht : 0 ≤ t ∧ t < 3) (h : b = 58 + 17 * t ∨ b = 61 + 17 * t ∨ b = 62 + 17 * t ∨ b = 64 + 17 * t ∨ b = 65 + 17 * t) : zA0 b j = 0 := zA0_z (by omega) (by omega) (by omega) (by omega) (by omega) (by omega) (by omega)
theorem zA_11 {w : Int} (hw : 0 ≤ w ∧ w < 31) : zA0 11 w = 12 + w := by
  unfold zA0
  rw [if_neg (by decide), if_pos rfl, if_pos hw]
theorem zA_LI : zLI zA0 zC0 := by
  refine ⟨fun s hs => by rw [zA_cnt hs]; omega, fun s k hs hk => by rw [zA_cnt hs] at hk; omega, zA_z (by omega), fun w hw => ?_⟩
  have h10 : zA0 10 w = 0 := zA_z (by omega)
  have hc := zA_cnt (t := w % 3) (by omega)
  unfold zOpn
  rw [h10, hc]
  exact ⟨by omega, fun k hk => by omega, fun h => by omega⟩
theorem zA_log : zLog zA0 zC0 := by
  refine ⟨zA_LI, fun s k hs hk => by rw [zA_cnt hs] at hk; omega, ?_, fun s w hs hw => ?_, fun s k hs hk => by rw [zA_cnt hs] at hk; omega, fun s k hs hk => by rw [zA_cnt hs] at hk; omega⟩
  · rfl
  · rw [zA_gc hs, zA_cnt hs, zex_0 (by omega)]
    exact ⟨fun h => by omega, fun h => absurd h (by decide)⟩
theorem zA_rw : zRw zA0 := by
  refine ⟨?_, ⟨by decide, by decide⟩, fun w hw => ?_, fun w hw ho => ?_⟩
  · have h : zcn (fun w => decide (1 ≤ zA0 10 w)) 30 = zcn (fun _ => false) 30 := zcn_eq 30 (fun k _ _ => by
      rw [decide_eq_false_iff_not, zA_z (b := 10) (by omega)]
      omega)
    rw [h]
    rfl
  · have hl : zA0 (-1) (zA0 11 w) = 0 := zA_z (by omega)
    rw [hl, zA_11 hw]
    have := zNP_300 (A := zA0) (fun s hs => by rw [zA_cnt hs]; omega) (w := w)
    exact ⟨.inl (by omega), ⟨by omega, this.1⟩, fun _ => rfl, fun j hj => by omega⟩
  · rw [zA_z (b := 10) (by omega)] at ho
    omega
theorem zA_sv (ht : 0 ≤ t ∧ t < 3) : zSv zA0 zC0 t := by
  obtain ⟨e0, e7, e8, e9, f2, f3, f4, d6⟩ := zA_56 ht
  refine ⟨?_, ?_, ?_⟩
  · unfold zV1
    rw [e0, e7, e8, e9]
    refine ⟨rfl, by omega, .inr rfl, .inl rfl, fun p hp => ?_, fun p k hp hk hb => ?_, fun p hp => ?_, fun w hw => ?_, fun k => ?_, ?_⟩
    · rw [(zA_nx ht hp).1, zA_cnt hp]; omega
    · exact absurd (zA_s ht (.inl rfl)) hb
    · rw [(zA_nx ht hp).2]; omega
    · rw [zA_s ht (.inr (.inr (.inr (.inl rfl)))), zA_s ht (.inr (.inr (.inr (.inr rfl))))]; omega
    · exact .inl (zA_s ht (.inr (.inr (.inl rfl))))
    · exact zA_s ht (.inr (.inr (.inl rfl)))
  · unfold zV2
    rw [e7, e8, f2, f3, f4, d6]
    have := zNP_300 (A := zA0) (fun s hs => by rw [zA_cnt hs]; omega) (w := 0)
    exact ⟨⟨by omega, by omega, (zcn_rg _).1⟩, fun i hi => by omega, ⟨fun h => by omega, fun h => by omega⟩, fun _ h => by omega, by omega, fun h => by omega⟩
  · unfold zV3
    intro w h1 h2
    rw [zA_s ht (.inr (.inr (.inr (.inl rfl)))), zA_s ht (.inr (.inr (.inr (.inr rfl))))]
    exact ⟨.inl ⟨rfl, rfl, rfl, rfl, rfl⟩, fun h => absurd rfl h⟩
theorem zA_gd : zGd zA0 zC0 := by
  refine ⟨⟨zA_rg, zC_rg, zA_log, zA_rw, ⟨?_, fun r hr => ?_, fun c hc => ?_⟩, fun r hr _ i j hi hj hne hc => ?_, fun t ht => zA_sv ht, ⟨fun i => ⟨Int.le_refl 0, Int.le_refl 0⟩, by decide, rfl⟩⟩, fun t ht hl => ⟨?_, ?_, fun p hp hr => ?_, ?_⟩⟩
  · rw [zA_z (b := 1) (by omega)]; omega
  · rw [zA_z (b := 1) (by omega)] at hr; omega
  · rw [zA_z (b := 1) (by omega), zA_z (b := 7) (by omega), zfi_N (by omega)]; rfl
  · exact hc.1 (zA_z (by omega))
  · unfold zOw
    rw [(zA_nx ht ht).1, zA_cnt ht]; rfl
  · obtain ⟨e0, e7, e8, e9, f2, f3, f4, d6⟩ := zA_56 ht
    refine .inr (.inr ⟨by rw [f4]; decide, if_neg ?_⟩)
    rw [f2, f3]
    exact fun z => by omega
  · exact hr.2.1.2 (zA_s ht (.inl rfl))
  · unfold zSG
    rw [(zA_56 ht).2.1, (zA_nx ht (by decide)).2, (zA_nx ht (by decide)).2, (zA_nx ht (by decide)).2]
    decide
end ZST0
theorem zirg (x : Int32) : zrg x.toInt := ⟨Int32.le_toInt _, Int32.toInt_lt _⟩
theorem z_all : lwAll 60 0 107 zInv := by
  rintro σ ⟨A, C, rfl, hC, hg⟩
  refine ⟨zok, fun a => ?_⟩
  obtain ⟨x, z, rfl⟩ : ∃ x : Nat → Int, (∀ i, zrg (x i)) ∧ a = fun i => Int32.ofInt (x i) := ⟨fun i => (a i).toInt, fun i => zirg (a i), by funext i; rw [Int32.ofInt_toInt]⟩
  exact ⟨zf_76 hC hg (z 1) (z 2) (z 3) (z 4), zf_77 hC hg (z 1) (z 2), zf_78 hC hg (z 1) (z 2) (z 3), zf_79 hC hg (z 1), zf_80 hC hg (z 1) (z 2), zf_81 hC hg (z 1) (z 2), zf_82 hC hg (z 1), zf_83 hC hg (z 1) (z 2) (z 3) (z 4) (z 5), zf_84 hC hg (z 1) (z 2), zf_85 hC hg (z 1) (z 2) (z 3), zf_86 hC hg (z 1) (z 2), zf_87 hC hg (z 1) (z 2), zf_88 hC hg (z 1) (z 2) (z 3), zf_89 hC hg (z 1) (z 2), zf_90 hC hg (z 1) (z 2), zf_91 hC hg (z 1) (z 2)⟩
theorem z_inv {σ : XS} (h : zInv σ) : σ.1 ≤ 2000 ∧ σ.2.1 ≤ 100000 := by
  obtain ⟨A, C, rfl, hC, hg⟩ := h
  have h1 := zRw_2 hg.1.2.2.2.1
  have h2 := hg.1.2.2.2.1.2.1
  show 144 + (A (-2) 0).toNat ≤ 2000 ∧ (A (-2) 1).toNat ≤ 100000
  omega
set_option maxRecDepth 100000 in
theorem z_start : ((108, 5615, zh2) : XS) = (107 + 1, 5574 + 41, va_up zh1 107 (.inl (10, xdef 10))) := rfl
theorem lwPure_ok : lwPure := by
  refine ⟨3000, 3000, 60, zInv, (107, 5574, zh1), (144, 12037, zh3), by decide, xcall_le (Nat.le_refl _) 6 60 _ _ _ _ (by decide) zi_1, ?_, ?_, fun σ h => z_inv h, z_all⟩
  · have := xcall_le (Nat.le_refl 3000) 6 60 _ _ _ _ (by decide) zi_2
    rw [z_start] at this
    exact this
  · rw [zi_st]
    exact zInv_0 zA_gd
theorem i_vc : Claimed_1_1 ∧ Claimed_1_2 := i_vc_open lwPure_ok
