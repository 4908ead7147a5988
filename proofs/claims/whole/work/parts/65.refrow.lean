/-! the reference's rows, out of the rows' invariant -/
theorem zpe_t {x y z : (Int → Int) × Int} (h1 : zpe x y) (h2 : zpe y z) : zpe x z := ⟨h1.1.trans h2.1, h1.2.1, fun j hj => (h1.2.2 j hj).trans (h2.2.2 j ⟨hj.1, by rw [← h1.1]; exact hj.2⟩)⟩
theorem zpe_s {x y : (Int → Int) × Int} (h : zpe x y) : zpe y x := ⟨h.1.symm, by rw [← h.1]; exact h.2.1, fun j hj => (h.2.2 j ⟨hj.1, by rw [h.1]; exact hj.2⟩).symm⟩
/-- the row of a view -/
abbrev zro (B : ZM) (u : Int) : (Int → Int) × Int := (B (B 11 u), B (-1) (B 11 u))
theorem zadW_ok {B C : ZM} {w u : Int} (hB : zRg B) (hC : zRg C) (h0 : 0 ≤ C 107 17 ∧ C 107 17 ≤ 1000) (hc : 0 ≤ B (44 + 2 * (u % 3)) 1 ∧ B (44 + 2 * (u % 3)) 1 ≤ 100) : (zadW B w u C 121, zadW B w u C 107 17) = zTw B w u (C 121, C 107 17) ∧ (∀ j, j ≠ 17 → zadW B w u C 107 j = C 107 j) ∧ zRg (zadW B w u C) := by
  have key : (fun (D : ZM) (x : (Int → Int) × Int) => (D 121, D 107 17) = x ∧ (∀ j, zrg (x.1 j)) ∧ ∀ j, j ≠ 17 → D 107 j = C 107 j) (zadW B w u C) (zTw B w u (C 121, C 107 17)) := by
    unfold zadW zTw
    refine zfi_rel (R := fun (D : ZM) (x : (Int → Int) × Int) => (D 121, D 107 17) = x ∧ (∀ j, zrg (x.1 j)) ∧ ∀ j, j ≠ 17 → D 107 j = C 107 j) _ _ _ _ _ rfl (fun k D x hk hR => ?_) ⟨rfl, hC 121, fun _ _ => rfl⟩
    obtain ⟨r1, r2, r3⟩ := hR
    subst r1
    unfold zadf zTf
    split
    · refine ⟨?_, fun j => ?_, fun j hj => ?_⟩
      · refine Prod.ext ?_ ?_
        · dsimp only
          rw [zup_row (by decide), zup_at]
        · dsimp only
          rw [zup_eq ⟨rfl, rfl⟩]
      · show zrg (if j = D 107 17 then _ else D 121 j)
        split
        · exact hB _ _
        · exact r2 j
      · rw [zup_ne (fun q => hj q.2), zup_row (by decide)]
        exact r3 j hj
    · exact ⟨rfl, r2, r3⟩
  obtain ⟨k1, k2, k3⟩ := key
  refine ⟨k1, k3, fun c j => ?_⟩
  have hbd := zTw_bd (A := B) (w := w) (u := u) (x := (C 121, C 107 17)) hc.1
  have hpc : zPC B (u % 3) u (B (44 + 2 * (u % 3)) 1) ≤ ((B (44 + 2 * (u % 3)) 1).toNat : Int) := (zcn_rg _).2
  by_cases e1 : c = 121
  · subst e1
    have : zadW B w u C 121 = (zTw B w u (C 121, C 107 17)).1 := congrArg Prod.fst k1
    rw [this]
    exact k2 j
  · by_cases e2 : c = 107
    · subst e2
      by_cases e3 : j = 17
      · subst e3
        have : zadW B w u C 107 17 = (zTw B w u (C 121, C 107 17)).2 := congrArg Prod.snd k1
        rw [this]
        have q1 := hbd.1
        have q2 := hbd.2
        dsimp only at q1 q2
        exact ⟨by omega, by omega⟩
      · rw [k3 j e3]; exact hC _ _
    · rw [zadW_row e1 e2]; exact hC _ _
/-- a chain of views, each one's base behind it -/
def zchn (B : ZM) (g : Int → Int) (n N : Int) : Prop := ∀ m, n ≤ m → m < N → (1 ≤ g m ∧ g m < 31) ∧ 1 ≤ B 10 (g m) ∧ (if m = N - 1 then 0 else g (m + 1)) = zBF B (g m)
theorem zdn_ok {B : ZM} (hR : zRw B) : ∀ (f : Nat) (n u : Int) (C : ZM), 0 ≤ u → u ≤ f → 0 ≤ n → n + u ≤ 30 → (u = 0 ∨ 1 ≤ B 10 u) → (zRg C → zRg (zdn B f n u C).1) ∧ (n ≤ (zdn B f n u C).2 ∧ (zdn B f n u C).2 ≤ 30) ∧ (u = 0 → (zdn B f n u C).2 = n) ∧ (1 ≤ u → n < (zdn B f n u C).2 ∧ (zdn B f n u C).1 122 n = u) ∧ (∀ c, c ≠ 122 → (zdn B f n u C).1 c = C c) ∧ (∀ j, j < n → (zdn B f n u C).1 122 j = C 122 j) ∧ zchn B ((zdn B f n u C).1 122) n (zdn B f n u C).2
  | 0, n, u, C, h0, h1, h2, h3, h4 => by
    show (zRg C → zRg C) ∧ (n ≤ n ∧ n ≤ 30) ∧ _ ∧ (1 ≤ u → n < n ∧ C 122 n = u) ∧ _ ∧ _ ∧ zchn B (C 122) n n
    exact ⟨id, by omega, fun _ => rfl, fun q => by omega, fun _ _ => rfl, fun _ _ => rfl, fun m m1 m2 => by omega⟩
  | f + 1, n, u, C, h0, h1, h2, h3, h4 => by
    rw [zdn_S]
    split
    · exact ⟨id, by dsimp only; omega, fun _ => rfl, fun q => by omega, fun _ _ => rfl, fun _ _ => rfl, fun m m1 m2 => by dsimp only at m2; omega⟩
    · have hu : 1 ≤ u ∧ u < 31 := by omega
      have hB := zBF_rg (B := B) (w := u) hu.1
      have ho : 1 ≤ B 10 u := by omega
      obtain ⟨i1, i2, i3, i4, i5, i6, i7⟩ := zdn_ok hR f (n + 1) (zBF B u) (zup C 122 n u) hB.1 (by omega) (by omega) (by omega) (hR.2.2.2 u hu ho).1
      generalize zdn B f (n + 1) (zBF B u) (zup C 122 n u) = r at *
      have e1 : r.1 122 n = u := by rw [i6 n (by omega), zup_eq ⟨rfl, rfl⟩]
      refine ⟨fun hC => i1 (zRg_up hC ⟨by omega, by omega⟩), by omega, fun q => by omega, fun _ => ⟨by omega, e1⟩, fun c hc => (i5 c hc).trans (zup_row hc), fun j hj => by rw [i6 j (by omega), zup_ne (by omega)], fun m m1 m2 => ?_⟩
      by_cases em : m = n
      · subst em
        rw [e1]
        refine ⟨hu, ho, ?_⟩
        by_cases e2 : zBF B u = 0
        · rw [if_pos (by have := i3 e2; omega), e2]
        · have := i4 (by omega)
          rw [if_neg (by omega), this.2]
      · exact i7 m (by omega) m2
theorem zad2_ok {B : ZM} (hB : zRg B) (hR : zRw B) (hc : ∀ s, 0 ≤ s ∧ s < 3 → 0 ≤ B (44 + 2 * s) 1 ∧ B (44 + 2 * s) 1 ≤ 100) {N : Int} (hN : N ≤ 30) : ∀ (m : Nat) (C : ZM), (m : Int) ≤ N → zRg C → zLI B C → zchn B (C 122) 0 N → zpe (C 121, C 107 17) (zro B (if (m : Int) = N then 0 else C 122 m)) → zad2ok B N m C ∧ zRg (zad2 B N m C) ∧ (∀ c, c ≠ 107 → c ≠ 121 → zad2 B N m C c = C c) ∧ (∀ j, j ≠ 17 → zad2 B N m C 107 j = C 107 j) ∧ zpe (zad2 B N m C 121, zad2 B N m C 107 17) (zro B (if 0 = N then 0 else C 122 0))
  | 0, C, h1, h2, h3, h4, h5 => ⟨trivial, h2, fun _ _ _ => rfl, fun _ _ => rfl, h5⟩
  | m + 1, C, h1, h2, h3, h4, h5 => by
    obtain ⟨q1, q2, q3⟩ := h4 m (by omega) (by omega)
    have e0 : ((m + 1 : Nat) : Int) = (m : Int) + 1 := by omega
    have hu : (if (m : Int) = N - 1 then 0 else C 122 ((m : Int) + 1)) = (if ((m + 1 : Nat) : Int) = N then 0 else C 122 ((m + 1 : Nat) : Int)) := by
      rw [e0]
      by_cases e : (m : Int) = N - 1
      · rw [if_pos e, if_pos (by omega)]
      · rw [if_neg e, if_neg (by omega)]
    rw [← hu] at h5
    have hb := zBF_rg (B := B) (w := C 122 m) q1.1
    have hlen := (hR.2.2.1 (zBF B (C 122 m)) (by omega)).2.1
    have hnp := zNP_300 hc (w := zBF B (C 122 m))
    have h17 : C 107 17 = B (-1) (B 11 (zBF B (C 122 m))) := by rw [← q3]; exact h5.1
    obtain ⟨a1, a2, a3⟩ := zadW_ok (B := B) (C := C) (w := C 122 m) (u := if (m : Int) = N - 1 then 0 else C 122 ((m : Int) + 1)) hB h2 (by omega) (hc _ (by omega))
    have e119 : zadW B (C 122 m) (if (m : Int) = N - 1 then 0 else C 122 ((m : Int) + 1)) C 119 = C 119 := zadW_row (by decide) (by decide)
    have e122 : zadW B (C 122 m) (if (m : Int) = N - 1 then 0 else C 122 ((m : Int) + 1)) C 122 = C 122 := zadW_row (by decide) (by decide)
    have hpe : zpe (zadW B (C 122 m) (if (m : Int) = N - 1 then 0 else C 122 ((m : Int) + 1)) C 121, zadW B (C 122 m) (if (m : Int) = N - 1 then 0 else C 122 ((m : Int) + 1)) C 107 17) (zro B (C 122 m)) := by
      rw [a1]
      refine zpe_t (zTw_ext h5) ?_
      rw [q3]
      exact zpe_s (hR.2.2.2 _ q1 q2).2
    have ih := zad2_ok hB hR hc hN m (zadW B (C 122 m) (if (m : Int) = N - 1 then 0 else C 122 ((m : Int) + 1)) C) (by omega) a3 (zLI_C h3 e119) (by rw [e122]; exact h4) (by rw [e122, show (if (m : Int) = N then 0 else C 122 m) = C 122 m from if_neg (by omega)]; exact hpe)
    rw [zad2_S]
    obtain ⟨i1, i2, i3, i4, i5⟩ := ih
    refine ⟨⟨h2, h3, q1, q2, fun _ => ?_, by omega, i1⟩, i2, fun c c1 c2 => (i3 c c1 c2).trans (zadW_row c2 c1), fun j hj => (i4 j hj).trans (a2 j hj), ?_⟩
    · rename_i hm
      rw [if_neg hm] at q3
      omega
    · rw [e122] at i5; exact i5
theorem zrw_ok {B C : ZM} (hB : zRg B) (hC : zRg C) (hL : zLog B C) (hR : zRw B) {w : Int} (hw : 0 ≤ w ∧ w < 31) (ho : w = 0 ∨ 1 ≤ B 10 w) : zRWok B C w ∧ zRg (zrwC B w C) ∧ (∀ c, c ≠ 107 → c ≠ 121 → c ≠ 122 → zrwC B w C c = C c) ∧ (∀ j, j ≠ 17 → zrwC B w C 107 j = C 107 j) := by
  obtain ⟨d1, d2, d3, d4, d5, d6, d7⟩ := zdn_ok hR 31 0 w C hw.1 (by omega) (by omega) (by omega) ho
  have hch : ∀ (f : Nat) (u : Int), 0 ≤ u → u < 31 → (u = 0 ∨ 1 ≤ B 10 u) → zchk B f u := fun f => by
    induction f with
    | zero => intro u _ _ _; trivial
    | succ f ih =>
      intro u u0 u1 uo h1
      have hb := zBF_rg (B := B) (w := u) h1
      have ho : 1 ≤ B 10 u := by omega
      exact ⟨ho, ih _ hb.1 (by omega) (hR.2.2.2 u (by omega) ho).1⟩
  have e122 : zup (zdn B 31 0 w C).1 107 17 0 122 = (zdn B 31 0 w C).1 122 := zup_row (by decide)
  have hN0 : (((zdn B 31 0 w C).2.toNat : Nat) : Int) = (zdn B 31 0 w C).2 := Int.toNat_of_nonneg d2.1
  have h00 : B (-1) (B 11 0) = 0 := (hR.2.2.1 0 (by decide)).2.2.1 hL.1.2.2.1
  obtain ⟨a1, a2, a3, a4, a5⟩ := zad2_ok hB hR hL.1.1 d2.2 (zdn B 31 0 w C).2.toNat (zup (zdn B 31 0 w C).1 107 17 0) (by omega) (zRg_up (d1 hC) ⟨by decide, by decide⟩) (zLI_C hL.1 ((zup_row (by decide)).trans (d5 _ (by decide)))) (by rw [e122]; exact d7) (by
    rw [if_pos hN0, zup_eq ⟨rfl, rfl⟩]
    exact ⟨h00.symm, Int.le_refl 0, fun j hj => by have := hj.2; dsimp only at this; omega⟩)
  have hfin : zpe (zrwC B w C 121, zrwC B w C 107 17) (zro B w) := by
    by_cases e : w = 0
    · rw [if_pos (d3 e).symm] at a5
      rw [e] at a5 ⊢
      exact a5
    · have := d4 (by omega)
      rw [if_neg (by omega), e122, this.2] at a5
      exact a5
  have hlen := (hR.2.2.1 w hw).2.1
  have hnp := zNP_300 hL.1.1 (w := w)
  refine ⟨⟨hch 31 w hw.1 hw.2 ho, a1, a2, hfin.1, fun j hj => hfin.2.2 j ⟨hj.1, by show j < zrwC B w C 107 17; rw [show zrwC B w C 107 17 = B (-1) (B 11 w) from hfin.1]; exact hj.2⟩, by omega⟩, a2, fun c c1 c2 c3 => (a3 c c1 c2).trans ((zup_row c1).trans (d5 c c3)), fun j hj => (a4 j hj).trans ((zup_ne (fun q => hj q.2)).trans (congrFun (d5 107 (by decide)) j))⟩
