/-! the law's start, and the claim, out of the pure claim -/
def lwPure : Prop := ∃ (N1 N2 d : Nat) (Inv : XS → Prop) (σb σd : XS), d ≤ 1000 ∧ xcall N1 d 75 [.ref 0] (1, 4, va_up (fun _ => .inl (9, [])) 0 (.inl (9, xdef 9))) = some (none, σb) ∧ xcall N2 d 103 [.ref σb.1] (σb.1 + 1, σb.2.1 + 41, va_up σb.2.2 σb.1 (.inl (10, xdef 10))) = some (none, σd) ∧ Inv σd ∧ (∀ σ, Inv σ → σ.1 ≤ 2000 ∧ σ.2.1 ≤ 100000) ∧ lwAll d 0 σb.1 Inv
theorem lw_ex : ∀ q ∈ xSt, Cond.exactly (.string RX9 q.1) "java/lang/String" ∈ flatC (Jvm.Cond.and given_1 narrow_1) := by decide +kernel
theorem lw_i1 : Cond.isRef (.static Jvm.Bundle.tN "UNASSIGNED_STACK" Jvm.Bundle.steD) ∈ flatC (Jvm.Cond.and given_1 narrow_1) := by decide +kernel
theorem lw_i2 : Cond.isRef (.static Jvm.Bundle.tN "SUPPRESSED_SENTINEL" Jvm.Bundle.listD) ∈ flatC (Jvm.Cond.and given_1 narrow_1) := by decide +kernel
theorem lw_nc : ∀ q ∈ lwNC, Cond.not (.castable q.1 q.2) ∈ flatC (Jvm.Cond.and given_1 narrow_1) := by decide +kernel
theorem xinst {ci : Nat} {q : vw_C} (h : vwCl[ci]? = some q) : Cond.instantiable q.1 q.2.2 ∈ xT := match ci, h with
  | 0, h => by cases h; exact (xt1 99 rfl rfl)
  | 1, h => by cases h; exact (xt1 58 rfl rfl)
  | 2, h => by cases h; exact (xt1 162 rfl rfl)
  | 3, h => by cases h; exact (xt1 67 rfl rfl)
  | 4, h => by cases h; exact (xt1 125 rfl rfl)
  | 5, h => by cases h; exact (xt1 29 rfl rfl)
  | 6, h => by cases h; exact (xt1 119 rfl rfl)
  | 7, h => by cases h; exact (xt1 177 rfl rfl)
  | 8, h => by cases h; exact (xt1 138 rfl rfl)
  | 9, h => by cases h; exact (xt1 21 rfl rfl)
  | 10, h => by cases h; exact (xt4 87 rfl rfl)
  | k + 11, h => by simp [vwCl] at h
theorem lw_G {p : Program} {s : State} {m : MethodId} {meth : Method} {c : Code} {b L : Nat} {xs : Nat → Int32} (C0 : lw_At p s m meth c b L xs) : lwH p s m meth c b L xs := by
  obtain ⟨hx, hb, hr, hml, hown, hts, hX, hbl, hlocks, hgv⟩ := id C0
  have hfl := flat_of_before _ hgv
  have hnA : ∀ a : Nat, a < s.heap.size → ¬ lwA s a := fun a ha => Nat.not_le.mpr ha
  refine ⟨C0, fun w hw => hts w (List.mem_filter.mp hw).1, fun w hw => (List.mem_append.mp hw).elim (fun h => hts w (List.mem_filter.mp h).1) (fun h => hts w (xO_in w h)), ⟨fun w hw => va_Nw.of (xCs_tab hw) (hts w (xCs_in w hw)), fun q hq => ?_, ?_, ?_⟩, fun q hq => va_Nc.of (hfl _ (lw_nc q hq))⟩
  · obtain ⟨a, _, _, _, h1, -⟩ := Cond.exactly_spec (hfl _ (lw_ex q hq))
    exact ⟨a, vk_R.of (hts _ (xSt_in q hq)) h1⟩
  · exact vx_Zqof (hts _ (xl2 (List.mem_of_getElem? (i := 44) rfl))) (hts _ (xl1 (List.mem_of_getElem? (i := 12) rfl))) (hfl _ lw_i1) hnA
  · exact vx_Zqof (hts _ (xl2 (List.mem_of_getElem? (i := 46) rfl))) (hts _ (xl1 (List.mem_of_getElem? (i := 12) rfl))) (hfl _ lw_i2) hnA
theorem lw_D {s : State} {args : Array Value} (hts : ∀ w ∈ xT, w.before args s = true) : ∃ D : va_G, ∀ (c : Nat) (q : vw_C), vwCl[c]? = some q → u_Kn s q.1 q.2.1 q.2.2 (D.1 c) (D.2 c) := by
  have h : ∀ c : Nat, ∃ z : ClassId × (Nat → Nat), ∀ q : vw_C, vwCl[c]? = some q → u_Kn s q.1 q.2.1 q.2.2 z.1 z.2 := by
    intro c
    cases hq : vwCl[c]? with
    | none => exact ⟨((0 : Nat), fun _ => 0), fun q h => nomatch h⟩
    | some q =>
      obtain ⟨cC, iS, hk⟩ := u_known (n := q.2.2) hts (xcls hq).1 (hts _ (xinst hq))
      exact ⟨(cC, iS), fun q' h => by cases h; exact hk⟩
  exact ⟨(fun c => (h c).choose.1, fun c => (h c).choose.2), fun c q hq => (h c).choose_spec q hq⟩
section LWS
variable {p : Program} {l : Launch} {e : Env} {s : State} {m : MethodId} {below : List Frame} {meth : Method} {c : Code} {Q : State → Prop} {D : va_G} {H : Heap} {locs : List Loc} {ls : Array Slot} {ad : Nat → Nat} {ca : Nat → ClassId} {σ σ1 : XS} {cells slots b L : Nat} {xs : Nat → Int32} {ad0 : Nat → Nat} {ca0 : Nat → ClassId}
theorem xPt.relo {A : Nat → Prop} {n0 s0 : Nat} {st : List Value} {ls' : Array Slot} {lv : List (Nat × Value)} (h : xPt D A s 7 n0 s0 ad0 ca0 H locs ls ad ca (List.replicate 7 none) st σ) (hl : lv_has ls' 7 lv) : xPt D A s 7 n0 s0 ad0 ca0 H locs ls' ad ca (List.replicate 7 none) st σ :=
  ⟨h.1, ⟨hl.1, hl.2.1, by simp, fun i v hi => by
    rw [List.getElem?_replicate] at hi
    split at hi
    · cases hi
    · cases hi⟩, h.2.2⟩
/-- a constructor of the abstract machine's, called by the law -/
theorem lw_init {N d u j pc bb : Nat} {restc : List Value} {rest : List Value} (hcall : xcall N d u [.ref bb] σ = some (none, σ1)) (G : lwH p s m meth c b L xs) (hpt : xPt D (lwA s) s 7 0 0 ad0 ca0 H locs ls ad ca (List.replicate 7 none) (.ref bb :: rest) σ) (hret : (xM u).2.2.2.2 = none) (hname : (xM u).2.1.name = "<init>") (hA0 : xA u = 0) (hu : u < 149)
    (c1 : Cond.methodLink lwRL j (xM u).2.1 ∈ xT) (c2 : Cond.instanceMethod (xM u).2.1 ∈ xT) (hcat : (restc.map fun v => v.category).sum ≤ 8) (hd : decode code pc = .ok (.invokespecial j, 3)) (hdd : d ≤ 1000) (hRc : cells + (σ1.1 - σ.1) ≤ room_1.cells) (hRs : slots + (σ1.2.1 - σ.2.1) ≤ room_1.slots)
    (hk : ∀ (H' : Heap) (locs' : List Loc) (w' : XW), xAg σ.1 ad ca w' → xPt D (lwA s) s 7 0 0 ad0 ca0 H' locs' ls w'.1 w'.2 (List.replicate 7 none) rest σ1 → W p l e room_1 s m #[Value.ref b] below meth c H' locs' (cells + (σ1.1 - σ.1)) (slots + (σ1.2.1 - σ.2.1)) Q (F0 m (pc + 3) ls restc)) :
    W p l e room_1 s m #[Value.ref b] below meth c H locs cells slots Q (F0 m pc ls (.ref (ad bb) :: restc)) := by
  obtain ⟨⟨hx, hb, hr, hml, hown, hts0, hX, hbl, hlocks, hgv⟩, hts, htn, hz, hnc⟩ := id G
  obtain ⟨m1, m2, m3, m4, m5, m6⟩ := xM_ok u
  have hF := hpt.free (fun q h => h)
  have hmm := xcall_mono _ _ _ _ _ _ hcall
  have hvs : ∀ v ∈ ([.ref bb] : List Value), xok σ.1 v := fun v hv => by
    rcases List.mem_cons.mp hv with rfl | hv
    · exact hpt.top
    · cases hv
  have hroom : (xRoom d σ σ1).frames + 1 ≤ room_1.frames ∧ 8 + ((xM u).2.2.2.1 + 11) + (xRoom d σ σ1).locals ≤ room_1.locals := by
    refine ⟨?_, ?_⟩
    · show d + 1 ≤ 2048
      omega
    · show 8 + ((xM u).2.2.2.1 + 11) + d * 40 ≤ 84000
      omega
  have hn := xA_ok hu
  rw [hA0] at hn
  have hrun := va_runI (p := p) (l := l) (e := e) (R := room_1) (s := s) (m := m) (args := #[Value.ref b]) (below := below) (meth := meth) (c := c) (H := H) (locs := locs) (cells := cells) (slots := slots) (b := ad bb) (As := []) (rest := restc) (g := F0 m pc ls (.ref (ad bb) :: restc)) ⟨hx, hb, hml, hown, hts⟩ (xcall_ok l D N d _ _ _ _ _ hcall ad ca H.size) (cwI 0 hts (xgoodT (xW_in u)) (by unfold xW; rw [hret]) rfl rfl (hts _ m6) (hts _ c1) (hts _ c2) hname ⟨m4.1, m4.2, hn⟩ hroom) ⟨xPre_blind, fun U hU hW => hpt.pre htn hvs hU hW⟩ rfl rfl hpt.2.1.1 rfl (lv_room hcat) hd ⟨hRc, hRs⟩
  refine va_callv (a := #[Value.ref (ad bb)]) hrun hpt.1.2.2.1 (fun q _ h => hF q h) hF (fun w1 t H1 locs1 ht hvm hw hB hz1 hk1 hS => ?_)
  exact hk H1 locs1 w1 hw (hpt.after (fun q h => h) hw hB ht hvm hS hmm (fun v hv => xok_le (hpt.2.2.1 v (List.mem_cons_of_mem _ hv)) hmm.1))
end LWS
set_option maxHeartbeats 4000000 in
set_option maxRecDepth 100000 in
theorem whole_start (hpure : lwPure) {p : Program} {e : Env} {s : State} {m : MethodId} {below : List Frame} {meth : Method} {c : Code} (l : Launch) (hls : l.stackTraces = false) {b L : Nat} {xs : Nat → Int32} (hL : L ≤ 3072) (C0 : lw_At p s m meth c b L xs) : W p l e room_1 s m #[Value.ref b] below meth c s.heap [] 0 0 (lw_Z below #[Value.ref b] s) (entryFrame m ([Value.ref b] : List Value).toArray 7) := by
  obtain ⟨N1, N2, d, Inv, σb, σd, hdd, hc1, hc2, hI, hbd, hAll⟩ := hpure
  have G := lw_G C0
  obtain ⟨-, hts, htn, hz, hnc⟩ := id G
  obtain ⟨hx, hb, hr, hml, hown, hts0, hX, hbl, hlocks, hgv⟩ := id C0
  obtain ⟨D, hD⟩ := lw_D hts
  have hA : ∀ q, s.heap.size ≤ q → lwA s q := fun _ h => h
  have q1 := xcall_mono _ _ _ _ _ _ hc1
  have q2 := xcall_mono _ _ _ _ _ _ hc2
  have q3 := hbd σd hI
  dsimp only at q1 q2
  have hl := lv_entry ([.ref b]) (n := 7) (Nat.le_of_ble_eq_true rfl)
  rw [lg_entry_eq]
  generalize (lg_sl ([.ref b]) ++ List.replicate (7 - (lg_sl ([.ref b])).length) Slot.unset).toArray = ls at hl ⊢
  have hl : lv_has ls 7 [(0, .ref b)] := hl
  have hpt0 : xPt D (lwA s) s 7 0 0 (fun _ => 0) (fun _ => (0 : Nat)) s.heap [] ls (fun _ => 0) (fun _ => (0 : Nat)) (List.replicate 7 none) [] (0, 0, fun _ => .inl (9, [])) := by
    refine ⟨⟨fun k q h => by simp [xws] at h, ⟨fun i j p q h => by simp [xws] at h, fun k q h => by simp [xws] at h⟩, va_S.rf, ⟨hD, fun i hi => absurd hi (Nat.not_lt_zero _)⟩, fun i hi => absurd hi (Nat.not_lt_zero _)⟩, ⟨hl.1, hl.2.1, by simp, fun i v hi => ?_⟩, fun v hv => by simp at hv, Nat.le_refl _, Nat.le_refl _, fun i hi => absurd hi (Nat.not_lt_zero _)⟩
    rw [List.getElem?_replicate] at hi
    split at hi
    · cases hi
    · cases hi
  refine va_new (C := RX9) (T := TX9) (N := 4) (ci := 9) (fs := xdef 9) hx hb hts (xcls (ci := 9) rfl).1 (xFty 9) (xcls (ci := 9) rfl).2.1 hown (hts _ (xt1 20 rfl rfl)) (hts _ (xt1 21 rfl rfl)) (hts _ (xt1 1 rfl rfl)) hpt0.K hpt0.1.1 hpt0.1.2.1 hpt0.1.2.2.1 hA rfl (fun j hj => xdef_at (c := 9) hj) (by show 0 + 1 ≤ 601024; omega) (by show 0 + 4 ≤ 7293034; omega) dL_law_0 (fun a1 H1 k2 k3 k4 => ?_)
  have hpt1 := hpt0.alloc (q := a1) (cA := (0 : Nat)) (x := .inl (9, xdef 9)) (dn := 4) (st' := []) (fun v hv => nomatch hv) (fun t n' b e => nomatch e) (fun ci' fs e b hb' => by cases e; exact absurd hb' (xdef_nr b)) (fun _ _ _ e => nomatch e) (by show va_P D vwCl (_ ++ [(a1, .inr (9, (xdef 9).map (xcv _)))]) H1; rw [xdef_map]; exact k2) (by show va_D (lwA s) (_ ++ [(a1, .inr (9, (xdef 9).map (xcv _)))]); rw [xdef_map]; exact k3) k4
  refine lv_dup hx hb dL_law_3 rfl ?_
  have hpt1 := hpt1.push hpt1.top
  have hax1 : va_up (fun _ => 0) 0 a1 0 = a1 := va_up_self _ _ _
  rw [show (F0 m (0 + 3 + 1) ls [Value.ref a1, Value.ref a1]) = F0 m 4 ls [Value.ref (va_up (fun _ => 0) 0 a1 0), Value.ref a1] by rw [hax1]]
  refine lw_init (rest := [.ref 0]) hc1 G hpt1 rfl rfl rfl (by decide) (xt1 22 rfl rfl) (xt1 23 rfl rfl) (Nat.le_of_ble_eq_true rfl) dL_law_4 hdd (by show _ ≤ 601024; omega) (by show _ ≤ 7293034; omega) (fun H2 locs2 w2 hag2 hpt2 => ?_)
  have hax2 : w2.1 0 = a1 := (hag2 0 (by decide)).1.trans hax1
  refine lv_astore_n (lv' := [(1, .ref a1), (0, .ref b)]) hx hb dL_law_7 rfl hl (by decide) rfl (fun ls1 hl => ?_)
  have hpt2 := hpt2.pop.relo hl
  refine va_new (C := RX10) (T := TX10) (N := 41) (ci := 10) (fs := xdef 10) hx hb hts (xcls (ci := 10) rfl).1 (xFty 10) (xcls (ci := 10) rfl).2.1 hown (hts _ (xt4 86 rfl rfl)) (hts _ (xt4 87 rfl rfl)) (hts _ (xt1 11 rfl rfl)) hpt2.K hpt2.1.1 hpt2.1.2.1 hpt2.1.2.2.1 hA rfl (fun j hj => xdef_at (c := 10) hj) (by show _ ≤ 601024; omega) (by show _ ≤ 7293034; omega) dL_law_8 (fun a2 H3 k2 k3 k4 => ?_)
  have hpt3 := hpt2.alloc (q := a2) (cA := (0 : Nat)) (x := .inl (10, xdef 10)) (dn := 41) (st' := []) (fun v hv => nomatch hv) (fun t n' b e => nomatch e) (fun ci' fs e b hb' => by cases e; exact absurd hb' (xdef_nr b)) (fun _ _ _ e => nomatch e) (by show va_P D vwCl (_ ++ [(a2, .inr (10, (xdef 10).map (xcv _)))]) H3; rw [xdef_map]; exact k2) (by show va_D (lwA s) (_ ++ [(a2, .inr (10, (xdef 10).map (xcv _)))]); rw [xdef_map]; exact k3) k4
  refine lv_dup hx hb dL_law_11 rfl ?_
  have hpt3 := hpt3.push hpt3.top
  have ham3 : va_up w2.1 σb.1 a2 σb.1 = a2 := va_up_self _ _ _
  have hx0 : 0 < σb.1 := by omega
  have hax3 : va_up w2.1 σb.1 a2 0 = a1 := (va_up_ne _ _ (Nat.ne_of_lt hx0)).trans hax2
  rw [show (F0 m (8 + 3 + 1) ls1 [Value.ref a2, Value.ref a2]) = F0 m 12 ls1 [Value.ref (va_up w2.1 σb.1 a2 σb.1), Value.ref a2] by rw [ham3]]
  refine lw_init (rest := [.ref σb.1]) hc2 G hpt3 rfl rfl rfl (by decide) (xt4 88 rfl rfl) (xt4 89 rfl rfl) (Nat.le_of_ble_eq_true rfl) dL_law_12 hdd (by show _ ≤ 601024; omega) (by show _ ≤ 7293034; omega) (fun H4 locs4 w4 hag4 hpt4 => ?_)
  have hax4 : w4.1 0 = a1 := (hag4 0 (by show 0 < σb.1 + 1; omega)).1.trans hax3
  have ham4 : w4.1 σb.1 = a2 := (hag4 σb.1 (by show σb.1 < σb.1 + 1; omega)).1.trans ham3
  refine lv_astore_n (lv' := [(2, .ref a2), (1, .ref a1), (0, .ref b)]) hx hb dL_law_15 rfl hl (by decide) rfl (fun ls2 hl => ?_)
  have hpt4 := hpt4.pop.relo hl
  refine lv_iconst (v := 1) hx hb dL_law_16 (by decide) ?_
  refine va_newa (atype := .long) (a0 := (1, .inr (.inl (fun _ => 0)))) (ty := .long) hx hb (hts _ (xt5 154 rfl rfl)) rfl hpt4.K hpt4.1.1 hpt4.1.2.1 hpt4.1.2.2.1 hA (fun _ => rfl) (by decide) rfl (by decide) (by show _ ≤ 601024; omega) (by show _ ≤ 7293034; omega) dL_law_17 (fun qo cL H5 k1 k2 k3 k4 => ?_)
  have hpt5 : lwPt D (lwA s) s H5 locs4 w4 σd qo cL (fun _ => 0) := ⟨k2, k3, k4, hpt4.1.2.2.2.1, k1.2 0 _ rfl, hpt4.1.2.2.2.2⟩
  refine lv_astore_n (lv' := [(3, .ref qo), (2, .ref a2), (1, .ref a1), (0, .ref b)]) hx hb dL_law_19 rfl hl (by decide) rfl (fun ls3 hl => ?_)
  refine lv_iconst (v := 0) hx hb dL_law_20 (by decide) ?_
  refine lv_istore (lv' := [(4, .int (nI 0)), (3, .ref qo), (2, .ref a2), (1, .ref a1), (0, .ref b)]) hx hb dL_law_21 hl (by decide) rfl (fun ls4 hl => ?_)
  exact lw_num (by first | omega | (dsimp only; omega)) (by first | omega | (dsimp only; omega)) (law_loop hls G hL hAll hbd hdd 512 0 0 σd w4 (fun _ => 0) H5 locs4 ls4 (by omega) (by omega) (Nat.le_refl _) hI hax4 ham4 hpt5 (lv_sub hl [4, 3, 2, 1, 0] rfl))
