/-! the law's own walk: its facts, its calls, its arguments -/
abbrev lwA (s : State) : Nat → Prop := fun q => s.heap.size ≤ q
def lwH (p : Program) (s : State) (m : MethodId) (meth : Method) (c : Code) (b L : Nat) (xs : Nat → Int32) : Prop := lw_At p s m meth c b L xs ∧ (∀ w ∈ xT, w.before #[Value.ref b] s = true) ∧ (∀ w ∈ xNx, w.before #[Value.ref b] s = true) ∧ xZ (lwA s) s ∧ (∀ q ∈ lwNC, va_Nc q.1 q.2 s)
section LWL
variable {p : Program} {l : Launch} {e : Env} {s : State} {m : MethodId} {below : List Frame} {meth : Method} {c : Code} {Q : State → Prop} {D : va_G} {H : Heap} {locs : List Loc} {ls : Array Slot} {w : XW} {σ σ1 : XS} {qo : Nat} {cL : ClassId} {v v1 : Nat → Int64} {cells slots b L : Nat} {xs : Nat → Int32}
theorem lwPt.pre2 {av : List Value} (G : lwH p s m meth c b L xs) (h : lwPt D (lwA s) s H locs w σ qo cL v) {U : State} (hU : U.heap = H) (hW : s.WarmedH U.vm) : lwPre D w σ qo cL v H.size av av.toArray U := by
  obtain ⟨-, hts, htn, ⟨z1, z2, z3, z4⟩, hnc⟩ := G
  have hF : ∀ q, va_A (lwW w σ qo cL v) H.size q → lwA s q := fun q hq => by
    rcases hq with ⟨k, e, hk⟩ | hq
    · exact h.2.1.2 k (q, e) hk
    · exact Nat.le_trans h.2.2.1.1 hq
  refine ⟨rfl, by rw [hU], ⟨by rw [hU]; exact h.1, h.2.1.weaken (fun _ _ _ _ => trivial), xKn_moved hW.alike h.2.2.2.1, ⟨arrOfT_moved hW.alike h.2.2.2.2.1.1, h.2.2.2.2.1.2.moved hW.alike⟩, h.2.2.2.2.2⟩, fun w hw => xN_warm hW hw (xN_of hw (htn w hw)), ⟨fun w hw => xCs_warm hW hw (z1 w hw), fun q hq => (z2 q hq).imp fun sa h => vk_R.warm hW h, ?_, ?_⟩, fun q hq => va_Nc.moved hW.alike (hnc q hq)⟩
  · rw [hU]; exact (((z3.kept h.2.2.1.2.1).moved hW.alike).narrow hF)
  · rw [hU]; exact (((z4.kept h.2.2.1.2.1).moved hW.alike).narrow hF)
/-- a call of one of the law's small methods -/
theorem lw_callW {d j n pc maxL mc ms : Nat} {y : MethodName} {ws : List Cond} {bytes : ByteArray} {hh : List (Nat × Nat × Nat × Nat)} {av : XW → Nat → List Value} {As rest : List Value} {k : Int32} (hM : lwMet l D d y ws av σ v k σ1 v1 mc ms) (hws : ws = .codeWith y bytes maxL (some .int) hh :: xT) (G : lwH p s m meth c b L xs) (hpt : lwPt D (lwA s) s H locs w σ qo cL v) (hav : av w qo = As)
    (c0 : Cond.codeWith y bytes maxL (some .int) hh ∈ xT) (c1 : Cond.methodLink lwRL j y ∈ xT) (c2 : Cond.static y ∈ xT) (c3 : Cond.initialized y.cls ∈ xT) (hy : y.cls ≠ "java/lang/invoke/MethodHandle" ∧ y.cls ≠ "java/lang/invoke/VarHandle" ∧ (parseMethodDescriptor y.desc).map (fun d => d.parameters.length) = some n) (hlen : As.length = n) (hmL : maxL ≤ 20) (hsize : ls.size = 7) (hcat : (rest.map fun v => v.category).sum ≤ 8) (hd : decode code pc = .ok (.invokestatic j, 3))
    (hdd : d ≤ 1000) (hRc : cells + mc ≤ room_1.cells) (hRs : slots + ms ≤ room_1.slots)
    (hk : ∀ (H' : Heap) (locs' : List Loc) (w' : XW), xAg σ.1 w.1 w.2 w' → lwPt D (lwA s) s H' locs' w' σ1 qo cL v1 → W p l e room_1 s m #[Value.ref b] below meth c H' locs' (cells + mc) (slots + ms) Q (F0 m (pc + 3) ls (.int k :: rest))) :
    W p l e room_1 s m #[Value.ref b] below meth c H locs cells slots Q (F0 m pc ls (As.reverse ++ rest)) := by
  obtain ⟨⟨hx, hb, hr, hml, hown, hts0, hX, hbl, hlocks, hgv⟩, hts, htn, hz, hnc⟩ := id G
  subst hav
  subst hws
  have hF : ∀ q, va_A (lwW w σ qo cL v) H.size q → lwA s q := fun q hq => by
    rcases hq with ⟨k, e, hk⟩ | hq
    · exact hpt.2.1.2 k (q, e) hk
    · exact Nat.le_trans hpt.2.2.1.1 hq
  have hroom : (lwRoom d mc ms).frames + 1 ≤ room_1.frames ∧ 8 + (maxL + 11) + (lwRoom d mc ms).locals ≤ room_1.locals := by
    refine ⟨?_, ?_⟩
    · show d + 8 + 1 ≤ 2048
      omega
    · show 8 + (maxL + 11) + ((d + 2) * 40 + 100) ≤ 84000
      omega
  have hrun := vx_runSW (p := p) (l := l) (e := e) (R := room_1) (s := s) (m := m) (args := #[Value.ref b]) (below := below) (meth := meth) (c := c) (H := H) (locs := locs) (cells := cells) (slots := slots) (own := lwRL) (index := j) (As := av w qo) (rest := rest) (g := F0 m pc ls ((av w qo).reverse ++ rest)) ⟨hx, hb, hml, hown, hts⟩ (hM w qo cL H.size) (vx_cwSW n hts (xgoodT (fun w hw => by
      rcases List.mem_append.mp hw with hw | hw
      · rcases List.mem_cons.mp hw with rfl | hw
        · exact c1
        · rcases List.mem_cons.mp hw with rfl | hw
          · exact c2
          · rcases List.mem_cons.mp hw with rfl | hw
            · exact c3
            · cases hw
      · rcases List.mem_cons.mp hw with rfl | hw
        · exact c0
        · exact hw)) rfl rfl rfl hy hroom) ⟨lwPre_blind, fun U hU hW => hpt.pre2 G hU hW⟩ rfl hlen hsize rfl (lv_room hcat) hd ⟨hRc, hRs⟩
  refine va_calli (a := (av w qo).toArray) hrun hpt.2.2.1 (fun q _ h => hF q h) hF (fun r w1 t H1 locs1 ht hvm hw hB hz1 hk1 hS => ?_)
  obtain ⟨rfl, hw⟩ := hw
  refine hk H1 locs1 w1 hw ⟨by rw [← ht]; exact hB.1, hB.2.1.weaken (fun k q _ h => hF q.1 h), hS, xKn_moved hvm.symm hB.2.2.1, ⟨arrOfT_moved hvm.symm hB.2.2.2.1.1, hB.2.2.2.1.2.moved hvm.symm⟩, hB.2.2.2.2⟩
/-- script[i + k] -/
theorem lw_arg {pc i k : Nat} {kz : Int} {rest : List Value} {lv : List (Nat × Value)} (G : lwH p s m meth c b L xs) (hL : L ≤ 3072) (hpt : lwPt D (lwA s) s H locs w σ qo cL v) (hl : lv_has ls 7 lv) (h0 : (0, Value.ref b) ∈ lv) (h4 : (4, Value.int (nI i)) ∈ lv) (hk : Int32.ofInt kz = nI k) (hi : i + k < L) (d0 : decode code pc = .ok (.aload_n 0, 1)) (d1 : decode code (pc + 1) = .ok (.iload 4, 2)) (d2 : decode code (pc + 3) = .ok (.iconst kz, 1)) (d3 : decode code (pc + 4) = .ok (.iadd, 1)) (d4 : decode code (pc + 5) = .ok (.iaload, 1))
    (kk : W p l e room_1 s m #[Value.ref b] below meth c H locs cells slots Q (F0 m (pc + 6) ls (.int (xs (i + k)) :: rest))) : W p l e room_1 s m #[Value.ref b] below meth c H locs cells slots Q (F0 m pc ls rest) := by
  obtain ⟨⟨hx, hb, hr, hml, hown, hts0, hX, hbl, hlocks, hgv⟩, hts, htn, hz, hnc⟩ := id G
  refine lv_aload_n hx hb d0 rfl (hl.2.2 _ h0) ?_
  refine lv_iload hx hb d1 (hl.2.2 _ h4) ?_
  refine lv_iconst hx hb d2 hk ?_
  refine lv_iadd hx hb d3 ?_
  rw [nI_add]
  refine va_sld (A := lwA s) hx hb hX hbl (Nat.not_le.mpr hbl) hpt.2.2.1 (vp_in_nI hi (by omega)) d4 ?_
  rw [nI_clamp (by omega)]
  exact kk
theorem lw_callM {N d u a ci bb pc j : Nat} {is rest : List Value} {fs : List Value} {rv : Option Value} (hcall : xcall N d u (.ref bb :: is) σ = some (rv, σ1)) (G : lwH p s m meth c b L xs) (hpt : lwPt D (lwA s) s H locs w σ qo cL v) (ha : w.1 bb = a) (hbn : bb < σ.1) (hf : σ.2.2 bb = .inl (ci, fs)) (hci : (xM u).1 = ci) (hu : u < 149) (his : ∀ v ∈ is, xok σ.1 v) (hlen : is.length = xA u)
    (c1 : Cond.methodLink lwRL j (xM u).2.1 ∈ xT) (c2 : Cond.instanceMethod (xM u).2.1 ∈ xT) (c3 : Cond.selects (xM u).2.1.cls (xM u).2.1 (xM u).2.1 ∈ xT) (hsize : ls.size = 7) (hcat : (rest.map fun v => v.category).sum ≤ 8) (hd : decode code pc = .ok (.invokevirtual j, 3)) (hdd : d ≤ 1000) (hRc : cells + (σ1.1 - σ.1) ≤ room_1.cells) (hRs : slots + (σ1.2.1 - σ.2.1) ≤ room_1.slots)
    (hk : ∀ (H' : Heap) (locs' : List Loc) (w' : XW), xAg σ.1 w.1 w.2 w' → lwPt D (lwA s) s H' locs' w' σ1 qo cL v → W p l e room_1 s m #[Value.ref b] below meth c H' locs' (cells + (σ1.1 - σ.1)) (slots + (σ1.2.1 - σ.2.1)) Q (F0 m (pc + 3) ls ((rv.toList.map (xcv w'.1)) ++ rest))) :
    W p l e room_1 s m #[Value.ref b] below meth c H locs cells slots Q (F0 m pc ls ((is.map (xcv w.1)).reverse ++ .ref a :: rest)) := by
  obtain ⟨⟨hx, hb, hr, hml, hown, hts0, hX, hbl, hlocks, hgv⟩, hts, htn, hz, hnc⟩ := id G
  subst ha
  exact lw_callN hcall hx hb hml hown hts htn (fun q h => h) hpt hbn hf hci hu his hlen c1 c2 c3 hsize hcat hd (by show d + 1 ≤ 2048; omega) (by show (d + 1) * 40 ≤ 84000; omega) hRc hRs hk
theorem lw_laload {pc : Nat} {rest : List Value} (G : lwH p s m meth c b L xs) (hpt : lwPt D (lwA s) s H locs w σ qo cL v) (hd : decode code pc = .ok (.laload, 1)) (kk : W p l e room_1 s m #[Value.ref b] below meth c H locs cells slots Q (F0 m (pc + 1) ls (.long (v 0) :: rest))) : W p l e room_1 s m #[Value.ref b] below meth c H locs cells slots Q (F0 m pc ls (.int 0 :: .ref qo :: rest)) := by
  obtain ⟨⟨hx, hb, hr, hml, hown, hts0, hX, hbl, hlocks, hgv⟩, hts, htn, hz, hnc⟩ := id G
  have hK : va_K D vwCl [(cL, .long)] s := ⟨hpt.2.2.2.1.1, fun k q hq => by
    match k, hq with
    | 0, hq => cases hq; exact hpt.2.2.2.2.1
    | k + 1, hq => simp at hq⟩
  exact va_lald hx hb hK hpt.1 σ.1 0 hpt.out rfl (by unfold vp_in; decide) hd kk
theorem lg_cmp_self (x : Int64) : lg_cmp x x = 0 := by unfold lg_cmp; simp
end LWL
/-- the two objects stand -/
def lwOk (x mm : Nat) (σ : XS) : Prop := (x < σ.1 ∧ ∃ fs, σ.2.2 x = .inl (9, fs)) ∧ mm < σ.1 ∧ ∃ fs, σ.2.2 mm = .inl (10, fs)
/-- the class's call and the reference's agree -/
def lwI (d x mm uc um : Nat) (is : List Value) (codes : List (Nat × Int32)) (Inv : XS → Prop) (σ : XS) : Prop :=
  (∃ (N1 N2 N3 : Nat) (r : Int32) (σ1 σ2 : XS), xcall N1 d uc (.ref x :: is) σ = some (some (.int r), σ1) ∧ lwOk x mm σ1 ∧ xcall N2 d um (.ref mm :: is) σ1 = some (some (.int r), σ2) ∧ lwOk x mm σ2 ∧ xcall N3 d 104 [.ref mm] σ2 = some (some (.int 0), σ2) ∧ Inv σ2) ∨
  (∃ (N1 N2 N3 E : Nat) (k b : Int32) (σ1 σ2 : XS), xcallX N1 d uc (.ref x :: is) σ = some (E, σ1) ∧ (E, k) ∈ codes ∧ lwOk x mm σ1 ∧ xcall N2 d um (.ref mm :: is) σ1 = some (some (.int b), σ2) ∧ lwOk x mm σ2 ∧ xcall N3 d 104 [.ref mm] σ2 = some (some (.int k), σ2) ∧ Inv σ2)
def lwV (d x mm uc um : Nat) (is : List Value) (codes : List (Nat × Int32)) (Inv : XS → Prop) (σ : XS) : Prop :=
  (∃ (N1 N2 N3 : Nat) (σ1 σ2 : XS), xcall N1 d uc (.ref x :: is) σ = some (none, σ1) ∧ lwOk x mm σ1 ∧ xcall N2 d um (.ref mm :: is) σ1 = some (none, σ2) ∧ lwOk x mm σ2 ∧ xcall N3 d 104 [.ref mm] σ2 = some (some (.int 0), σ2) ∧ Inv σ2) ∨
  (∃ (N1 N2 N3 E : Nat) (k : Int32) (σ1 σ2 : XS), xcallX N1 d uc (.ref x :: is) σ = some (E, σ1) ∧ (E, k) ∈ codes ∧ lwOk x mm σ1 ∧ xcall N2 d um (.ref mm :: is) σ1 = some (none, σ2) ∧ lwOk x mm σ2 ∧ xcall N3 d 104 [.ref mm] σ2 = some (some (.int k), σ2) ∧ Inv σ2)
