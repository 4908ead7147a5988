/-! the law's own world: the abstract machine's cells, and its array of one long -/
def lwO (cL : ClassId) (v : Nat → Int64) : va_E := .inl (cL, 1, .inr (.inl v))
def lwW (w : XW) (σ : XS) (qo : Nat) (cL : ClassId) (v : Nat → Int64) : va_W := xws w.1 w.2 σ.2.2 σ.1 ++ [(qo, lwO cL v)]
def lwPt (D : va_G) (A : Nat → Prop) (s : State) (H : Heap) (locs : List Loc) (w : XW) (σ : XS) (qo : Nat) (cL : ClassId) (v : Nat → Int64) : Prop :=
  va_P D vwCl (lwW w σ qo cL v) H ∧ va_D A (lwW w σ qo cL v) ∧ va_S A s.heap H locs ∧ xKn D w.2 σ s ∧ (ArrOfT s cL .long ∧ va_RA s cL .long) ∧ xclo σ.1 σ.2.2
theorem xws_len {ad : Nat → Nat} {ca : Nat → ClassId} {f : Nat → XE} {n : Nat} : (xws ad ca f n).length = n := by simp [xws]
section LWK
variable {p : Program} {l : Launch} {e : Env} {R : Room} {s : State} {m : MethodId} {args : Array Value} {below : List Frame} {meth : Method} {c : Code} {Q : State → Prop} {D : va_G} {A : Nat → Prop} {H : Heap} {locs : List Loc} {ls : Array Slot} {w : XW} {σ : XS} {qo : Nat} {cL : ClassId} {v : Nat → Int64} {cells slots : Nat}
theorem lwPt.pre (h : lwPt D A s H locs w σ qo cL v) : va_P D vwCl (xws w.1 w.2 σ.2.2 σ.1) H ∧ va_D A (xws w.1 w.2 σ.2.2 σ.1) := by
  refine ⟨fun k q hk => h.1 k q ?_, ⟨fun i j x y hi hj e => h.2.1.1 i j x y ?_ ?_ e, fun k q hk => h.2.1.2 k q ?_⟩⟩
  all_goals (unfold lwW; rw [List.getElem?_append_left (List.getElem?_eq_some_iff.mp (by assumption)).1]; assumption)
theorem lwPt.out (h : lwPt D A s H locs w σ qo cL v) : (lwW w σ qo cL v)[σ.1]? = some (qo, lwO cL v) := by
  unfold lwW
  rw [List.getElem?_append_right (by rw [xws_len]; exact Nat.le_refl _), xws_len, Nat.sub_self]
  rfl
theorem lwPt.free (h : lwPt D A s H locs w σ qo cL v) (hA : ∀ q, s.heap.size ≤ q → A q) : ∀ q, va_A (xws w.1 w.2 σ.2.2 σ.1) H.size q → A q := by
  intro q hq
  rcases hq with ⟨k, e, hk⟩ | hq
  · exact h.pre.2.2 k (q, e) hk
  · exact hA q (Nat.le_trans h.2.2.1.1 hq)
theorem lwPt.notin (h : lwPt D A s H locs w σ qo cL v) : qo < H.size ∧ ¬ va_A (xws w.1 w.2 σ.2.2 σ.1) H.size qo := by
  have hlt : qo < H.size := (h.1 _ _ h.out).lt
  refine ⟨hlt, fun hq => ?_⟩
  rcases hq with ⟨k, e, hk⟩ | hq
  · have hkl : k < σ.1 := by
      have := (List.getElem?_eq_some_iff.mp hk).1
      rw [xws_len] at this
      exact this
    have := h.2.1.1 k σ.1 (qo, e) (qo, lwO cL v) (by unfold lwW; rw [List.getElem?_append_left (by rw [xws_len]; exact hkl)]; exact hk) h.out rfl
    omega
  · omega
/-- behind a call over the abstract machine's cells -/
theorem lwPt.after {w1 : XW} {σ1 : XS} {t : State} {H1 : Heap} {locs1 : List Loc} (h : lwPt D A s H locs w σ qo cL v) (hA : ∀ q, s.heap.size ≤ q → A q) (hB : xB D (va_A (xws w.1 w.2 σ.2.2 σ.1) H.size) w1 σ1 t) (ht : t.heap = H1) (hvm : s.vm.Alike t.vm) (hk : ∀ q : Nat, q < H.size → ¬ va_A (xws w.1 w.2 σ.2.2 σ.1) H.size q → H1[q]? = H[q]?) (hS : va_S A s.heap H1 locs1) : lwPt D A s H1 locs1 w1 σ1 qo cL v := by
  obtain ⟨b1, b2, b3, b4⟩ := hB
  rw [ht] at b1
  obtain ⟨n1, n2⟩ := h.notin
  have ho := h.1 _ _ h.out
  refine ⟨b1.app (fun k q hq => ?_), (b2.weaken (fun k q _ hq => h.free hA q.1 hq)).app ⟨fun i j x y hi hj _ => ?_, fun k q hq => ?_⟩ (fun i j x y hi hj e => ?_), hS, xKn_moved hvm.symm b3, h.2.2.2.2.1, b4⟩
  · have h0 : k < 1 := (List.getElem?_eq_some_iff.mp hq).1
    rw [show k = 0 by omega] at hq
    cases hq
    exact ho.kept (hk qo n1 n2)
  · have hi0 : i < 1 := (List.getElem?_eq_some_iff.mp hi).1
    have hj0 : j < 1 := (List.getElem?_eq_some_iff.mp hj).1
    omega
  · have h0 : k < 1 := (List.getElem?_eq_some_iff.mp hq).1
    rw [show k = 0 by omega] at hq
    cases hq
    exact h.2.1.2 _ _ h.out
  · have hj0 : j < 1 := (List.getElem?_eq_some_iff.mp hj).1
    rw [show j = 0 by omega] at hj
    cases hj
    have := b2.2 i x hi
    rw [e] at this
    exact n2 this
theorem lwPt.callee {vs : List Value} (h : lwPt D A s H locs w σ qo cL v) (htn : ∀ w ∈ xNx, w.before args s = true) (hvs : ∀ v ∈ vs, xok σ.1 v) {U : State} (hU : U.heap = H) (hW : s.WarmedH U.vm) : xPre D w.1 w.2 σ H.size vs (vs.map (xcv w.1)).toArray U :=
  ⟨rfl, by rw [hU], ⟨by rw [hU]; exact h.pre.1, h.pre.2.weaken (fun _ _ _ _ => trivial), xKn_moved hW.alike h.2.2.2.1, h.2.2.2.2.2⟩, fun w hw => xN_warm hW hw (xN_of hw (htn w hw)), hvs⟩
theorem lwPt.calleeX {vs : List Value} (h : lwPt D A s H locs w σ qo cL v) (hA : ∀ q, s.heap.size ≤ q → A q) (htn : ∀ w ∈ xNx, w.before args s = true) (hz : xZ A s) (hvs : ∀ v ∈ vs, xok σ.1 v) {U : State} (hU : U.heap = H) (hW : s.WarmedH U.vm) : xPreX D w.1 w.2 σ H.size vs (vs.map (xcv w.1)).toArray U := by
  obtain ⟨p0, p1, p2, p3, p4⟩ := h.callee htn hvs hU hW
  obtain ⟨z1, z2, z3, z4⟩ := hz
  have hF := h.free hA
  refine ⟨p0, p1, p2, p3, p4, fun w hw => xCs_warm hW hw (z1 w hw), fun q hq => (z2 q hq).imp fun sa h => vk_R.warm hW h, ?_, ?_⟩
  · rw [hU]; exact (((z3.kept h.2.2.1.2.1).moved hW.alike).narrow hF)
  · rw [hU]; exact (((z4.kept h.2.2.1.2.1).moved hW.alike).narrow hF)
theorem lwK (h : lwPt D A s H locs w σ qo cL v) : va_K D vwCl [] s := ⟨h.2.2.2.1.1, fun k q hq => by simp at hq⟩
theorem lwPt.recv {b ci : Nat} {fs : List Value} {nm : String} (h : lwPt D A s H locs w σ qo cL v) (hb : b < σ.1) (hf : σ.2.2 b = .inl (ci, fs)) (hn : xR ci = nm) : ∃ cell : Cell, H[w.1 b]? = some cell ∧ cell.vm.isStatics = false ∧ s.vm.findClass nm = some cell.cls := by
  have hw := xws_at (ad := w.1) (ca := w.2) (f := σ.2.2) hb
  rw [hf] at hw
  obtain ⟨q9, hq9, -⟩ := h.pre.1 b _ hw
  have hq9 : vwCl[ci]? = some q9 := hq9
  have hq : q9.1 = nm := by
    rw [← hn]
    unfold xR
    rw [List.getD_eq_getElem?_getD, hq9]
    rfl
  have hrecv := va_recv (lwK h) h.pre.1 hq9 hw
  rw [hq] at hrecv
  exact hrecv
/-- a call of a method of the abstract machine that returns -/
theorem lw_callN {N d u ci b pc j nL : Nat} {own : String} {cc : ByteArray} {is rest : List Value} {fs : List Value} {rv : Option Value} {σ1 : XS} (hcall : xcall N d u (.ref b :: is) σ = some (rv, σ1)) (hx : p.tables.exec = Jvm.exec) (hb : c.code = cc) (hml : c.maxLocals = nL) (hown : s.vm.findClass own = some m.cls) (hts : ∀ w ∈ xT, w.before args s = true) (htn : ∀ w ∈ xNx, w.before args s = true)
    (hA : ∀ q, s.heap.size ≤ q → A q) (hpt : lwPt D A s H locs w σ qo cL v) (hbn : b < σ.1) (hf : σ.2.2 b = .inl (ci, fs)) (hci : (xM u).1 = ci) (hu : u < 149) (his : ∀ v ∈ is, xok σ.1 v) (hlen : is.length = xA u)
    (c1 : Cond.methodLink own j (xM u).2.1 ∈ xT) (c2 : Cond.instanceMethod (xM u).2.1 ∈ xT) (c3 : Cond.selects (xM u).2.1.cls (xM u).2.1 (xM u).2.1 ∈ xT) (hsize : ls.size = nL) (hcat : (rest.map fun v => v.category).sum ≤ 8) (hd : decode cc pc = .ok (.invokevirtual j, 3))
    (hRf : d + 1 ≤ R.frames) (hRl : (d + 1) * 40 ≤ R.locals) (hRc : cells + (σ1.1 - σ.1) ≤ R.cells) (hRs : slots + (σ1.2.1 - σ.2.1) ≤ R.slots)
    (hk : ∀ (H' : Heap) (locs' : List Loc) (w' : XW), xAg σ.1 w.1 w.2 w' → lwPt D A s H' locs' w' σ1 qo cL v → W p l e R s m args below meth c H' locs' (cells + (σ1.1 - σ.1)) (slots + (σ1.2.1 - σ.2.1)) Q (F0 m (pc + 3) ls ((rv.toList.map (xcv w'.1)) ++ rest))) :
    W p l e R s m args below meth c H locs cells slots Q (F0 m pc ls ((is.map (xcv w.1)).reverse ++ .ref (w.1 b) :: rest)) := by
  obtain ⟨m1, m2, m3, m4, m5, m6⟩ := xM_ok u
  have hF := hpt.free hA
  have hvs : ∀ v ∈ (.ref b :: is : List Value), xok σ.1 v := fun v hv => (List.mem_cons.mp hv).elim (fun e => e ▸ hbn) (his v)
  have hrecv := hpt.recv (nm := (xM u).2.1.cls) hbn hf (by rw [← hci]; exact m2)
  have hroom : (xRoom d σ σ1).frames + 1 ≤ R.frames ∧ 8 + ((xM u).2.2.2.1 + 11) + (xRoom d σ σ1).locals ≤ R.locals := by
    refine ⟨hRf, ?_⟩
    show 8 + ((xM u).2.2.2.1 + 11) + d * 40 ≤ R.locals
    omega
  have hrun := va_runV (p := p) (l := l) (e := e) (R := R) (s := s) (m := m) (args := args) (below := below) (meth := meth) (c := c) (H := H) (locs := locs) (cells := cells) (slots := slots) (C := (xM u).2.1.cls) (As := is.map (xcv w.1)) (rest := rest) (g := F0 m pc ls ((is.map (xcv w.1)).reverse ++ .ref (w.1 b) :: rest)) ⟨hx, hb, hml, hown, hts⟩ (xcall_ok l D N d _ _ _ _ _ hcall w.1 w.2 H.size) (cwV (xA u) hts (xgoodT (fun w hw => by
      rcases List.mem_append.mp hw with hw | hw
      · rcases List.mem_cons.mp hw with rfl | hw
        · exact c1
        · rcases List.mem_cons.mp hw with rfl | hw
          · exact c2
          · rcases List.mem_cons.mp hw with rfl | hw
            · exact c3
            · rcases List.mem_cons.mp hw with rfl | hw
              · exact m6
              · cases hw
      · exact xW_in u w hw)) rfl rfl rfl ⟨rfl, m4.1, m4.2, xA_ok hu⟩ hroom) ⟨xPre_blind, hrecv, fun U hU hW => hpt.callee htn hvs hU hW⟩ rfl (by rw [List.length_map]; exact hlen) hsize rfl (lv_room hcat) hd ⟨hRc, hRs⟩
  match rv, hrun, hk with
  | none, hr, hk =>
    refine va_callv (a := (Value.ref (w.1 b) :: is.map (xcv w.1)).toArray) hr hpt.2.2.1 (fun q _ h => hF q h) hF (fun w1 t H1 locs1 ht hvm hw hB hz1 hk1 hS => ?_)
    exact hk H1 locs1 w1 hw (hpt.after hA hB ht hvm hk1 hS)
  | some (.int x), hr, hk =>
    refine va_calli (a := (Value.ref (w.1 b) :: is.map (xcv w.1)).toArray) hr hpt.2.2.1 (fun q _ h => hF q h) hF (fun r w1 t H1 locs1 ht hvm hw hB hz1 hk1 hS => ?_)
    obtain ⟨rfl, hw⟩ := hw
    exact hk H1 locs1 w1 hw (hpt.after hA hB ht hvm hk1 hS)
  | some (.ref x), hr, hk =>
    refine va_callr (a := (Value.ref (w.1 b) :: is.map (xcv w.1)).toArray) hr hpt.2.2.1 (fun q _ h => hF q h) hF (fun w1 ra t H1 locs1 ht hvm hw hB hz1 hk1 hS => ?_)
    obtain ⟨hw, hb⟩ := hw
    obtain ⟨rfl, hB⟩ := hB
    exact hk H1 locs1 w1 hw (hpt.after hA hB ht hvm hk1 hS)
  | some (.long x), hr, hk =>
    intro T hT X
    obtain ⟨_, _, _, _, _, _, _, _, _, _, hq, _⟩ := hr T hT X
    exact hq.elim
  | some (.float x), hr, hk =>
    intro T hT X
    obtain ⟨_, _, _, _, _, _, _, _, _, _, hq, _⟩ := hr T hT X
    exact hq.elim
  | some (.double x), hr, hk =>
    intro T hT X
    obtain ⟨_, _, _, _, _, _, _, _, _, _, hq, _⟩ := hr T hT X
    exact hq.elim
  | some .null, hr, hk =>
    intro T hT X
    obtain ⟨_, _, _, _, _, _, _, _, _, _, hq, _⟩ := hr T hT X
    exact hq.elim
  | some (.retAddr x), hr, hk =>
    intro T hT X
    obtain ⟨_, _, _, _, _, _, _, _, _, _, hq, _⟩ := hr T hT X
    exact hq.elim
/-- a call of a method of the abstract machine that throws -/
theorem lw_callX {N d u ci b pc j nL E : Nat} {own : String} {cc : ByteArray} {is rest : List Value} {fs : List Value} {σ1 : XS} (hls : l.stackTraces = false) (hcall : xcallX N d u (.ref b :: is) σ = some (E, σ1)) (hx : p.tables.exec = Jvm.exec) (hb : c.code = cc) (hml : c.maxLocals = nL) (hown : s.vm.findClass own = some m.cls) (hts : ∀ w ∈ xT, w.before args s = true) (htn : ∀ w ∈ xNx, w.before args s = true)
    (hA : ∀ q, s.heap.size ≤ q → A q) (hz : xZ A s) (hpt : lwPt D A s H locs w σ qo cL v) (hbn : b < σ.1) (hf : σ.2.2 b = .inl (ci, fs)) (hci : (xM u).1 = ci) (hu : u < 149) (his : ∀ v ∈ is, xok σ.1 v) (hlen : is.length = xA u)
    (c1 : Cond.methodLink own j (xM u).2.1 ∈ xT) (c2 : Cond.instanceMethod (xM u).2.1 ∈ xT) (c3 : Cond.selects (xM u).2.1.cls (xM u).2.1 (xM u).2.1 ∈ xT) (hsize : ls.size = nL) (hcat : (rest.map fun v => v.category).sum ≤ 8) (hd : decode cc pc = .ok (.invokevirtual j, 3))
    (hRf : d + 7 ≤ R.frames) (hRl : (d + 1) * 40 + 100 ≤ R.locals) (hRc : cells + (σ1.1 - σ.1 + 1) ≤ R.cells) (hRs : slots + (σ1.2.1 - σ.2.1 + 6) ≤ R.slots)
    (hk : ∀ (H' : Heap) (locs' : List Loc) (w' : XW) (q : Addr) (ce : Cell), xAg σ.1 w.1 w.2 w' → lwPt D A s H' locs' w' σ1 qo cL v → H'[q]? = some ce → ce.vm = .none → s.vm.findClass (xEn E) = some ce.cls → vx_W p l e R s m args below meth c H' locs' (cells + (σ1.1 - σ.1 + 1)) (slots + (σ1.2.1 - σ.2.1 + 6)) Q (F0 m pc ls rest) q) :
    W p l e R s m args below meth c H locs cells slots Q (F0 m pc ls ((is.map (xcv w.1)).reverse ++ .ref (w.1 b) :: rest)) := by
  obtain ⟨m1, m2, m3, m4, m5, m6⟩ := xM_ok u
  have hF := hpt.free hA
  have hvs : ∀ v ∈ (.ref b :: is : List Value), xok σ.1 v := fun v hv => (List.mem_cons.mp hv).elim (fun e => e ▸ hbn) (his v)
  have hrecv := hpt.recv (nm := (xM u).2.1.cls) hbn hf (by rw [← hci]; exact m2)
  have hroom : (xRoomX d σ σ1).frames + 1 ≤ R.frames ∧ 8 + ((xM u).2.2.2.1 + 11) + (xRoomX d σ σ1).locals ≤ R.locals := by
    refine ⟨hRf, ?_⟩
    show 8 + ((xM u).2.2.2.1 + 11) + (d * 40 + 100) ≤ R.locals
    omega
  have hrun := vx_runV (p := p) (l := l) (e := e) (R := R) (s := s) (m := m) (args := args) (below := below) (meth := meth) (c := c) (H := H) (locs := locs) (cells := cells) (slots := slots) (C := (xM u).2.1.cls) (As := is.map (xcv w.1)) (rest := rest) (g := F0 m pc ls ((is.map (xcv w.1)).reverse ++ .ref (w.1 b) :: rest)) ⟨hx, hb, hml, hown, hts⟩ (xcallX_ok l hls D N d _ _ _ _ _ hcall w.1 w.2 H.size) (cwV (xA u) hts (xgoodT (fun w hw => by
      rcases List.mem_append.mp hw with hw | hw
      · rcases List.mem_cons.mp hw with rfl | hw
        · exact c1
        · rcases List.mem_cons.mp hw with rfl | hw
          · exact c2
          · rcases List.mem_cons.mp hw with rfl | hw
            · exact c3
            · rcases List.mem_cons.mp hw with rfl | hw
              · exact m6
              · cases hw
      · exact xW_in u w hw)) rfl rfl rfl ⟨rfl, m4.1, m4.2, xA_ok hu⟩ hroom) ⟨xPreX_blind, hrecv, fun U hU hW => hpt.calleeX hA htn hz hvs hU hW⟩ rfl (by rw [List.length_map]; exact hlen) hsize rfl (lv_room hcat) hd ⟨hRc, hRs⟩
  intro T hT X
  rcases hrun T hT X with ⟨v, st₀, t, T', L, h1, h2, h3, h4, h5, h6, h7⟩ | ⟨q, st₀, t, T', L, E', ce, h1, hX', hL, hTh, hTv, hxc, hce, hcv, hcl, hst⟩
  · exact h6.elim
  · obtain ⟨w1, hag, ⟨rfl, hB⟩, hFr⟩ := hxc
    have hal : s.vm.Alike t.vm := by rw [← hTv]; exact hX'.warmed.alike
    obtain ⟨k1, k2, k3⟩ := vx_keep h1 hTh hpt.2.2.1 (fun q _ h => hF q h) hF hL hFr
    have hpt' : lwPt D A s T'.heap (locs ++ L) w1 σ1 qo cL v := hpt.after hA hB hTh.symm hal k2 k3
    obtain ⟨t2, hs2, hq2⟩ := hk T'.heap (locs ++ L) w1 q ce hag hpt' (by rw [hTh]; exact hce) hcv hcl T' rfl hX'
    exact ⟨t2, hst.trans hs2, hq2⟩
end LWK
