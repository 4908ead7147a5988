/-! the law's own small methods -/
def lwRL : String := "CountedHouseLaw"
def lwNC : List (String × String) := [(xEn 0, xEn 1), (xEn 0, xEn 2), (xEn 1, xEn 0), (xEn 1, xEn 2), (xEn 2, xEn 0), (xEn 2, xEn 1)]
def lwB (D : va_G) (A : Nat → Prop) (w : XW) (σ : XS) (qo : Nat) (cL : ClassId) (v : Nat → Int64) (t : State) : Prop := va_P D vwCl (lwW w σ qo cL v) t.heap ∧ va_D A (lwW w σ qo cL v) ∧ xKn D w.2 σ t ∧ (ArrOfT t cL .long ∧ va_RA t cL .long) ∧ xclo σ.1 σ.2.2
def lwPre (D : va_G) (w : XW) (σ : XS) (qo : Nat) (cL : ClassId) (v : Nat → Int64) (sz : Nat) (av : List Value) : Array Value → State → Prop := va_Pc av (fun U => U.heap.size = sz ∧ lwB D (fun _ => True) w σ qo cL v U ∧ (∀ w ∈ xNx, va_Nw w U) ∧ xZ (va_A (lwW w σ qo cL v) sz) U ∧ ∀ q ∈ lwNC, va_Nc q.1 q.2 U)
def lwPost (D : va_G) (w : XW) (n0 : Nat) (k : Int32) (σ1 : XS) (qo : Nat) (cL : ClassId) (v1 : Nat → Int64) (A : Nat → Prop) : Array Value → State → Outcome → State → Prop := va_Qi (fun (r : Int32) (w' : XW) => r = k ∧ xAg n0 w.1 w.2 w') (fun w' t => lwB D A w' σ1 qo cL v1 t) A
def lwRoom (d mc ms : Nat) : Room := { frames := d + 8, cells := mc, slots := ms, locals := (d + 2) * 40 + 100 }
def lwMet (l : Launch) (D : va_G) (d : Nat) (y : MethodName) (ws : List Cond) (av : XW → Nat → List Value) (σ : XS) (v : Nat → Int64) (k : Int32) (σ1 : XS) (v1 : Nat → Int64) (mc ms : Nat) : Prop := ∀ (w : XW) (qo : Nat) (cL : ClassId) (sz : Nat), Met l y ws (lwRoom d mc ms) (lwPre D w σ qo cL v sz (av w qo)) (lwPost D w σ.1 k σ1 qo cL v1 (va_A (lwW w σ qo cL v) sz)) mc ms (va_A (lwW w σ qo cL v) sz)
def lwF (p : Program) (s : State) (m : MethodId) (args : Array Value) (meth : Method) (c : Code) (bytes : ByteArray) (maxL : Nat) (hh : List (Nat × Nat × Nat × Nat)) (A : Nat → Prop) : Prop :=
  p.tables.exec = Jvm.exec ∧ c.code = bytes ∧ c.maxLocals = maxL ∧ s.vm.findClass lwRL = some m.cls ∧ (∀ w ∈ xT, w.before args s = true) ∧ (∀ w ∈ xNx, w.before args s = true) ∧ xZ A s ∧ (∀ q ∈ lwNC, va_Nc q.1 q.2 s) ∧ meth.sig.returnType = some .int ∧ meth.locks = false ∧ c.exceptionTable.toList = tableOf hh ∧ (∀ q, s.heap.size ≤ q → A q)
theorem lwB_pt {D : va_G} {A : Nat → Prop} {w : XW} {σ : XS} {qo : Nat} {cL : ClassId} {v : Nat → Int64} {s : State} (h : lwB D A w σ qo cL v s) : lwPt D A s s.heap [] w σ qo cL v := ⟨h.1, h.2.1, va_S.rf, h.2.2.1, h.2.2.2.1, h.2.2.2.2⟩
theorem lwPt_B {D : va_G} {A : Nat → Prop} {w : XW} {σ : XS} {qo : Nat} {cL : ClassId} {v : Nat → Int64} {s t : State} {H : Heap} {locs : List Loc} (h : lwPt D A s H locs w σ qo cL v) (ht : t.heap = H) (hvm : s.vm.Alike t.vm) : lwB D A w σ qo cL v t := ⟨by rw [ht]; exact h.1, h.2.1, xKn_moved hvm h.2.2.2.1, ⟨arrOfT_moved hvm h.2.2.2.2.1.1, h.2.2.2.2.1.2.moved hvm⟩, h.2.2.2.2.2⟩
theorem lwPre_blind {D : va_G} {w : XW} {σ : XS} {qo : Nat} {cL : ClassId} {v : Nat → Int64} {sz : Nat} {av : List Value} : FrameBlind (lwPre D w σ qo cL v sz av) := by
  intro a U g mk q
  obtain ⟨q0, q1, ⟨b1, b2, b3, b5, b4⟩, q3, ⟨z1, z2, z3, z4⟩, q5⟩ := q
  exact ⟨q0, q1, ⟨b1, b2, xKn_moved (u := U) (U := U.calling g mk a) (Vm.Alike.refl U.vm) b3, ⟨arrOfT_moved (u := U) (E := U.calling g mk a) (Vm.Alike.refl U.vm) b5.1, va_RA.moved (u := U) (U := U.calling g mk a) (Vm.Alike.refl U.vm) b5.2⟩, b4⟩, fun w hw => xN_same hw (u := U) (U := U.calling g mk a) (Vm.Alike.refl U.vm) rfl (q3 w hw), ⟨fun w hw => va_Nw.same (u := U) (U := U.calling g mk a) (xCs_tab hw) rfl (z1 w hw), fun q hq => (z2 q hq).imp fun sa h => vk_R.same (u := U) (U := U.calling g mk a) rfl h, vx_Zq.moved (u := U) (U := U.calling g mk a) (Vm.Alike.refl U.vm) z3, vx_Zq.moved (u := U) (U := U.calling g mk a) (Vm.Alike.refl U.vm) z4⟩, fun q hq => va_Nc.moved (u := U) (U := U.calling g mk a) (Vm.Alike.refl U.vm) (q5 q hq)⟩
set_option maxHeartbeats 1000000 in
theorem lw_enter {l : Launch} {D : va_G} {d : Nat} {y : MethodName} {bytes : ByteArray} {maxL : Nat} {hh : List (Nat × Nat × Nat × Nat)} {av : XW → Nat → List Value} {σ : XS} {v : Nat → Int64} {k : Int32} {σ1 : XS} {v1 : Nat → Int64} {mc ms : Nat} (hy : plainName y.cls = true) (hyc : y.cls = lwRL) (hav : ∀ w qo, (lg_sl (av w qo)).length ≤ maxL)
    (body : ∀ (p : Program) (e : Env) (s : State) (m : MethodId) (args : Array Value) (below : List Frame) (meth : Method) (c : Code) (w : XW) (qo : Nat) (cL : ClassId) (A : Nat → Prop) (ls : Array Slot), lwF p s m args meth c bytes maxL hh A → lwPt D A s s.heap [] w σ qo cL v → lv_has ls maxL (lv_args 0 (av w qo)) →
      W p l e (lwRoom d mc ms) s m args below meth c s.heap [] 0 0 (MQ below (lwPost D w σ.1 k σ1 qo cL v1 A) args s mc ms A) (F0 m 0 ls [])) :
    lwMet l D d y (.codeWith y bytes maxL (some .int) hh :: xT) av σ v k σ1 v1 mc ms := by
  intro w qo cL sz
  refine va_MetW (cc := bytes) (maxL := maxL) (ret := some .int) (hh := hh) hy rfl ?_
  intro p e s m args below meth c s₁ B hml hv
  obtain ⟨rfl, hsz, hB, hN, hz, hnc⟩ := hv
  subst hsz
  have hts0 := atoms_spec (ws := Cond.codeWith y bytes maxL (some .int) hh :: xT) B.pre
  have hown : s.vm.findClass y.cls = some m.cls := findClass_of_methodNamed B.named
  have hl := lv_entry (av w qo) (n := maxL) (hav w qo)
  rw [lg_entry_eq]
  generalize (lg_sl (av w qo) ++ List.replicate (maxL - (lg_sl (av w qo)).length) Slot.unset).toArray = ls at hl ⊢
  have hB' : lwB D (va_A (lwW w σ qo cL v) s.heap.size) w σ qo cL v s := ⟨hB.1, hB.2.1.self, hB.2.2⟩
  exact body p e s m _ below meth c w qo cL _ ls ⟨B.exec, B.bytes, hml, by rw [← hyc]; exact hown, fun w hw => hts0 w (List.mem_cons_of_mem _ hw), fun w hw => xN_use hw (hN w hw), hz, hnc, B.returns, B.notSynchronized, vx_table (x := y) B (hts0 _ List.mem_cons_self), fun q h => Or.inr h⟩ (lwB_pt hB') hl
section LWT
variable {p : Program} {l : Launch} {e : Env} {R : Room} {s : State} {m : MethodId} {args : Array Value} {below : List Frame} {meth : Method} {c : Code} {D : va_G} {A : Nat → Prop} {H : Heap} {locs : List Loc} {ls : Array Slot} {w w1 : XW} {σ1 : XS} {qo n0 : Nat} {cL : ClassId} {v v1 : Nat → Int64} {bytes : ByteArray} {maxL : Nat} {hh : List (Nat × Nat × Nat × Nat)}
theorem lw_ret1 {k : Int32} {pc mc ms : Nat} (F : lwF p s m args meth c bytes maxL hh A) (hpt : lwPt D A s H locs w1 σ1 qo cL v1) (hag : xAg n0 w.1 w.2 w1) (hd : decode bytes pc = .ok (.ireturn, 1)) : W p l e R s m args below meth c H locs mc ms (MQ below (lwPost D w n0 k σ1 qo cL v1 A) args s mc ms A) (F0 m pc ls [.int k]) := by
  obtain ⟨hx, hb, hml, hown, hts, htn, hz, hnc, hr, hlocks, htab, hA⟩ := F
  exact W.iret hx hb hr (fun t ht hW => ⟨⟨k, w1, rfl, ⟨rfl, hag⟩, lwPt_B hpt ht hW.alike⟩, hpt.2.2.1.F ht⟩) hpt.2.2.1.2.2 hd
/-- lastore; goto; iconst_0; ireturn -/
theorem lw_tailL {r : Int64} {pc pc2 mc ms : Nat} {off : Int} (F : lwF p s m args meth c bytes maxL hh A) (hpt : lwPt D A s H locs w1 σ1 qo cL v) (hag : xAg n0 w.1 w.2 w1) (d2 : decode bytes pc = .ok (.lastore, 1)) (d3 : decode bytes (pc + 1) = .ok (.goto off, 3)) (ht : ((pc + 1 : Nat) : Int) + off = (pc2 : Int)) (d4 : decode bytes pc2 = .ok (.iconst 0, 1)) (d5 : decode bytes (pc2 + 1) = .ok (.ireturn, 1)) :
    W p l e R s m args below meth c H locs mc ms (MQ below (lwPost D w n0 0 σ1 qo cL (vp_updL v 0 r) A) args s mc ms A) (F0 m pc ls [.long r, .int 0, .ref qo]) := by
  have F' := F
  obtain ⟨hx, hb, hml, hown, hts, htn, hz, hnc, hr, hlocks, htab, hA⟩ := F
  have hK : va_K D vwCl [(cL, .long)] s := ⟨hpt.2.2.2.1.1, fun k q hq => by
    match k, hq with
    | 0, hq => cases hq; exact hpt.2.2.2.2.1
    | k + 1, hq => simp at hq⟩
  refine va_last hx hb hK hpt.1 hpt.2.1 hpt.2.2.1 σ1.1 0 hpt.out rfl (by unfold vp_in; decide) d2 (fun H1 locs1 q1 q2 q3 => ?_)
  have e1 : (lwW w1 σ1 qo cL v).set σ1.1 (qo, .inl (cL, 1, .inr (.inl (vp_updL v (0 : Int32).toNatClampNeg r)))) = lwW w1 σ1 qo cL (vp_updL v 0 r) := by
    unfold lwW
    rw [List.set_append_right _ _ (by rw [xws_len]; exact Nat.le_refl _), xws_len, Nat.sub_self]
    rfl
  rw [e1] at q1 q2
  refine lv_goto hx hb d3 ht ?_
  refine lv_iconst (v := 0) hx hb d4 (by decide) ?_
  exact lw_ret1 F' ⟨q1, q2, q3, hpt.2.2.2⟩ hag d5
/-- caught: astore; iconst; ireturn -/
theorem lw_caught {pc e9 E : Nat} {k : Int32} {kz : Int} {ce : Cell} {q mc ms : Nat} {rest : List Value} {nm : String} (F : lwF p s m args meth c bytes maxL hh A) (hpt : lwPt D A s H locs w1 σ1 qo cL v) (hag : xAg n0 w.1 w.2 w1) (hcell : H[q]? = some ce) (hv : ce.vm = .none) (hcl : s.vm.findClass (xEn E) = some ce.cls) (hnm : nm = xEn E)
    (pre : List ExceptionTableEntry) (x : ExceptionTableEntry) (suf : List ExceptionTableEntry) (hsplit : tableOf hh = pre ++ x :: suf) (hpass : ∀ z ∈ pre, z.catchType ≠ 0 ∧ ∃ b : String, Cond.classLink lwRL z.catchType b ∈ xT ∧ (xEn E, b) ∈ lwNC) (hcov : covers x pc = true) (h0 : x.catchType ≠ 0) (hlink : Cond.classLink lwRL x.catchType nm ∈ xT) (hcast : Cond.castable (xEn E) (xEn E) ∈ xCs)
    (hls : lv_has ls maxL []) (he : e9 < maxL) (d1 : decode bytes x.handlerPc = .ok (.astore e9, 2)) (d2 : decode bytes (x.handlerPc + 2) = .ok (.iconst kz, 1)) (hk : Int32.ofInt kz = k) (d3 : decode bytes (x.handlerPc + 3) = .ok (.ireturn, 1)) :
    vx_W p l e R s m args below meth c H locs mc ms (MQ below (lwPost D w n0 k σ1 qo cL v A) args s mc ms A) (F0 m pc ls rest) q := by
  have F' := F
  obtain ⟨hx, hb, hml, hown, hts, htn, hz, hnc, hr, hlocks, htab, hA⟩ := F
  subst hnm
  refine vx_catch hown pre x suf (htab.trans hsplit) (fun z hz' => Or.inr ⟨(hpass z hz').1, ?_⟩) hcov h0 (hts _ hlink) (va_Nw.use (xCs_tab hcast) (hz.1 _ hcast)) hcell hv hcl ?_
  · obtain ⟨-, b, h1, h2⟩ := hpass z hz'
    exact ⟨b, hts _ h1, hnc _ h2⟩
  · refine lv_astore hx hb d1 hls he rfl (fun ls' h' => ?_)
    refine lv_iconst hx hb d2 hk ?_
    exact lw_ret1 F' hpt hag d3
theorem lw_caught1 {pc E : Nat} {e9 : Fin 4} {k : Int32} {kz : Int} {ce : Cell} {q mc ms : Nat} {rest : List Value} {nm : String} (F : lwF p s m args meth c bytes maxL hh A) (hpt : lwPt D A s H locs w1 σ1 qo cL v) (hag : xAg n0 w.1 w.2 w1) (hcell : H[q]? = some ce) (hv : ce.vm = .none) (hcl : s.vm.findClass (xEn E) = some ce.cls) (hnm : nm = xEn E)
    (pre : List ExceptionTableEntry) (x : ExceptionTableEntry) (suf : List ExceptionTableEntry) (hsplit : tableOf hh = pre ++ x :: suf) (hpass : ∀ z ∈ pre, z.catchType ≠ 0 ∧ ∃ b : String, Cond.classLink lwRL z.catchType b ∈ xT ∧ (xEn E, b) ∈ lwNC) (hcov : covers x pc = true) (h0 : x.catchType ≠ 0) (hlink : Cond.classLink lwRL x.catchType nm ∈ xT) (hcast : Cond.castable (xEn E) (xEn E) ∈ xCs)
    (hls : lv_has ls maxL []) (he : e9.val < maxL) (d1 : decode bytes x.handlerPc = .ok (.astore_n e9, 1)) (d2 : decode bytes (x.handlerPc + 1) = .ok (.iconst kz, 1)) (hk : Int32.ofInt kz = k) (d3 : decode bytes (x.handlerPc + 2) = .ok (.ireturn, 1)) :
    vx_W p l e R s m args below meth c H locs mc ms (MQ below (lwPost D w n0 k σ1 qo cL v A) args s mc ms A) (F0 m pc ls rest) q := by
  have F' := F
  obtain ⟨hx, hb, hml, hown, hts, htn, hz, hnc, hr, hlocks, htab, hA⟩ := F
  subst hnm
  refine vx_catch hown pre x suf (htab.trans hsplit) (fun z hz' => Or.inr ⟨(hpass z hz').1, ?_⟩) hcov h0 (hts _ hlink) (va_Nw.use (xCs_tab hcast) (hz.1 _ hcast)) hcell hv hcl ?_
  · obtain ⟨-, b, h1, h2⟩ := hpass z hz'
    exact ⟨b, hts _ h1, hnc _ h2⟩
  · refine lv_astore_n hx hb d1 rfl hls he rfl (fun ls' h' => ?_)
    refine lv_iconst hx hb d2 hk ?_
    exact lw_ret1 F' hpt hag d3
end LWT
