/-! the abstract machine's throws are the machine's -/
def xinvT (callX : Nat → List Value → XS → Option (Nat × XS)) (o j vk : Nat) (st : List Value) (σ : XS) : Option (Nat × XS) := match xC o j with
  | some (kd, u') =>
    if kd = 0 ∧ vk = 0 then (match st.drop (xA u') with
      | .ref b :: rest => if (rest.map Value.category).sum ≤ 8 ∧ b < σ.1 then (match σ.2.2 b with
        | .inl (c, _) => if c = (xM u').1 then callX u' (.ref b :: (st.take (xA u')).reverse) σ else none
        | _ => none) else none
      | _ => none)
    else if kd = 1 ∧ vk = 1 then (if (st.take (xA u')).length = xA u' ∧ ((st.drop (xA u')).map Value.category).sum ≤ 8 then callX u' (st.take (xA u')).reverse σ else none)
    else none
  | none => none
def xgoX (call : Nat → List Value → XS → XO) (callX : Nat → List Value → XS → Option (Nat × XS)) (u : Nat) : Nat → Nat → XL → List Value → XS → Option (Nat × XS)
  | 0, _, _, _, _ => none
  | n + 1, pc, lo, st, σ => match xTt.lookup (u, pc) with
    | some (E, _) => if (st.map Value.category).sum ≤ 8 then some (E, σ) else none
    | none => match xIn u pc with
      | none => none
      | some (i, _) => match i with
        | .invokevirtual j => (match xinvT callX (xM u).1 j 0 st σ with
          | some r => some r
          | none => xinv call (xM u).1 j 0 st σ (fun st' σ' => xgoX call callX u n (pc + 3) lo st' σ'))
        | .invokestatic j => (match xinvT callX (xM u).1 j 1 st σ with
          | some r => some r
          | none => xinv call (xM u).1 j 1 st σ (fun st' σ' => xgoX call callX u n (pc + 3) lo st' σ'))
        | i => xst (xM u).1 (xini u) pc i lo st σ (fun pc' lo' st' σ' => xgoX call callX u n pc' lo' st' σ')
def xcallX (N : Nat) : Nat → Nat → List Value → XS → Option (Nat × XS)
  | 0, _, _, _ => none
  | d + 1, u, vs, σ => if vs.length ≤ (xM u).2.2.2.1 then xgoX (xcall N d) (xcallX N d) u N 0 (vs.map some ++ List.replicate ((xM u).2.2.2.1 - vs.length) none) [] σ else none
theorem xinvT_next {callX : Nat → List Value → XS → Option (Nat × XS)} {o j vk : Nat} {st : List Value} {σ : XS} {r : Nat × XS} (hc : ∀ u vs σ E σ', callX u vs σ = some (E, σ') → σ.1 ≤ σ'.1 ∧ σ.2.1 ≤ σ'.2.1) (h : xinvT callX o j vk st σ = some r) : σ.1 ≤ r.2.1 ∧ σ.2.1 ≤ r.2.2.1 := by
  unfold xinvT at h
  repeat' split at h
  all_goals first
    | contradiction
    | exact hc _ _ _ r.1 r.2 h
theorem xgoX_mono {call : Nat → List Value → XS → XO} {callX : Nat → List Value → XS → Option (Nat × XS)} (hc : ∀ u vs σ rv σ', call u vs σ = some (rv, σ') → σ.1 ≤ σ'.1 ∧ σ.2.1 ≤ σ'.2.1) (hx : ∀ u vs σ E σ', callX u vs σ = some (E, σ') → σ.1 ≤ σ'.1 ∧ σ.2.1 ≤ σ'.2.1) {u E : Nat} {σ' : XS} : ∀ (n pc : Nat) (lo : XL) (st : List Value) (σ : XS), xgoX call callX u n pc lo st σ = some (E, σ') → σ.1 ≤ σ'.1 ∧ σ.2.1 ≤ σ'.2.1 := by
  intro n
  induction n with
  | zero => intro pc lo st σ h; cases h
  | succ n ih =>
    intro pc lo st σ h
    unfold xgoX at h
    split at h
    · split at h
      · cases h; exact ⟨Nat.le_refl _, Nat.le_refl _⟩
      · cases h
    · split at h
      · cases h
      · split at h
        · split at h
          · cases h
            exact xinvT_next hx (by assumption)
          · obtain ⟨st', σ1, h1, h2, h3⟩ := xinv_next hc h
            have := ih _ _ _ _ h1
            exact ⟨Nat.le_trans h2 this.1, Nat.le_trans h3 this.2⟩
        · split at h
          · cases h
            exact xinvT_next hx (by assumption)
          · obtain ⟨st', σ1, h1, h2, h3⟩ := xinv_next hc h
            have := ih _ _ _ _ h1
            exact ⟨Nat.le_trans h2 this.1, Nat.le_trans h3 this.2⟩
        · obtain ⟨pc', lo', st', σ1, h1, h2, h3⟩ := xst_next h
          have := ih _ _ _ _ h1
          exact ⟨Nat.le_trans h2 this.1, Nat.le_trans h3 this.2⟩
theorem xcallX_mono {N : Nat} : ∀ (d u : Nat) (vs : List Value) (σ : XS) (E : Nat) (σ' : XS), xcallX N d u vs σ = some (E, σ') → σ.1 ≤ σ'.1 ∧ σ.2.1 ≤ σ'.2.1 := by
  intro d
  induction d with
  | zero => intro u vs σ rv σ' h; cases h
  | succ d ih =>
    intro u vs σ rv σ' h
    unfold xcallX at h
    split at h
    · exact xgoX_mono (fun u vs σ rv σ' h => xcall_mono d u vs σ rv σ' h) ih _ _ _ _ _ h
    · cases h
/-- what a throw needs of the start -/
def xZ (A : Nat → Prop) (U : State) : Prop := (∀ w ∈ xCs, va_Nw w U) ∧ (∀ q ∈ xSt, ∃ sa, vk_R RX9 q.1 q.2 sa U) ∧ vx_Zq Jvm.Bundle.tN "UNASSIGNED_STACK" Jvm.Bundle.steD A U U.heap ∧ vx_Zq Jvm.Bundle.tN "SUPPRESSED_SENTINEL" Jvm.Bundle.listD A U U.heap
def xPreX (D : va_G) (ad : Nat → Nat) (ca : Nat → ClassId) (σ : XS) (sz : Nat) (vs : List Value) : Array Value → State → Prop := va_Pc (vs.map (xcv ad)) (fun U => U.heap.size = sz ∧ xB D (fun _ => True) (ad, ca) σ U ∧ (∀ w ∈ xNx, va_Nw w U) ∧ (∀ v ∈ vs, xok σ.1 v) ∧ xZ (va_A (xws ad ca σ.2.2 σ.1) sz) U)
def xXC (D : va_G) (ad : Nat → Nat) (ca : Nat → ClassId) (n0 E : Nat) (σ' : XS) (A : Nat → Prop) : String → State → State → Prop := vx_X (fun w : XW => xAg n0 ad ca w) (fun E' w t => E' = xEn E ∧ xB D A w σ' t) A
def xRoomX (d : Nat) (σ σ' : XS) : Room := { frames := d + 6, cells := σ'.1 - σ.1 + 1, slots := σ'.2.1 - σ.2.1 + 6, locals := d * 40 + 100 }
def xMetX (l : Launch) (D : va_G) (d u : Nat) (vs : List Value) (σ : XS) (E : Nat) (σ' : XS) : Prop := ∀ (ad : Nat → Nat) (ca : Nat → ClassId) (sz : Nat), vx_Met l (xM u).2.1 (xW u) (xRoomX d σ σ') (xPreX D ad ca σ sz vs) (fun _ _ _ _ => False) (xXC D ad ca σ.1 E σ' (va_A (xws ad ca σ.2.2 σ.1) sz)) (σ'.1 - σ.1 + 1) (σ'.2.1 - σ.2.1 + 6) (va_A (xws ad ca σ.2.2 σ.1) sz)
theorem xCs_warm {s U : State} (hW : s.WarmedH U.vm) {w : Cond} (hn : w ∈ xCs) (h : va_Nw w s) : va_Nw w U := by
  have hd : ∀ x : MethodName, va_Nw (.declares x) s → va_Nw (.declares x) U := fun x hz => va_tabs rfl (rfl : (s.setVm U.vm).vm = U.vm) (by rw [Cond.declares_setVm hW.alike]; exact hz)
  rcases List.mem_cons.mp hn with rfl | hn
  · exact va_Nw.warmC hW h
  rcases List.mem_cons.mp hn with rfl | hn
  · exact va_Nw.warmC hW h
  rcases List.mem_cons.mp hn with rfl | hn
  · exact va_Nw.warmC hW h
  rcases List.mem_cons.mp hn with rfl | hn
  · exact hd _ h
  rcases List.mem_cons.mp hn with rfl | hn
  · exact hd _ h
  rcases List.mem_cons.mp hn with rfl | hn
  · exact hd _ h
  · cases hn
theorem xCs_tab {w : Cond} (hn : w ∈ xCs) : w.onTables = true := by
  rcases List.mem_cons.mp hn with rfl | hn
  · rfl
  rcases List.mem_cons.mp hn with rfl | hn
  · rfl
  rcases List.mem_cons.mp hn with rfl | hn
  · rfl
  rcases List.mem_cons.mp hn with rfl | hn
  · rfl
  rcases List.mem_cons.mp hn with rfl | hn
  · rfl
  rcases List.mem_cons.mp hn with rfl | hn
  · rfl
  · cases hn
theorem xPreX_blind {D : va_G} {ad : Nat → Nat} {ca : Nat → ClassId} {σ : XS} {sz : Nat} {vs : List Value} : FrameBlind (xPreX D ad ca σ sz vs) := by
  intro a U g mk q
  obtain ⟨q0, q1, ⟨b1, b2, b3, b4⟩, q3, q4, ⟨z1, z2, z3, z4⟩⟩ := q
  exact ⟨q0, q1, ⟨b1, b2, xKn_moved (u := U) (U := U.calling g mk a) (Vm.Alike.refl U.vm) b3, b4⟩, fun w hw => xN_same hw (u := U) (U := U.calling g mk a) (Vm.Alike.refl U.vm) rfl (q3 w hw), q4, fun w hw => va_Nw.same (u := U) (U := U.calling g mk a) (xCs_tab hw) rfl (z1 w hw), fun q hq => (z2 q hq).imp fun sa h => vk_R.same (u := U) (U := U.calling g mk a) rfl h, vx_Zq.moved (u := U) (U := U.calling g mk a) (Vm.Alike.refl U.vm) z3, vx_Zq.moved (u := U) (U := U.calling g mk a) (Vm.Alike.refl U.vm) z4⟩
section XTH
variable {p : Program} {l : Launch} {e : Env} {R : Room} {s : State} {m : MethodId} {args : Array Value} {below : List Frame} {meth : Method} {c : Code} {Q : State → Prop} {D : va_G} {A : Nat → Prop} {u nL n0 s0 : Nat} {ad0 : Nat → Nat} {ca0 : Nat → ClassId} {H : Heap} {locs : List Loc} {ls : Array Slot} {ad : Nat → Nat} {ca : Nat → ClassId} {lo : XL} {st : List Value} {σ : XS}
theorem xPt.preX {vs : List Value} (hpt : xPt D A s nL n0 s0 ad0 ca0 H locs ls ad ca lo st σ) (hA : ∀ q, s.heap.size ≤ q → A q) (htn : ∀ w ∈ xNx, w.before args s = true) (hvs : ∀ v ∈ vs, xok σ.1 v) (hz : xZ A s) {U : State} (hU : U.heap = H) (hW : s.WarmedH U.vm) : xPreX D ad ca σ H.size vs (vs.map (xcv ad)).toArray U := by
  obtain ⟨p0, p1, p2, p3, p4⟩ := hpt.pre htn hvs hU hW
  obtain ⟨z1, z2, z3, z4⟩ := hz
  have hF := hpt.free hA
  refine ⟨p0, p1, p2, p3, p4, fun w hw => xCs_warm hW hw (z1 w hw), fun q hq => (z2 q hq).imp fun sa h => vk_R.warm hW h, ?_, ?_⟩
  · rw [hU]; exact (((z3.kept hpt.1.2.2.1.2.1).moved hW.alike).narrow hF)
  · rw [hU]; exact (((z4.kept hpt.1.2.2.1.2.1).moved hW.alike).narrow hF)
theorem xthrow {pc E : Nat} {t9 : Nat × Nat × Nat} {ad0 : Nat → Nat} {mc ms : Nat} (hl : l.stackTraces = false) (F : xFix p s m args meth c u) (hlocks : meth.locks = false) (hout : ∀ x ∈ c.exceptionTable.toList, False) (hA : ∀ q, s.heap.size ≤ q → A q) (hz : xZ A s) (hT : xTt.lookup (u, pc) = some (E, t9)) (hcat : (st.map Value.category).sum ≤ 8)
    (hpt : xPt D A s (xM u).2.2.2.1 n0 s0 ad0 ca0 H locs ls ad ca lo st σ) (hRf : 6 ≤ R.frames) (hRl : 100 ≤ R.locals) (hRc : σ.1 - n0 + 1 ≤ R.cells) (hRs : σ.2.1 - s0 + 6 ≤ R.slots) (hc : σ.1 - n0 + 1 ≤ mc) (hs : σ.2.1 - s0 + 6 ≤ ms) :
    W p l e R s m args below meth c H locs (σ.1 - n0) (σ.2.1 - s0) (vx_MQ below (fun _ _ _ _ => False) (xXC D ad0 ca0 n0 E σ A) args s mc ms A) (F0 m pc ls (st.map (xcv ad))) := by
  obtain ⟨hx, hb, hml, hown, hts, htn, hini⟩ := F
  obtain ⟨ik, is, ic⟩ := t9
  have hPT := xTt_ok _ (xlook2 hT)
  obtain ⟨t1, t2, t3, ⟨tx, t4⟩, ⟨t5, t6, t7⟩, d0, d3, d4, d6, d9, t8⟩ := hPT
  obtain ⟨z1, z2, z3, z4⟩ := hz
  obtain ⟨sa, hsa⟩ := z2 _ t4
  have t1 : (xM u).1 = 9 := t1
  have hown' : s.vm.findClass RX9 = some m.cls := by
    rw [t1] at hown
    exact hown
  have hat : ∀ w ∈ vx_atS RX9 ic (xEn E) xSup, w.before args s = true := vx_hat (fun w hw => hts w (xtm (t5 w hw) (List.mem_filter.mp hw).2)) t7 (fun w hw => va_Nw.use (xCs_tab hw) (z1 w hw))
  have hgd : ∀ w ∈ Cond.classLink RX9 ik (xEn E) :: Cond.initialized (xEn E) :: vx_atS RX9 ic (xEn E) xSup, vx_ot w = true := fun w hw => by
    rcases List.mem_cons.mp hw with rfl | hw
    · rfl
    · rcases List.mem_cons.mp hw with rfl | hw
      · rfl
      · exact t6 w hw
  have hcat' : ((st.map (xcv ad)).map fun v => v.category).sum ≤ 8 := by rw [xcat]; exact hcat
  refine vx_throwS (names := xSup) hx hb hl hown' t8 (by decide +kernel) (hts _ t2) (hts _ t3) hsa hat hgd z3 z4 hpt.1.2.2.1 (hpt.2.1.1.trans hml.symm) (xIn_ok d0).1 (xIn_ok d3).1 (xIn_ok d4).1 (xIn_ok d6).1 (xIn_ok d9).1 (fun x hx => (hout x hx).elim) (by show 2 + 3 < R.frames; omega) (by show _ + (13 * (2 + 1) + 43) ≤ R.locals; omega) hRc hRs hlocks ?_ hpt.1.2.2.1.2.2 hc hs
  intro t hal hsz hkeep
  refine ⟨(ad, ca), hpt.2.2.2.2.2, ⟨rfl, hpt.1.1.kept (fun k x hx => hkeep x.1 ((hpt.1.1 k x hx).lt)), hpt.1.2.1, xKn_moved hal hpt.1.2.2.2.1, hpt.1.2.2.2.2⟩, Nat.le_trans hpt.1.2.2.1.1 hsz, fun q hq hA' => ?_⟩
  rw [hkeep q (Nat.lt_of_lt_of_le hq hpt.1.2.2.1.1)]
  exact hpt.1.2.2.1.2.1 q hq hA'
end XTH
