/-! calls and returns -/
section XGO
variable {p : Program} {l : Launch} {e : Env} {R : Room} {s : State} {m : MethodId} {args : Array Value} {below : List Frame} {meth : Method} {c : Code} {Q : State → Prop} {D : va_G} {A : Nat → Prop} {u nL n0 s0 : Nat} {ad0 : Nat → Nat} {ca0 : Nat → ClassId} {H : Heap} {locs : List Loc} {ls : Array Slot} {ad : Nat → Nat} {ca : Nat → ClassId} {lo : XL} {st : List Value} {σ : XS}
theorem xPt.free (hpt : xPt D A s nL n0 s0 ad0 ca0 H locs ls ad ca lo st σ) (hA : ∀ q, s.heap.size ≤ q → A q) : ∀ q, va_A (xws ad ca σ.2.2 σ.1) H.size q → A q := by
  intro q h
  rcases h with ⟨k, e, h⟩ | h
  · exact hpt.1.2.1.2 k (q, e) h
  · exact hA q (Nat.le_trans hpt.1.2.2.1.1 h)
theorem xPt.after {w : XW} {σ1 : XS} {t : State} {H1 : Heap} {locs1 : List Loc} {st' : List Value} (hpt : xPt D A s nL n0 s0 ad0 ca0 H locs ls ad ca lo st σ) (hA : ∀ q, s.heap.size ≤ q → A q) (hag : xAg σ.1 ad ca w) (hB : xB D (va_A (xws ad ca σ.2.2 σ.1) H.size) w σ1 t) (ht : t.heap = H1) (hvm : s.vm.Alike t.vm) (hS : va_S A s.heap H1 locs1) (hm : σ.1 ≤ σ1.1 ∧ σ.2.1 ≤ σ1.2.1) (hst : ∀ v ∈ st', xok σ1.1 v) : xPt D A s nL n0 s0 ad0 ca0 H1 locs1 ls w.1 w.2 lo st' σ1 := by
  obtain ⟨b1, b2, b3, b4⟩ := hB
  rw [ht] at b1
  refine ⟨⟨b1, b2.weaken (fun k q _ h => hpt.free hA q.1 h), hS, xKn_moved hvm.symm b3, b4⟩, xloc_ext hpt.2.1 (fun i hi => (hag i hi).1) hm.1, hst, Nat.le_trans hpt.2.2.2.1 hm.1, Nat.le_trans hpt.2.2.2.2.1 hm.2, fun i hi => ?_⟩
  have hi' : i < σ.1 := Nat.lt_of_lt_of_le hi hpt.2.2.2.1
  rw [(hag i hi').1, (hag i hi').2]
  exact hpt.2.2.2.2.2 i hi
/-- the callee's start -/
theorem xPt.pre {vs : List Value} (hpt : xPt D A s nL n0 s0 ad0 ca0 H locs ls ad ca lo st σ) (htn : ∀ w ∈ xNx, w.before args s = true) (hvs : ∀ v ∈ vs, xok σ.1 v) {U : State} (hU : U.heap = H) (hW : s.WarmedH U.vm) : xPre D ad ca σ H.size vs (vs.map (xcv ad)).toArray U :=
  ⟨rfl, by rw [hU], ⟨by rw [hU]; exact hpt.1.1, hpt.1.2.1.weaken (fun _ _ _ _ => trivial), xKn_moved hW.alike hpt.1.2.2.2.1, hpt.1.2.2.2.2⟩, fun w hw => xN_warm hW hw (xN_of hw (htn w hw)), hvs⟩
/-- behind a call -/
theorem xback {pc : Nat} {st0 rest : List Value} {rv1 : Option Value} {σ1 : XS} {a : Array Value} (hpt : xPt D A s nL n0 s0 ad0 ca0 H locs ls ad ca lo st σ) (hA : ∀ q, s.heap.size ≤ q → A q) (hm : σ.1 ≤ σ1.1 ∧ σ.2.1 ≤ σ1.2.1) (hrest : ∀ v ∈ rest, xok σ.1 v)
    (hr : va_Run p l e R s m args below meth c H locs (σ.1 - n0) (σ.2.1 - s0) (σ1.1 - σ.1) (σ1.2.1 - σ.2.1) (F0 m pc ls st0) (rest.map (xcv ad)) (xPost D ad ca σ.1 rv1 σ1 (va_A (xws ad ca σ.2.2 σ.1) H.size) a) (va_A (xws ad ca σ.2.2 σ.1) H.size))
    (hk : ∀ H' locs' ad' ca', xPt D A s nL n0 s0 ad0 ca0 H' locs' ls ad' ca' lo (rv1.toList ++ rest) σ1 → W p l e R s m args below meth c H' locs' (σ1.1 - n0) (σ1.2.1 - s0) Q (F0 m (pc + 3) ls ((rv1.toList ++ rest).map (xcv ad')))) :
    W p l e R s m args below meth c H locs (σ.1 - n0) (σ.2.1 - s0) Q (F0 m pc ls st0) := by
  have hn := hpt.2.2.2.1
  have hs := hpt.2.2.2.2.1
  have e1 : σ.1 - n0 + (σ1.1 - σ.1) = σ1.1 - n0 := by omega
  have e2 : σ.2.1 - s0 + (σ1.2.1 - σ.2.1) = σ1.2.1 - s0 := by omega
  have hF := hpt.free hA
  have hr1 : ∀ v ∈ rest, xok σ1.1 v := fun v hv => xok_le (hrest v hv) hm.1
  match rv1, hr, hk with
  | none, hr, hk =>
    refine va_callv (a := a) hr hpt.1.2.2.1 (fun q _ h => hF q h) hF (fun w t H1 locs1 ht hvm hw hB hz1 hk1 hS => ?_)
    rw [e1, e2]
    have q9 := hk H1 locs1 w.1 w.2 (hpt.after hA hw hB ht hvm hS hm hr1)
    rw [show (Option.none.toList ++ rest : List Value) = rest from rfl, xmap_ext hrest (fun i hi => (hw i hi).1)] at q9
    exact q9
  | some (.int x), hr, hk =>
    refine va_calli (a := a) hr hpt.1.2.2.1 (fun q _ h => hF q h) hF (fun r w t H1 locs1 ht hvm hw hB hz1 hk1 hS => ?_)
    rw [e1, e2]
    obtain ⟨rfl, hw⟩ := hw
    have q9 := hk H1 locs1 w.1 w.2 (hpt.after hA hw hB ht hvm hS hm (fun v hv => (List.mem_cons.mp hv).elim (fun e => e ▸ trivial) (hr1 v)))
    rw [show ((some (Value.int r)).toList ++ rest : List Value) = .int r :: rest from rfl, List.map_cons, xmap_ext hrest (fun i hi => (hw i hi).1)] at q9
    exact q9
  | some (.ref b), hr, hk =>
    refine va_callr (a := a) hr hpt.1.2.2.1 (fun q _ h => hF q h) hF (fun w ra t H1 locs1 ht hvm hw hB hz1 hk1 hS => ?_)
    rw [e1, e2]
    obtain ⟨hw, hb⟩ := hw
    obtain ⟨rfl, hB⟩ := hB
    have q9 := hk H1 locs1 w.1 w.2 (hpt.after hA hw hB ht hvm hS hm (fun v hv => (List.mem_cons.mp hv).elim (fun e => e ▸ hb) (hr1 v)))
    rw [show ((some (Value.ref b)).toList ++ rest : List Value) = .ref b :: rest from rfl, List.map_cons, xmap_ext hrest (fun i hi => (hw i hi).1)] at q9
    exact q9
  | some (.long x), hr, hk =>
    intro T hT X
    obtain ⟨_, _, _, _, _, _, _, _, _, _, hq, _⟩ := hr T hT X
    exact hq.elim
  | some (.float x), hr, hk =>
    intro T hT X
    obtain ⟨_, _, _, _, _, _, _, _, _, _, hq, _⟩ := hr T hT X
    exact hq.elim
  | some (.double x), hr, hk =>
    intro T hT X
    obtain ⟨_, _, _, _, _, _, _, _, _, _, hq, _⟩ := hr T hT X
    exact hq.elim
  | some .null, hr, hk =>
    intro T hT X
    obtain ⟨_, _, _, _, _, _, _, _, _, _, hq, _⟩ := hr T hT X
    exact hq.elim
  | some (.retAddr x), hr, hk =>
    intro T hT X
    obtain ⟨_, _, _, _, _, _, _, _, _, _, hq, _⟩ := hr T hT X
    exact hq.elim
theorem xcat {ad : Nat → Nat} (r : List Value) : ((r.map (xcv ad)).map fun v => v.category) = r.map Value.category := by
  rw [List.map_map]
  exact List.map_congr_left fun v _ => xcv_cat v
theorem xinv_ok {N d : Nat} {pc j vk : Nat} {α : Type} {k : List Value → XS → Option α} {r : α} (hC : ∀ u' vs σ rv σ', xcall N d u' vs σ = some (rv, σ') → xMet l D d u' vs σ rv σ') (F : xFix p s m args meth c u) (hA : ∀ q, s.heap.size ≤ q → A q)
    (hd : decode (xM u).2.2.1 pc = .ok ((if vk = 0 then Instr.invokevirtual j else if vk = 1 then Instr.invokestatic j else Instr.invokespecial j), 3)) (h : xinv (xcall N d) (xM u).1 j vk st σ k = some r)
    (hpt : xPt D A s (xM u).2.2.2.1 n0 s0 ad0 ca0 H locs ls ad ca lo st σ)
    (hk : ∀ st' σ' H' locs' ad' ca', k st' σ' = some r → xPt D A s (xM u).2.2.2.1 n0 s0 ad0 ca0 H' locs' ls ad' ca' lo st' σ' → W p l e R s m args below meth c H' locs' (σ'.1 - n0) (σ'.2.1 - s0) Q (F0 m (pc + 3) ls (st'.map (xcv ad'))))
    (hm : ∀ st' σ', k st' σ' = some r → σ'.1 - n0 ≤ R.cells ∧ σ'.2.1 - s0 ≤ R.slots) (hRf : d + 1 ≤ R.frames) (hRl : (d + 1) * 40 ≤ R.locals) :
    W p l e R s m args below meth c H locs (σ.1 - n0) (σ.2.1 - s0) Q (F0 m pc ls (st.map (xcv ad))) := by
  obtain ⟨hx, hb, hml, hown, hts, htn, hini⟩ := F
  have hLL := hpt.2.1.1
  have hn0 := hpt.2.2.2.1
  have hs0 := hpt.2.2.2.2.1
  unfold xinv at h
  split at h
  · rename_i kd u' hCe
    have hPC := xC_ok hCe
    have hu' : u' < 149 := xC_lt hCe
    obtain ⟨m1, m2, m3, m4, m5, m6⟩ := xM_ok u'
    have hroom : (xRoom d σ σ).frames + 1 ≤ R.frames ∧ 8 + ((xM u').2.2.2.1 + 11) + (xRoom d σ σ).locals ≤ R.locals := by
      refine ⟨hRf, ?_⟩
      show 8 + ((xM u').2.2.2.1 + 11) + d * 40 ≤ R.locals
      omega
    split at h
    · rename_i hkd
      obtain ⟨hk0, hv⟩ := hkd
      subst hk0
      subst hv
      obtain ⟨c1, c2, c3⟩ := hPC
      split at h
      · rename_i b rest hdrop
        split at h
        · rename_i hbn
          obtain ⟨hcat, hbn⟩ := hbn
          split at h
          · rename_i c0 fs hf
            split at h
            · rename_i hc0
              split at h
              · rename_i rv1 σ1 hcall
                have hmm := xcall_mono _ _ _ _ _ _ hcall
                have hmk := hm _ _ h
                have hst : st = st.take (xA u') ++ .ref b :: rest := by rw [← hdrop, List.take_append_drop]
                have hlen : (st.take (xA u')).length = xA u' := by
                  rw [List.length_take]
                  have : (st.drop (xA u')).length ≠ 0 := by rw [hdrop]; simp
                  rw [List.length_drop] at this
                  omega
                have hvs : ∀ v ∈ (.ref b :: (st.take (xA u')).reverse : List Value), xok σ.1 v := fun v hv => by
                  refine hpt.2.2.1 v ?_
                  rw [hst]
                  rcases List.mem_cons.mp hv with e | hv
                  · rw [e]; exact List.mem_append_right _ List.mem_cons_self
                  · exact List.mem_append_left _ (List.mem_reverse.mp hv)
                have hrest : ∀ v ∈ rest, xok σ.1 v := fun v hv => hpt.2.2.1 v (by rw [hst]; exact List.mem_append_right _ (List.mem_cons_of_mem _ hv))
                have hw := xws_at (ad := ad) (ca := ca) (f := σ.2.2) hbn
                rw [hf] at hw
                obtain ⟨q9, hq9, -⟩ := hpt.1.1 b _ hw
                have hq9 : vwCl[c0]? = some q9 := hq9
                have hq : q9.1 = (xM u').2.1.cls := by
                  rw [← m2, ← hc0]
                  unfold xR
                  rw [List.getD_eq_getElem?_getD, hq9]
                  rfl
                have hrecv := va_recv hpt.K hpt.1.1 hq9 hw
                rw [hq] at hrecv
                refine xback (rv1 := rv1) (σ1 := σ1) (rest := rest) (a := (((.ref b :: (st.take (xA u')).reverse : List Value)).map (xcv ad)).toArray) hpt hA hmm hrest ?_ (fun H' locs' ad' ca' hp => hk _ _ _ _ _ _ h hp)
                refine va_runV (C := (xM u').2.1.cls) (As := ((st.take (xA u')).reverse).map (xcv ad)) ⟨hx, hb, hml, hown, hts⟩ (hC _ _ _ _ _ hcall ad ca H.size) (cwV (xA u') hts (xgoodT ?_) rfl rfl rfl ⟨rfl, m4.1, m4.2, xA_ok hu'⟩ hroom) ⟨xPre_blind, hrecv, fun U hU hW => hpt.pre htn hvs hU hW⟩ rfl (by rw [List.length_map, List.length_reverse]; exact hlen) hLL ?_ (lv_room (by rw [xcat]; exact hcat)) hd ?_
                · intro w hw
                  rcases List.mem_append.mp hw with hw | hw
                  · rcases List.mem_cons.mp hw with rfl | hw
                    · exact c1
                    · rcases List.mem_cons.mp hw with rfl | hw
                      · exact c2
                      · rcases List.mem_cons.mp hw with rfl | hw
                        · exact c3
                        · rcases List.mem_cons.mp hw with rfl | hw
                          · exact m6
                          · cases hw
                  · exact xW_in u' w hw
                · show st.map (xcv ad) = _
                  conv => lhs; rw [hst]
                  rw [List.map_append, ← List.map_reverse, List.reverse_reverse]
                  rfl
                · omega
              · cases h
            · cases h
          · cases h
        · cases h
      · cases h
    · split at h
      · rename_i hkd
        obtain ⟨hkk, hv⟩ := hkd
        subst hv
        split at h
        · rename_i hlc
          obtain ⟨hlen, hcat⟩ := hlc
          split at h
          · rename_i rv1 σ1 hcall
            have hmm := xcall_mono _ _ _ _ _ _ hcall
            have hmk := hm _ _ h
            have hvs : ∀ v ∈ ((st.take (xA u')).reverse : List Value), xok σ.1 v := fun v hv => hpt.2.2.1 v (List.mem_of_mem_take (List.mem_reverse.mp hv))
            have hrest : ∀ v ∈ st.drop (xA u'), xok σ.1 v := fun v hv => hpt.2.2.1 v (List.mem_of_mem_drop hv)
            have hstk : st.map (xcv ad) = (((st.take (xA u')).reverse).map (xcv ad)).reverse ++ (st.drop (xA u')).map (xcv ad) := by
              rw [← List.map_reverse, List.reverse_reverse, ← List.map_append, List.take_append_drop]
            have hcell : σ.1 - n0 + (σ1.1 - σ.1) ≤ R.cells ∧ σ.2.1 - s0 + (σ1.2.1 - σ.2.1) ≤ R.slots := by omega
            refine xback (rv1 := rv1) (σ1 := σ1) (rest := st.drop (xA u')) (a := (((st.take (xA u')).reverse).map (xcv ad)).toArray) hpt hA hmm hrest ?_ (fun H' locs' ad' ca' hp => hk _ _ _ _ _ _ h hp)
            rcases hkk with rfl | rfl
            · obtain ⟨c1, c2⟩ := hPC
              refine va_runS (As := ((st.take (xA u')).reverse).map (xcv ad)) ⟨hx, hb, hml, hown, hts⟩ (hC _ _ _ _ _ hcall ad ca H.size) (va_cwS (xA u') hts (xgoodT ?_) rfl rfl rfl ⟨m4.1, m4.2, xA_ok hu'⟩ hroom) ⟨xPre_blind, fun U hU hW => hpt.pre htn hvs hU hW⟩ rfl (by rw [List.length_map, List.length_reverse]; exact hlen) hLL hstk (lv_room (by rw [xcat]; exact hcat)) hd hcell
              intro w hw
              rcases List.mem_append.mp hw with hw | hw
              · rcases List.mem_cons.mp hw with rfl | hw
                · exact c1
                · rcases List.mem_cons.mp hw with rfl | hw
                  · exact c2
                  · rcases List.mem_cons.mp hw with rfl | hw
                    · exact m6
                    · cases hw
              · exact xW_in u' w hw
            · obtain ⟨c1, c2⟩ := hPC
              exact va_runSN (host := RX9) (As := ((st.take (xA u')).reverse).map (xcv ad)) ⟨hx, hb, hml, hown, hts⟩ (hC _ _ _ _ _ hcall ad ca H.size) ⟨va_cnB (xA u') hts (xgoodT (xW_in u')) rfl rfl rfl (xN_of (xNl c1) (htn _ (xNl c1))) (hts _ m6) ⟨m4.1, m4.2, xA_ok hu'⟩ hroom, hts _ c2, trivial⟩ ⟨xPre_blind, fun U hU hW => hpt.pre htn hvs hU hW⟩ rfl (by rw [List.length_map, List.length_reverse]; exact hlen) hLL hstk (lv_room (by rw [xcat]; exact hcat)) hd hcell
          · cases h
        · cases h
      · split at h
        · rename_i hkd
          obtain ⟨rfl, rfl⟩ := hkd
          obtain ⟨c1, c2, c3, c4⟩ := hPC
          split at h
          · rename_i y x r'
            split at h
            · rename_i hcat
              have hmk := hm _ _ h
              refine va_mmax hx hb (hml.trans hLL.symm) hown (hts _ c1) (hts _ c2) (hts _ c3) (hts _ c4) (by omega) ?_ (by omega) (by omega) hd (hk _ _ _ _ _ _ h (hpt.pop.pop.push trivial))
              have : ((r'.map (xcv ad)).map fun v => v.category).sum ≤ 8 := by rw [xcat]; exact hcat
              omega
            · cases h
          · cases h
        · split at h
          · rename_i hkd
            obtain ⟨rfl, rfl⟩ := hkd
            obtain ⟨c1, c2, c3, c4⟩ := hPC
            split at h
            · rename_i y x r'
              split at h
              · rename_i hcat
                have hmk := hm _ _ h
                refine va_mmin hx hb (hml.trans hLL.symm) hown (hts _ c1) (hts _ c2) (hts _ c3) (hts _ c4) (by omega) ?_ (by omega) (by omega) hd (hk _ _ _ _ _ _ h (hpt.pop.pop.push trivial))
                have : ((r'.map (xcv ad)).map fun v => v.category).sum ≤ 8 := by rw [xcat]; exact hcat
                omega
              · cases h
            · cases h
          · split at h
            · rename_i hkd
              obtain ⟨rfl, rfl⟩ := hkd
              obtain ⟨c1, c2, c3⟩ := hPC
              split at h
              · rename_i a r'
                split at h
                · rename_i hcat
                  have hcat' : ((r'.map (xcv ad)).map fun v => v.category).sum ≤ 8 := by rw [xcat]; exact hcat
                  refine W.objInit hx hb hown (hts _ c1) (hts _ c2) (hts _ c3) rfl (hLL.trans hml.symm) rfl hd (by omega) ?_ (hk _ _ _ _ _ _ h hpt.pop)
                  have hdd := hcat'
                  have h9 : 2 * (F0 m pc ls (List.map (xcv ad) (Value.ref a :: r'))).monitorRoom + ((r'.map (xcv ad)).map fun v => v.category).sum ≤ 8 := lv_room hcat'
                  omega
                · cases h
              · cases h
            · split at h
              · rename_i hkd
                obtain ⟨hkk, rfl, hini', hret⟩ := hkd
                have hname : (xM u').2.1.name = "<init>" := of_decide_eq_true hini'
                split at h
                · rename_i b rest hdrop
                  split at h
                  · rename_i hcat
                    split at h
                    · rename_i rv1 σ1 hcall
                      have hmm := xcall_mono _ _ _ _ _ _ hcall
                      have hmk := hm _ _ h
                      have hst : st = st.take (xA u') ++ .ref b :: rest := by rw [← hdrop, List.take_append_drop]
                      have hlen : (st.take (xA u')).length = xA u' := by
                        rw [List.length_take]
                        have : (st.drop (xA u')).length ≠ 0 := by rw [hdrop]; simp
                        rw [List.length_drop] at this
                        omega
                      have hvs : ∀ v ∈ (.ref b :: (st.take (xA u')).reverse : List Value), xok σ.1 v := fun v hv => by
                        refine hpt.2.2.1 v ?_
                        rw [hst]
                        rcases List.mem_cons.mp hv with e | hv
                        · rw [e]; exact List.mem_append_right _ List.mem_cons_self
                        · exact List.mem_append_left _ (List.mem_reverse.mp hv)
                      have hrest : ∀ v ∈ rest, xok σ.1 v := fun v hv => hpt.2.2.1 v (by rw [hst]; exact List.mem_append_right _ (List.mem_cons_of_mem _ hv))
                      have hstk : st.map (xcv ad) = (((st.take (xA u')).reverse).map (xcv ad)).reverse ++ .ref (ad b) :: rest.map (xcv ad) := by
                        conv => lhs; rw [hst]
                        rw [List.map_append, ← List.map_reverse, List.reverse_reverse]
                        rfl
                      have hcell : σ.1 - n0 + (σ1.1 - σ.1) ≤ R.cells ∧ σ.2.1 - s0 + (σ1.2.1 - σ.2.1) ≤ R.slots := by omega
                      refine xback (rv1 := rv1) (σ1 := σ1) (rest := rest) (a := (((.ref b :: (st.take (xA u')).reverse : List Value)).map (xcv ad)).toArray) hpt hA hmm hrest ?_ (fun H' locs' ad' ca' hp => hk _ _ _ _ _ _ h hp)
                      rcases hkk with rfl | rfl
                      · obtain ⟨c1, c2⟩ := hPC
                        exact va_runI (As := ((st.take (xA u')).reverse).map (xcv ad)) ⟨hx, hb, hml, hown, hts⟩ (hC _ _ _ _ _ hcall ad ca H.size) (cwI (xA u') hts (xgoodT (xW_in u')) (by unfold xW; rw [hret]) rfl rfl (hts _ m6) (hts _ c1) (hts _ c2) hname ⟨m4.1, m4.2, xA_ok hu'⟩ hroom) ⟨xPre_blind, fun U hU hW => hpt.pre htn hvs hU hW⟩ rfl (by rw [List.length_map, List.length_reverse]; exact hlen) hLL hstk (lv_room (by rw [xcat]; exact hcat)) hd hcell
                      · obtain ⟨c1, c2⟩ := hPC
                        exact va_runIN (host := RX9) (As := ((st.take (xA u')).reverse).map (xcv ad)) ⟨hx, hb, hml, hown, hts⟩ (hC _ _ _ _ _ hcall ad ca H.size) ⟨va_cnB (xA u') hts (xgoodT (xW_in u')) (by unfold xW; rw [hret]) rfl rfl (xN_of (xNl c1) (htn _ (xNl c1))) (hts _ m6) ⟨m4.1, m4.2, xA_ok hu'⟩ hroom, hname, hts _ c2⟩ ⟨xPre_blind, fun U hU hW => hpt.pre htn hvs hU hW⟩ rfl (by rw [List.length_map, List.length_reverse]; exact hlen) hLL hstk (lv_room (by rw [xcat]; exact hcat)) hd hcell
                    · cases h
                  · cases h
                · cases h
              · split at h
                · rename_i hkd
                  obtain ⟨rfl, rfl⟩ := hkd
                  obtain ⟨c1, c2, c3, c4⟩ := hPC
                  split at h
                  · rename_i n dp a1 sp a0 r'
                    split at h
                    · rename_i hcc
                      obtain ⟨hcat, ha0, ha1⟩ := hcc
                      split at h
                      · rename_i n0 g0 n1 g1 hf0 hf1
                        split at h
                        · cases h
                        · rename_i hcond
                          have hw0 := xws_at (ad := ad) (ca := ca) (f := σ.2.2) ha0
                          rw [hf0] at hw0
                          have hw1 := xws_at (ad := ad) (ca := ca) (f := σ.2.2) ha1
                          rw [hf1] at hw1
                          have hK2 : va_K D vwCl [(ca a0, .int), (ca a1, .int)] s := by
                            refine ⟨hpt.1.2.2.2.1.1, fun k q hq => ?_⟩
                            match k, hq with
                            | 0, hq => cases hq; exact hpt.1.2.2.2.1.2 a0 ha0 _ _ _ hf0
                            | 1, hq => cases hq; exact hpt.1.2.2.2.1.2 a1 ha1 _ _ _ hf1
                            | k + 2, hq => simp at hq
                          have hcat' : ((r'.map (xcv ad)).map fun v => v.category).sum ≤ 8 := by rw [xcat]; exact hcat
                          refine va_copyi (ty := .int) hx hb (hml.trans hLL.symm) hown (hts _ c1) (hts _ c2) (hts _ c3) (hts _ c4) hK2 hpt.1.1 hpt.1.2.1 hpt.1.2.2.1 a0 a1 0 1 hw0 hw1 rfl rfl rfl (fun q => hcond (Or.inr (Or.inr (Or.inl q)))) (fun q => hcond (Or.inr (Or.inl q))) (fun q => hcond (Or.inl q)) (Nat.not_lt.mp fun q => hcond (Or.inr (Or.inr (Or.inr (Or.inl q))))) (Nat.not_lt.mp fun q => hcond (Or.inr (Or.inr (Or.inr (Or.inr q))))) (fun _ _ => rfl) (by omega) ?_ hd (fun H1 locs1 q1 q2 q3 => ?_)
                          · have : nativeFrameWords "java/lang/System" "arraycopy" 5 = 7 := by decide
                            omega
                          · have q9 := hk _ _ H1 locs1 ad ca h
                            exact q9 (hpt.write (x := .inr (0, n1, .inl (va_cpy g0 g1 sp.toNatClampNeg dp.toNatClampNeg n.toNatClampNeg))) ha1 (fun w hw => hpt.2.2.1 w (by simp [hw])) q1 q2 q3 (fun t n' b q => by cases q; exact ⟨_, _, hf1⟩) (fun _ _ q => nomatch q) (fun t k g' q => by cases q))
                      · cases h
                    · cases h
                  · cases h
                · cases h
  · cases h
theorem xB_end (hpt : xPt D A s nL n0 s0 ad0 ca0 H locs ls ad ca lo st σ) {t : State} (ht : t.heap = H) (hW : s.WarmedH t.vm) : xB D A (ad, ca) σ t := ⟨by rw [ht]; exact hpt.1.1, hpt.1.2.1, xKn_moved hW.alike hpt.1.2.2.2.1, hpt.1.2.2.2.2⟩
theorem xgo_ok {N d : Nat} {rv : Option Value} {σ0 σf : XS} (hC : ∀ u' vs σ rv σ', xcall N d u' vs σ = some (rv, σ') → xMet l D d u' vs σ rv σ') (F : xFix p s m args meth c u) (hr : meth.sig.returnType = (xM u).2.2.2.2) (hlocks : meth.locks = false) (hA : ∀ q, s.heap.size ≤ q → A q) :
    ∀ (n pc : Nat) (lo : XL) (st : List Value) (σ : XS) (H : Heap) (locs : List Loc) (ls : Array Slot) (ad : Nat → Nat) (ca : Nat → ClassId), xgo (xcall N d) u n pc lo st σ = some (rv, σf) → xPt D A s (xM u).2.2.2.1 σ0.1 σ0.2.1 ad0 ca0 H locs ls ad ca lo st σ →
      W p l e (xRoom (d + 1) σ0 σf) s m args below meth c H locs (σ.1 - σ0.1) (σ.2.1 - σ0.2.1) (MQ below (xPost D ad0 ca0 σ0.1 rv σf A) args s (σf.1 - σ0.1) (σf.2.1 - σ0.2.1) A) (F0 m pc ls (st.map (xcv ad))) := by
  intro n
  induction n with
  | zero => intro pc lo st σ H locs ls ad ca h; cases h
  | succ n ih =>
    intro pc lo st σ H locs ls ad ca h hpt
    have F' := F
    obtain ⟨hx, hb, hml, hown, hts, htn, hini⟩ := F
    unfold xgo at h
    split at h
    · cases h
    · rename_i i len hi
      obtain ⟨hd, hl⟩ := xIn_ok hi
      have hcm : ∀ u vs σ rv σ', xcall N d u vs σ = some (rv, σ') → σ.1 ≤ σ'.1 ∧ σ.2.1 ≤ σ'.2.1 := fun u vs σ rv σ' h => xcall_mono d u vs σ rv σ' h
      split at h
      · cases of_decide_eq_true hl
        split at h
        · split at h
          · rename_i ty hty
            split at h
            · rename_i hf
              cases h
              exact W.zret hx hb (hr.trans hty) (xfit_ok ad hf).1 (fun t ht hW => ⟨⟨_, (ad, ca), rfl, ⟨rfl, hpt.2.2.2.2.2⟩, xB_end hpt ht hW⟩, hpt.1.2.2.1.F ht⟩) hpt.1.2.2.1.2.2 hd
            · cases h
          · cases h
        · cases h
      · cases of_decide_eq_true hl
        split at h
        · split at h
          · rename_i ty hty
            split at h
            · rename_i hf
              cases h
              refine W.aret hx hb (hr.trans hty) ?_ (Or.inr ⟨_, rfl⟩) (fun t ht hW => ⟨⟨(ad, ca), _, rfl, ⟨hpt.2.2.2.2.2, hpt.top⟩, rfl, xB_end hpt ht hW⟩, hpt.1.2.2.1.F ht⟩) hpt.1.2.2.1.2.2 hd
              cases ty with
              | object n => exact Or.inl ⟨n, rfl⟩
              | array t => exact Or.inr ⟨t, rfl⟩
              | _ => cases hf
            · cases h
          · cases h
        · cases h
      · cases of_decide_eq_true hl
        split at h
        · split at h
          · rename_i hty
            cases h
            exact W.vret hx hb (hr.trans hty) (fun t ht hW => ⟨⟨(ad, ca), rfl, hpt.2.2.2.2.2, xB_end hpt ht hW⟩, hpt.1.2.2.1.F ht⟩) hpt.1.2.2.1.2.2 hd
          · cases h
        · cases h
      · rename_i j
        cases of_decide_eq_true hl
        exact xinv_ok (vk := 0) hC F' hA hd h hpt (fun st' σ' H' locs' ad' ca' h' hp => ih _ _ _ _ _ _ _ _ _ h' hp) (fun st' σ' h' => ⟨Nat.sub_le_sub_right (xgo_mono hcm _ _ _ _ _ h').1 _, Nat.sub_le_sub_right (xgo_mono hcm _ _ _ _ _ h').2 _⟩) (Nat.le_refl _) (Nat.le_refl _)
      · rename_i j
        cases of_decide_eq_true hl
        exact xinv_ok (vk := 1) hC F' hA hd h hpt (fun st' σ' H' locs' ad' ca' h' hp => ih _ _ _ _ _ _ _ _ _ h' hp) (fun st' σ' h' => ⟨Nat.sub_le_sub_right (xgo_mono hcm _ _ _ _ _ h').1 _, Nat.sub_le_sub_right (xgo_mono hcm _ _ _ _ _ h').2 _⟩) (Nat.le_refl _) (Nat.le_refl _)
      · rename_i j
        cases of_decide_eq_true hl
        exact xinv_ok (vk := 2) hC F' hA hd h hpt (fun st' σ' H' locs' ad' ca' h' hp => ih _ _ _ _ _ _ _ _ _ h' hp) (fun st' σ' h' => ⟨Nat.sub_le_sub_right (xgo_mono hcm _ _ _ _ _ h').1 _, Nat.sub_le_sub_right (xgo_mono hcm _ _ _ _ _ h').2 _⟩) (Nat.le_refl _) (Nat.le_refl _)
      · exact xst_ok F' hA hd hl h hpt (fun pc' lo' st' σ' H' locs' ls' ad' ca' h' hp => ih _ _ _ _ _ _ _ _ _ h' hp) (fun pc' lo' st' σ' h' => by
          have := xgo_mono hcm _ _ _ _ _ h'
          exact ⟨Nat.sub_le_sub_right this.1 _, Nat.sub_le_sub_right this.2 _⟩)
end XGO
