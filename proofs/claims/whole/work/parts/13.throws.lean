/-! calls that throw -/
section XTI
variable {p : Program} {l : Launch} {e : Env} {R : Room} {s : State} {m : MethodId} {args : Array Value} {below : List Frame} {meth : Method} {c : Code} {Q : State → Prop} {D : va_G} {A : Nat → Prop} {u nL n0 s0 : Nat} {ad0 : Nat → Nat} {ca0 : Nat → ClassId} {H : Heap} {locs : List Loc} {ls : Array Slot} {ad : Nat → Nat} {ca : Nat → ClassId} {lo : XL} {st : List Value} {σ : XS}
theorem xbackX {pc E mc ms : Nat} {st0 rest : List Value} {σ1 : XS} (hpt : xPt D A s nL n0 s0 ad0 ca0 H locs ls ad ca lo st σ) (hA : ∀ q, s.heap.size ≤ q → A q) (hm : σ.1 ≤ σ1.1 ∧ σ.2.1 ≤ σ1.2.1) (hlocks : meth.locks = false) (hout : ∀ x ∈ c.exceptionTable.toList, False)
    (hr : vx_Run p l e R s m args below meth c H locs (σ.1 - n0) (σ.2.1 - s0) (σ1.1 - σ.1 + 1) (σ1.2.1 - σ.2.1 + 6) (F0 m pc ls st0) rest (fun _ _ _ => False) (xXC D ad ca σ.1 E σ1 (va_A (xws ad ca σ.2.2 σ.1) H.size)) (va_A (xws ad ca σ.2.2 σ.1) H.size))
    (hc : σ1.1 - n0 + 1 ≤ mc) (hs : σ1.2.1 - s0 + 6 ≤ ms) :
    W p l e R s m args below meth c H locs (σ.1 - n0) (σ.2.1 - s0) (vx_MQ below (fun _ _ _ _ => False) (xXC D ad0 ca0 n0 E σ1 A) args s mc ms A) (F0 m pc ls st0) := by
  have hn0 := hpt.2.2.2.1
  have hs0 := hpt.2.2.2.2.1
  have hF := hpt.free hA
  intro T hT X
  rcases hr T hT X with ⟨v, st₀, t, T', L, h1, h2, h3, h4, h5, h6, h7⟩ | ⟨q, st₀, t, T', L, E', ce, h1, hX', hL, hTh, hTv, hxc, hce, hcv, hcl, hst⟩
  · exact h6.elim
  · obtain ⟨w, hag, ⟨rfl, ⟨b1, b2, b3, b4⟩⟩, hFr⟩ := hxc
    have hal : s.vm.Alike t.vm := by rw [← hTv]; exact hX'.warmed.alike
    have hsz : s.heap.size ≤ T'.heap.size := by
      rw [hTh]
      exact Nat.le_trans hpt.1.2.2.1.1 (by rw [← h1]; exact hFr.1)
    have hkeep : ∀ q : Nat, q < s.heap.size → ¬ A q → T'.heap[q]? = s.heap[q]? := fun q hq hnA => by
      rw [hTh, hFr.2 q (by rw [h1]; exact Nat.lt_of_lt_of_le hq hpt.1.2.2.1.1) (fun q1 => hnA (hF q q1)), h1]
      exact hpt.1.2.2.1.2.1 q hq hnA
    have hW := vx_out (p := p) (l := l) (e := e) (R := R) (s := s) (m := m) (args := args) (below := below) (meth := meth) (c := c) (H := T'.heap) (locs := locs ++ L) (cells := σ.1 - n0 + (σ1.1 - σ.1 + 1)) (slots := σ.2.1 - s0 + (σ1.2.1 - σ.2.1 + 6)) (free := A) (ls := ls) (rest := rest) (Qc := fun _ _ _ _ => False) (XC := xXC D ad0 ca0 n0 E σ1 A) (pc := pc) (E := xEn E) (ce := ce) (q := q) (mc := mc) (ms := ms) (fun x hx => (hout x hx).elim) hlocks (by rw [hTh]; exact hce) hcv hcl
      (fun t' ht' hal' => ⟨w, fun i hi => by
          have hi' : i < σ.1 := Nat.lt_of_lt_of_le hi hn0
          rw [(hag i hi').1, (hag i hi').2]
          exact hpt.2.2.2.2.2 i hi, ⟨rfl, by rw [ht', hTh]; exact b1, b2.weaken (fun k q _ h => hF q.1 h), xKn_moved (hal.symm.trans hal') b3, b4⟩, by rw [ht']; exact hsz, fun q hq hnA => by rw [ht']; exact hkeep q hq hnA⟩)
      (fun z hz => (List.mem_append.mp hz).elim (hpt.1.2.2.1.2.2 z) (fun h => hF _ (hL z h))) (by omega) (by omega)
    obtain ⟨t2, hs2, hq2⟩ := hW T' rfl hX'
    exact ⟨t2, hst.trans hs2, hq2⟩
theorem xinvT_ok {N d pc j vk mc ms : Nat} {r : Nat × XS} (hC : ∀ u' vs σ E σ', xcallX N d u' vs σ = some (E, σ') → xMetX l D d u' vs σ E σ') (F : xFix p s m args meth c u) (hlocks : meth.locks = false) (hout : ∀ x ∈ c.exceptionTable.toList, False) (hA : ∀ q, s.heap.size ≤ q → A q) (hz : xZ A s)
    (hd : decode (xM u).2.2.1 pc = .ok ((if vk = 0 then Instr.invokevirtual j else if vk = 1 then Instr.invokestatic j else Instr.invokespecial j), 3)) (h : xinvT (xcallX N d) (xM u).1 j vk st σ = some r)
    (hpt : xPt D A s (xM u).2.2.2.1 n0 s0 ad0 ca0 H locs ls ad ca lo st σ) (hRf : d + 7 ≤ R.frames) (hRl : (d + 1) * 40 + 100 ≤ R.locals) (hRc : r.2.1 - n0 + 1 ≤ R.cells) (hRs : r.2.2.1 - s0 + 6 ≤ R.slots) (hc : r.2.1 - n0 + 1 ≤ mc) (hs : r.2.2.1 - s0 + 6 ≤ ms) :
    W p l e R s m args below meth c H locs (σ.1 - n0) (σ.2.1 - s0) (vx_MQ below (fun _ _ _ _ => False) (xXC D ad0 ca0 n0 r.1 r.2 A) args s mc ms A) (F0 m pc ls (st.map (xcv ad))) := by
  obtain ⟨hx, hb, hml, hown, hts, htn, hini⟩ := F
  have hLL := hpt.2.1.1
  have hn0 := hpt.2.2.2.1
  have hs0 := hpt.2.2.2.2.1
  unfold xinvT at h
  split at h
  · rename_i kd u' hCe
    have hPC := xC_ok hCe
    have hu' : u' < 149 := xC_lt hCe
    obtain ⟨m1, m2, m3, m4, m5, m6⟩ := xM_ok u'
    have hroom : (xRoomX d σ σ).frames + 1 ≤ R.frames ∧ 8 + ((xM u').2.2.2.1 + 11) + (xRoomX d σ σ).locals ≤ R.locals := by
      refine ⟨hRf, ?_⟩
      show 8 + ((xM u').2.2.2.1 + 11) + (d * 40 + 100) ≤ R.locals
      omega
    split at h
    · rename_i hkd
      obtain ⟨hk0, hv⟩ := hkd
      subst hk0
      subst hv
      obtain ⟨c1, c2, c3⟩ := hPC
      split at h
      · rename_i b rest hdrop
        split at h
        · rename_i hbn
          obtain ⟨hcat, hbn⟩ := hbn
          split at h
          · rename_i c0 fs hf
            split at h
            · rename_i hc0
              have hcall : xcallX N d u' (.ref b :: (st.take (xA u')).reverse) σ = some (r.1, r.2) := h
              have hmm := xcallX_mono _ _ _ _ _ _ hcall
              have hst : st = st.take (xA u') ++ .ref b :: rest := by rw [← hdrop, List.take_append_drop]
              have hlen : (st.take (xA u')).length = xA u' := by
                rw [List.length_take]
                have : (st.drop (xA u')).length ≠ 0 := by rw [hdrop]; simp
                rw [List.length_drop] at this
                omega
              have hvs : ∀ v ∈ (.ref b :: (st.take (xA u')).reverse : List Value), xok σ.1 v := fun v hv => by
                refine hpt.2.2.1 v ?_
                rw [hst]
                rcases List.mem_cons.mp hv with e | hv
                · rw [e]; exact List.mem_append_right _ List.mem_cons_self
                · exact List.mem_append_left _ (List.mem_reverse.mp hv)
              have hw := xws_at (ad := ad) (ca := ca) (f := σ.2.2) hbn
              rw [hf] at hw
              obtain ⟨q9, hq9, -⟩ := hpt.1.1 b _ hw
              have hq9 : vwCl[c0]? = some q9 := hq9
              have hq : q9.1 = (xM u').2.1.cls := by
                rw [← m2, ← hc0]
                unfold xR
                rw [List.getD_eq_getElem?_getD, hq9]
                rfl
              have hrecv := va_recv hpt.K hpt.1.1 hq9 hw
              rw [hq] at hrecv
              refine xbackX (E := r.1) (σ1 := r.2) (rest := rest.map (xcv ad)) hpt hA hmm hlocks hout ?_ hc hs
              refine vx_runV (C := (xM u').2.1.cls) (As := ((st.take (xA u')).reverse).map (xcv ad)) ⟨hx, hb, hml, hown, hts⟩ (hC _ _ _ _ _ hcall ad ca H.size) (cwV (xA u') hts (xgoodT ?_) rfl rfl rfl ⟨rfl, m4.1, m4.2, xA_ok hu'⟩ hroom) ⟨xPreX_blind, hrecv, fun U hU hW => hpt.preX hA htn hvs hz hU hW⟩ rfl (by rw [List.length_map, List.length_reverse]; exact hlen) hLL ?_ (lv_room (by rw [xcat]; exact hcat)) hd ?_
              · intro w hw
                rcases List.mem_append.mp hw with hw | hw
                · rcases List.mem_cons.mp hw with rfl | hw
                  · exact c1
                  · rcases List.mem_cons.mp hw with rfl | hw
                    · exact c2
                    · rcases List.mem_cons.mp hw with rfl | hw
                      · exact c3
                      · rcases List.mem_cons.mp hw with rfl | hw
                        · exact m6
                        · cases hw
                · exact xW_in u' w hw
              · show st.map (xcv ad) = _
                conv => lhs; rw [hst]
                rw [List.map_append, ← List.map_reverse, List.reverse_reverse]
                rfl
              · omega
            · cases h
          · cases h
        · cases h
      · cases h
    · split at h
      · rename_i hkd
        obtain ⟨rfl, rfl⟩ := hkd
        split at h
        · rename_i hlc
          obtain ⟨hlen, hcat⟩ := hlc
          have hcall : xcallX N d u' (st.take (xA u')).reverse σ = some (r.1, r.2) := h
          have hmm := xcallX_mono _ _ _ _ _ _ hcall
          have hvs : ∀ v ∈ ((st.take (xA u')).reverse : List Value), xok σ.1 v := fun v hv => hpt.2.2.1 v (List.mem_of_mem_take (List.mem_reverse.mp hv))
          have hstk : st.map (xcv ad) = (((st.take (xA u')).reverse).map (xcv ad)).reverse ++ (st.drop (xA u')).map (xcv ad) := by
            rw [← List.map_reverse, List.reverse_reverse, ← List.map_append, List.take_append_drop]
          refine xbackX (E := r.1) (σ1 := r.2) (rest := (st.drop (xA u')).map (xcv ad)) hpt hA hmm hlocks hout ?_ hc hs
          obtain ⟨c1, c2⟩ := hPC
          refine vx_runS (As := ((st.take (xA u')).reverse).map (xcv ad)) ⟨hx, hb, hml, hown, hts⟩ (hC _ _ _ _ _ hcall ad ca H.size) (va_cwS (xA u') hts (xgoodT ?_) rfl rfl rfl ⟨m4.1, m4.2, xA_ok hu'⟩ hroom) ⟨xPreX_blind, fun U hU hW => hpt.preX hA htn hvs hz hU hW⟩ rfl (by rw [List.length_map, List.length_reverse]; exact hlen) hLL hstk (lv_room (by rw [xcat]; exact hcat)) hd ?_
          · intro w hw
            rcases List.mem_append.mp hw with hw | hw
            · rcases List.mem_cons.mp hw with rfl | hw
              · exact c1
              · rcases List.mem_cons.mp hw with rfl | hw
                · exact c2
                · rcases List.mem_cons.mp hw with rfl | hw
                  · exact m6
                  · cases hw
            · exact xW_in u' w hw
          · omega
        · cases h
      · cases h
  · cases h
theorem xgoX_ok {N d E : Nat} {σ0 σf : XS} (hl : l.stackTraces = false) (hC : ∀ u' vs σ E σ', xcallX N d u' vs σ = some (E, σ') → xMetX l D d u' vs σ E σ') (F : xFix p s m args meth c u) (hlocks : meth.locks = false) (hout : ∀ x ∈ c.exceptionTable.toList, False) (hA : ∀ q, s.heap.size ≤ q → A q) (hz : xZ A s) :
    ∀ (n pc : Nat) (lo : XL) (st : List Value) (σ : XS) (H : Heap) (locs : List Loc) (ls : Array Slot) (ad : Nat → Nat) (ca : Nat → ClassId), xgoX (xcall N d) (xcallX N d) u n pc lo st σ = some (E, σf) → xPt D A s (xM u).2.2.2.1 σ0.1 σ0.2.1 ad0 ca0 H locs ls ad ca lo st σ →
      W p l e (xRoomX (d + 1) σ0 σf) s m args below meth c H locs (σ.1 - σ0.1) (σ.2.1 - σ0.2.1) (vx_MQ below (fun _ _ _ _ => False) (xXC D ad0 ca0 σ0.1 E σf A) args s (σf.1 - σ0.1 + 1) (σf.2.1 - σ0.2.1 + 6) A) (F0 m pc ls (st.map (xcv ad))) := by
  intro n
  have hcm : ∀ u vs σ rv σ', xcall N d u vs σ = some (rv, σ') → σ.1 ≤ σ'.1 ∧ σ.2.1 ≤ σ'.2.1 := fun u vs σ rv σ' h => xcall_mono d u vs σ rv σ' h
  have hcx : ∀ u vs σ rv σ', xcallX N d u vs σ = some (rv, σ') → σ.1 ≤ σ'.1 ∧ σ.2.1 ≤ σ'.2.1 := fun u vs σ rv σ' h => xcallX_mono d u vs σ rv σ' h
  have hR1 : d + 1 ≤ (xRoomX (d + 1) σ0 σf).frames := by show d + 1 ≤ d + 1 + 6; omega
  have hR2 : (d + 1) * 40 ≤ (xRoomX (d + 1) σ0 σf).locals := by show (d + 1) * 40 ≤ (d + 1) * 40 + 100; omega
  induction n with
  | zero => intro pc lo st σ H locs ls ad ca h; cases h
  | succ n ih =>
    intro pc lo st σ H locs ls ad ca h hpt
    have hb : ∀ σ' : XS, σ'.1 ≤ σf.1 ∧ σ'.2.1 ≤ σf.2.1 → σ'.1 - σ0.1 ≤ (xRoomX (d + 1) σ0 σf).cells ∧ σ'.2.1 - σ0.2.1 ≤ (xRoomX (d + 1) σ0 σf).slots := fun σ' hh => by
      show σ'.1 - σ0.1 ≤ σf.1 - σ0.1 + 1 ∧ σ'.2.1 - σ0.2.1 ≤ σf.2.1 - σ0.2.1 + 6
      omega
    unfold xgoX at h
    split at h
    · rename_i E' t9 hT
      split at h
      · rename_i hcat
        cases h
        exact xthrow hl F hlocks hout hA hz hT hcat hpt (by show 6 ≤ d + 1 + 6; omega) (by show 100 ≤ (d + 1) * 40 + 100; omega) (Nat.le_refl _) (Nat.le_refl _) (Nat.le_refl _) (Nat.le_refl _)
      · cases h
    · split at h
      · cases h
      · rename_i i len hi
        obtain ⟨hd, hll⟩ := xIn_ok hi
        split at h
        · rename_i j
          cases of_decide_eq_true hll
          split at h
          · rename_i r hr
            cases h
            exact xinvT_ok (vk := 0) hC F hlocks hout hA hz hd hr hpt (by show d + 7 ≤ d + 1 + 6; omega) (by show (d + 1) * 40 + 100 ≤ (d + 1) * 40 + 100; omega) (Nat.le_refl _) (Nat.le_refl _) (Nat.le_refl _) (Nat.le_refl _)
          · exact xinv_ok (vk := 0) (xcall_ok l D N d) F hA hd h hpt (fun st' σ' H' locs' ad' ca' h' hp => ih _ _ _ _ _ _ _ _ _ h' hp) (fun st' σ' h' => hb _ (xgoX_mono hcm hcx _ _ _ _ _ h')) hR1 hR2
        · rename_i j
          cases of_decide_eq_true hll
          split at h
          · rename_i r hr
            cases h
            exact xinvT_ok (vk := 1) hC F hlocks hout hA hz hd hr hpt (by show d + 7 ≤ d + 1 + 6; omega) (by show (d + 1) * 40 + 100 ≤ (d + 1) * 40 + 100; omega) (Nat.le_refl _) (Nat.le_refl _) (Nat.le_refl _) (Nat.le_refl _)
          · exact xinv_ok (vk := 1) (xcall_ok l D N d) F hA hd h hpt (fun st' σ' H' locs' ad' ca' h' hp => ih _ _ _ _ _ _ _ _ _ h' hp) (fun st' σ' h' => hb _ (xgoX_mono hcm hcx _ _ _ _ _ h')) hR1 hR2
        · exact xst_ok F hA hd hll h hpt (fun pc' lo' st' σ' H' locs' ls' ad' ca' h' hp => ih _ _ _ _ _ _ _ _ _ h' hp) (fun pc' lo' st' σ' h' => hb _ (xgoX_mono hcm hcx _ _ _ _ _ h'))
end XTI
set_option maxHeartbeats 1000000 in
theorem xcallX_ok (l : Launch) (hls : l.stackTraces = false) (D : va_G) (N : Nat) : ∀ (d u : Nat) (vs : List Value) (σ : XS) (E : Nat) (σ' : XS), xcallX N d u vs σ = some (E, σ') → xMetX l D d u vs σ E σ' := by
  intro d
  induction d with
  | zero => intro u vs σ rv σ' h; cases h
  | succ d ih =>
    intro u vs σ rv σ' h
    unfold xcallX at h
    split at h
    · rename_i hle
      intro ad ca sz
      obtain ⟨m1, m2, m3, m4, m5, m6⟩ := xM_ok u
      refine vx_ofW (cc := (xM u).2.2.1) (maxL := (xM u).2.2.2.1) (ret := (xM u).2.2.2.2) m3 rfl ?_
      intro p e s m args below meth c s₁ B hml hout hv
      obtain ⟨rfl, hsz, ⟨hP, hD0, hK, hcl⟩, hN, hok, hz⟩ := hv
      subst hsz
      have hts0 := atoms_spec (ws := xW u) B.pre
      have hown : s.vm.findClass (xM u).2.1.cls = some m.cls := findClass_of_methodNamed B.named
      have F : xFix p s m (vs.map (xcv ad)).toArray meth c u := ⟨B.exec, B.bytes, hml, by rw [m2]; exact hown, fun w hw => hts0 w (List.mem_cons_of_mem _ hw), fun w hw => xN_use hw (hN w hw), fun hi => ((name_of_methodNamed B.named B.method).1).trans (of_decide_eq_true hi)⟩
      have hcat : ∀ v ∈ vs.map (xcv ad), v.category = 1 := fun v hv => by
        obtain ⟨w, hw, rfl⟩ := List.mem_map.mp hv
        rw [xcv_cat]
        exact xok_cat (hok w hw)
      have hl := lv_entry (vs.map (xcv ad)) (n := (xM u).2.2.2.1) (by rw [xsl_len hcat, List.length_map]; exact hle)
      rw [lg_entry_eq]
      generalize (lg_sl (vs.map (xcv ad)) ++ List.replicate ((xM u).2.2.2.1 - (lg_sl (vs.map (xcv ad))).length) Slot.unset).toArray = ls at hl ⊢
      have hpt : xPt D (va_A (xws ad ca σ.2.2 σ.1) s.heap.size) s (xM u).2.2.2.1 σ.1 σ.2.1 ad ca s.heap [] ls ad ca (vs.map some ++ List.replicate ((xM u).2.2.2.1 - vs.length) none) [] σ := by
        refine ⟨⟨hP, hD0.self, va_S.rf, hK, hcl⟩, ⟨hl.1, hl.2.1, by simp; omega, fun i v hi => ?_⟩, fun v hv => by simp at hv, Nat.le_refl _, Nat.le_refl _, fun i _ => ⟨rfl, rfl⟩⟩
        have hi' : vs[i]? = some v := by
          by_cases hlt : i < vs.length
          · rw [List.getElem?_append_left (by rw [List.length_map]; exact hlt), List.getElem?_map] at hi
            cases hv : vs[i]? with
            | none => rw [hv] at hi; cases hi
            | some w => rw [hv] at hi; cases hi; rfl
          · rw [List.getElem?_append_right (by rw [List.length_map]; omega)] at hi
            rw [List.getElem?_replicate] at hi
            split at hi
            · cases hi
            · cases hi
        refine ⟨?_, hok v (List.mem_of_getElem? hi')⟩
        have := xargs hcat 0 i (xcv ad v) (by rw [List.getElem?_map, hi']; rfl)
        rw [Nat.zero_add] at this
        exact hl.2.2 _ this
      have hW := xgoX_ok (l := l) (e := e) (below := below) (D := D) (N := N) (σ0 := σ) hls ih F B.notSynchronized hout (fun q h => Or.inr h) hz N 0 _ [] σ s.heap [] ls ad ca h hpt
      rw [Nat.sub_self, Nat.sub_self] at hW
      exact hW
    · cases h
