/-! SOUND: what the abstract machine answers, the machine answers -/
theorem xargs {vs : List Value} (h : ∀ v ∈ vs, v.category = 1) : ∀ (k i : Nat) (v : Value), vs[i]? = some v → (k + i, v) ∈ lv_args k vs := by
  induction vs with
  | nil => intro k i v hv; simp at hv
  | cons x vs ih =>
    intro k i v hv
    have hx := h x List.mem_cons_self
    unfold lv_args
    rw [if_neg (by omega)]
    cases i with
    | zero =>
      simp at hv
      subst hv
      exact List.mem_cons_self
    | succ i =>
      refine List.mem_cons_of_mem _ ?_
      have := ih (fun v hv => h v (List.mem_cons_of_mem _ hv)) (k + 1) i v (by simpa using hv)
      rw [show k + (i + 1) = k + 1 + i by omega]
      exact this
theorem xsl_len {vs : List Value} (h : ∀ v ∈ vs, v.category = 1) : (lg_sl vs).length = vs.length := by
  induction vs with
  | nil => rfl
  | cons x vs ih =>
    have hx := h x List.mem_cons_self
    have := ih (fun v hv => h v (List.mem_cons_of_mem _ hv))
    simp only [lg_sl, List.flatMap_cons] at this ⊢
    rw [if_neg (by omega), List.length_append, this]
    simp
    omega
set_option maxHeartbeats 1000000 in
theorem xcall_ok (l : Launch) (D : va_G) (N : Nat) : ∀ (d u : Nat) (vs : List Value) (σ : XS) (rv : Option Value) (σ' : XS), xcall N d u vs σ = some (rv, σ') → xMet l D d u vs σ rv σ' := by
  intro d
  induction d with
  | zero => intro u vs σ rv σ' h; cases h
  | succ d ih =>
    intro u vs σ rv σ' h
    unfold xcall at h
    split at h
    · rename_i hle
      intro ad ca sz
      obtain ⟨m1, m2, m3, m4, m5, m6⟩ := xM_ok u
      refine Met.ofW (cc := (xM u).2.2.1) (maxL := (xM u).2.2.2.1) (ret := (xM u).2.2.2.2) m3 rfl ?_
      intro p e s m args below meth c s₁ B hml hv
      obtain ⟨rfl, hsz, ⟨hP, hD0, hK, hcl⟩, hN, hok⟩ := hv
      subst hsz
      have hts0 := atoms_spec (ws := xW u) B.pre
      have hown : s.vm.findClass (xM u).2.1.cls = some m.cls := findClass_of_methodNamed B.named
      have F : xFix p s m (vs.map (xcv ad)).toArray meth c u := ⟨B.exec, B.bytes, hml, by rw [m2]; exact hown, fun w hw => hts0 w (List.mem_cons_of_mem _ hw), fun w hw => xN_use hw (hN w hw), fun hi => ((name_of_methodNamed B.named B.method).1).trans (of_decide_eq_true hi)⟩
      have hcat : ∀ v ∈ vs.map (xcv ad), v.category = 1 := fun v hv => by
        obtain ⟨w, hw, rfl⟩ := List.mem_map.mp hv
        rw [xcv_cat]
        exact xok_cat (hok w hw)
      have hl := lv_entry (vs.map (xcv ad)) (n := (xM u).2.2.2.1) (by rw [xsl_len hcat, List.length_map]; exact hle)
      rw [lg_entry_eq]
      generalize (lg_sl (vs.map (xcv ad)) ++ List.replicate ((xM u).2.2.2.1 - (lg_sl (vs.map (xcv ad))).length) Slot.unset).toArray = ls at hl ⊢
      have hpt : xPt D (va_A (xws ad ca σ.2.2 σ.1) s.heap.size) s (xM u).2.2.2.1 σ.1 σ.2.1 ad ca s.heap [] ls ad ca (vs.map some ++ List.replicate ((xM u).2.2.2.1 - vs.length) none) [] σ := by
        refine ⟨⟨hP, hD0.self, va_S.rf, hK, hcl⟩, ⟨hl.1, hl.2.1, by simp; omega, fun i v hi => ?_⟩, fun v hv => by simp at hv, Nat.le_refl _, Nat.le_refl _, fun i _ => ⟨rfl, rfl⟩⟩
        have hi' : vs[i]? = some v := by
          by_cases hlt : i < vs.length
          · rw [List.getElem?_append_left (by rw [List.length_map]; exact hlt), List.getElem?_map] at hi
            cases hv : vs[i]? with
            | none => rw [hv] at hi; cases hi
            | some w => rw [hv] at hi; cases hi; rfl
          · rw [List.getElem?_append_right (by rw [List.length_map]; omega)] at hi
            rw [List.getElem?_replicate] at hi
            split at hi
            · cases hi
            · cases hi
        refine ⟨?_, hok v (List.mem_of_getElem? hi')⟩
        have := xargs hcat 0 i (xcv ad v) (by rw [List.getElem?_map, hi']; rfl)
        rw [Nat.zero_add] at this
        exact hl.2.2 _ this
      have hW := xgo_ok (l := l) (e := e) (below := below) (D := D) (N := N) (σ0 := σ) ih F B.returns B.notSynchronized (fun q h => Or.inr h) N 0 _ [] σ s.heap [] ls ad ca h hpt
      rw [Nat.sub_self, Nat.sub_self] at hW
      exact hW
    · cases h
