/-! the tables by method numbers -/
theorem xzip {α β : Type} {P : α × β → Bool} {a1 a2 : List α} {b1 b2 : List β} (h1 : (a1.zip b1).all P = true) (h2 : (a2.zip b2).all P = true) (hl : a1.length = b1.length) : ((a1 ++ a2).zip (b1 ++ b2)).all P = true := by
  rw [List.zip_append hl, List.all_append, h1, h2]
  rfl
theorem xzip_at {α β : Type} {P : α × β → Bool} {a : List α} {b : List β} (h : (a.zip b).all P = true) {i : Nat} {x : α} {y : β} (hx : a[i]? = some x) (hy : b[i]? = some y) : P (x, y) = true := by
  refine List.all_eq_true.mp h (x, y) (List.mem_of_getElem? (i := i) ?_)
  rw [List.getElem?_zip_eq_some]
  exact ⟨hx, hy⟩
theorem xIt_ok : (xMt.zip xIt).all (fun q => xChkI q.1.2.2.1 q.2) = true :=
  xzip (xzip (xzip (xzip (xzip (xzip (xzip (xzip (xzip xIt_ok_0 xIt_ok_1 rfl) xIt_ok_2 rfl) xIt_ok_3 rfl) xIt_ok_4 rfl) xIt_ok_5 rfl) xIt_ok_6 rfl) xIt_ok_7 rfl) xIt_ok_8 rfl) xIt_ok_9 rfl
theorem xAt_ok : (xMt.zip xAt).all (fun q => decide ((parseMethodDescriptor q.1.2.1.desc).map (fun d => d.parameters.length) = some q.2)) = true :=
  xzip (xzip (xzip (xzip (xzip (xzip (xzip (xzip (xzip xAt_ok_0 xAt_ok_1 rfl) xAt_ok_2 rfl) xAt_ok_3 rfl) xAt_ok_4 rfl) xAt_ok_5 rfl) xAt_ok_6 rfl) xAt_ok_7 rfl) xAt_ok_8 rfl) xAt_ok_9 rfl
theorem xMt_len : xMt.length = 149 := by decide +kernel
theorem xIt_lenq : xIt.length = 149 := by decide +kernel
theorem xAt_lenq : xAt.length = 149 := by decide +kernel
theorem xM_at {u : Nat} (h : u < 149) : xMt[u]? = some (xM u) := by
  unfold xM
  rw [List.getD_eq_getElem?_getD, List.getElem?_eq_getElem (by rw [xMt_len]; exact h)]
  rfl
theorem xM_ok (u : Nat) : xPM (xM u) := by
  by_cases h : u < 149
  · exact xMt_ok _ (List.mem_of_getElem? (xM_at h))
  · unfold xM
    rw [List.getD_eq_getElem?_getD, List.getElem?_eq_none (by rw [xMt_len]; omega)]
    exact xm_0
theorem xlook {α : Type} {l : List (Nat × α)} {k : Nat} {v : α} (h : l.lookup k = some v) : (k, v) ∈ l := by
  induction l with
  | nil => cases h
  | cons x l ih =>
    rw [List.lookup_cons] at h
    split at h
    · rename_i hb
      cases h
      have : k = x.1 := by simpa using hb
      rw [this]
      exact List.mem_cons_self
    · exact List.mem_cons_of_mem _ (ih h)
theorem xIn_lt {u pc : Nat} {q : Instr × Nat} (h : xIn u pc = some q) : u < 149 := by
  by_cases hu : u < 149
  · exact hu
  · unfold xIn at h
    rw [List.getD_eq_getElem?_getD, List.getElem?_eq_none (by rw [xIt_lenq]; omega)] at h
    cases h
theorem xI_at {u : Nat} (h : u < 149) : xIt[u]? = some (xIt.getD u []) := by
  rw [List.getD_eq_getElem?_getD, List.getElem?_eq_getElem (by rw [xIt_lenq]; exact h)]
  rfl
theorem xIn_ok {u pc len : Nat} {i : Instr} (h : xIn u pc = some (i, len)) : decode (xM u).2.2.1 pc = .ok (i, len) ∧ xlenok i len = true := by
  have hu := xIn_lt h
  have h1 := xzip_at xIt_ok (xM_at hu) (xI_at hu)
  have h2 : (pc, i, len) ∈ xIt.getD u [] := xlook h
  have h3 := List.all_eq_true.mp (List.all_eq_true.mp xIt_len _ (List.mem_of_getElem? (xI_at hu))) _ h2
  have h1 : xChkI (xM u).2.2.1 (xIt.getD u []) = true := h1
  unfold xChkI at h1
  have h4 := List.all_eq_true.mp h1 _ h2
  simp only [decide_eq_true_eq] at h4
  exact ⟨h4, h3⟩
theorem xA_ok {u : Nat} (h : u < 149) : (parseMethodDescriptor (xM u).2.1.desc).map (fun d => d.parameters.length) = some (xA u) := by
  have h9 : xAt[u]? = some (xA u) := by
    unfold xA
    rw [List.getD_eq_getElem?_getD, List.getElem?_eq_getElem (by rw [xAt_lenq]; exact h)]
    rfl
  exact of_decide_eq_true (xzip_at xAt_ok (xM_at h) h9)
theorem xlook2 {α : Type} {l : List ((Nat × Nat) × α)} {k : Nat × Nat} {v : α} (h : l.lookup k = some v) : (k, v) ∈ l := by
  induction l with
  | nil => cases h
  | cons x l ih =>
    rw [List.lookup_cons] at h
    split at h
    · rename_i hb
      cases h
      have : k = x.1 := by simpa using hb
      rw [this]
      exact List.mem_cons_self
    · exact List.mem_cons_of_mem _ (ih h)
theorem xC_ok {o j : Nat} {q : Nat × Nat} (h : xC o j = some q) : xPC ((o, j), q) := xCt_ok _ (xlook2 h)
theorem xCt_lt : xCt.all (fun q => decide (q.2.2 < 149)) = true := by decide +kernel
theorem xC_lt {o j : Nat} {q : Nat × Nat} (h : xC o j = some q) : q.2 < 149 := of_decide_eq_true (List.all_eq_true.mp xCt_lt _ (xlook2 h))
