def xPK (q : (Nat × Nat) × Nat) : Prop := Cond.classLink (xR q.1.1) q.1.2 (xR q.2) ∈ xT ∧ Cond.instantiable (xR q.2) (xV q.2).2.2 ∈ xT ∧ Cond.initialized (xR q.2) ∈ xT ∧ vwCl[q.2]? = some (xV q.2)
theorem xk_0 : xPK ((9, 9), 5) := ⟨(xt1 28 rfl rfl), (xt1 29 rfl rfl), (xt1 2 rfl rfl), rfl⟩
theorem xk_1 : xPK ((9, 16), 1) := ⟨(xt1 57 rfl rfl), (xt1 58 rfl rfl), (xt1 3 rfl rfl), rfl⟩
theorem xk_2 : xPK ((1, 9), 3) := ⟨(xt1 63 rfl rfl), (xt1 67 rfl rfl), (xt1 4 rfl rfl), rfl⟩
theorem xk_3 : xPK ((9, 23), 0) := ⟨(xt1 98 rfl rfl), (xt1 99 rfl rfl), (xt1 5 rfl rfl), rfl⟩
theorem xk_4 : xPK ((9, 30), 6) := ⟨(xt1 117 rfl rfl), (xt1 119 rfl rfl), (xt1 6 rfl rfl), rfl⟩
theorem xk_5 : xPK ((6, 9), 4) := ⟨(xt1 124 rfl rfl), (xt1 125 rfl rfl), (xt1 7 rfl rfl), rfl⟩
theorem xk_6 : xPK ((6, 18), 8) := ⟨(xt1 137 rfl rfl), (xt1 138 rfl rfl), (xt1 8 rfl rfl), rfl⟩
theorem xk_7 : xPK ((6, 25), 2) := ⟨(xt1 161 rfl rfl), (xt1 162 rfl rfl), (xt1 9 rfl rfl), rfl⟩
theorem xk_8 : xPK ((6, 48), 7) := ⟨(xt1 176 rfl rfl), (xt1 177 rfl rfl), (xt1 10 rfl rfl), rfl⟩
set_option maxRecDepth 100000 in
theorem xKt_ok : ∀ q ∈ xKt, xPK q := List.forall_mem_cons.mpr ⟨xk_0, List.forall_mem_cons.mpr ⟨xk_1, List.forall_mem_cons.mpr ⟨xk_2, List.forall_mem_cons.mpr ⟨xk_3, List.forall_mem_cons.mpr ⟨xk_4, List.forall_mem_cons.mpr ⟨xk_5, List.forall_mem_cons.mpr ⟨xk_6, List.forall_mem_cons.mpr ⟨xk_7, List.forall_mem_cons.mpr ⟨xk_8, fun _ h => nomatch h⟩⟩⟩⟩⟩⟩⟩⟩⟩
/-- the one new int[n][k] -/
def xMN (o j : Nat) : Bool := decide (o = 1 ∧ j = 21)
theorem xMN_ok {o j : Nat} (h : xMN o j = true) : Cond.classLink (xR o) j "[[I" ∈ xT := by obtain ⟨rfl, rfl⟩ := of_decide_eq_true h; exact (xt1 65 rfl rfl)
/-- arrays of references: words of their own -/
def xO : List Cond := [.arrayOver (.object RX3), .arrayOver (.object RX6), .arrayOver (.array .int)]
theorem xO_in : ∀ w ∈ xO, w ∈ lw_tbl := List.forall_mem_cons.mpr ⟨xl1 (List.mem_of_getElem? (i := 64) rfl), List.forall_mem_cons.mpr ⟨xl1 (List.mem_of_getElem? (i := 118) rfl), List.forall_mem_cons.mpr ⟨xl1 (List.mem_of_getElem? (i := 66) rfl), fun _ h => nomatch h⟩⟩⟩
def xNx : List Cond := xN ++ xO
theorem xNl {w : Cond} (h : w ∈ xN) : w ∈ xNx := List.mem_append_left _ h
