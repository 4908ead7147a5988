/-- how many parameters the methods have -/
def xAt_0 : List Nat := [0, 3, 1, 1, 0, 2, 1, 3, 1, 1, 3, 5, 5, 3, 0, 2]
theorem xAt_ok_0 : (xMt_0.zip xAt_0).all (fun q => decide ((parseMethodDescriptor q.1.2.1.desc).map (fun d => d.parameters.length) = some q.2)) = true := by decide +kernel
def xAt_1 : List Nat := [1, 0, 0, 1, 2, 3, 5, 2, 1, 2, 3, 3, 0, 2, 1, 1]
theorem xAt_ok_1 : (xMt_1.zip xAt_1).all (fun q => decide ((parseMethodDescriptor q.1.2.1.desc).map (fun d => d.parameters.length) = some q.2)) = true := by decide +kernel
def xAt_2 : List Nat := [1, 0, 0, 1, 4, 1, 1, 1, 2, 2, 3, 0, 0, 0, 0, 0]
theorem xAt_ok_2 : (xMt_2.zip xAt_2).all (fun q => decide ((parseMethodDescriptor q.1.2.1.desc).map (fun d => d.parameters.length) = some q.2)) = true := by decide +kernel
def xAt_3 : List Nat := [1, 0, 1, 2, 0, 1, 2, 0, 0, 2, 2, 2, 0, 1, 0, 1]
theorem xAt_ok_3 : (xMt_3.zip xAt_3).all (fun q => decide ((parseMethodDescriptor q.1.2.1.desc).map (fun d => d.parameters.length) = some q.2)) = true := by decide +kernel
def xAt_4 : List Nat := [1, 1, 1, 2, 1, 0, 0, 1, 1, 1, 0, 0, 4, 2, 3, 1]
theorem xAt_ok_4 : (xMt_4.zip xAt_4).all (fun q => decide ((parseMethodDescriptor q.1.2.1.desc).map (fun d => d.parameters.length) = some q.2)) = true := by decide +kernel
def xAt_5 : List Nat := [2, 2, 1, 5, 2, 3, 2, 2, 3, 2, 2, 2, 1, 1, 2, 2]
theorem xAt_ok_5 : (xMt_5.zip xAt_5).all (fun q => decide ((parseMethodDescriptor q.1.2.1.desc).map (fun d => d.parameters.length) = some q.2)) = true := by decide +kernel
def xAt_6 : List Nat := [1, 1, 2, 1, 2, 1, 1, 0, 0, 4, 2, 2, 3, 3, 2, 1]
theorem xAt_ok_6 : (xMt_6.zip xAt_6).all (fun q => decide ((parseMethodDescriptor q.1.2.1.desc).map (fun d => d.parameters.length) = some q.2)) = true := by decide +kernel
def xAt_7 : List Nat := [2, 2, 2, 3, 4, 1, 2, 1, 3, 5, 3, 2, 3, 4, 1, 2]
theorem xAt_ok_7 : (xMt_7.zip xAt_7).all (fun q => decide ((parseMethodDescriptor q.1.2.1.desc).map (fun d => d.parameters.length) = some q.2)) = true := by decide +kernel
def xAt_8 : List Nat := [1, 3, 1, 1, 2, 2, 3, 1, 1, 2, 2, 1, 5, 2, 3, 2]
theorem xAt_ok_8 : (xMt_8.zip xAt_8).all (fun q => decide ((parseMethodDescriptor q.1.2.1.desc).map (fun d => d.parameters.length) = some q.2)) = true := by decide +kernel
def xAt_9 : List Nat := [2, 3, 2, 2, 2]
theorem xAt_ok_9 : (xMt_9.zip xAt_9).all (fun q => decide ((parseMethodDescriptor q.1.2.1.desc).map (fun d => d.parameters.length) = some q.2)) = true := by decide +kernel
def xAt : List Nat := xAt_0 ++ xAt_1 ++ xAt_2 ++ xAt_3 ++ xAt_4 ++ xAt_5 ++ xAt_6 ++ xAt_7 ++ xAt_8 ++ xAt_9
theorem xarI : Cond.arrayClass .int ∈ xT := (xt1 56 rfl rfl)
theorem xarZ : Cond.arrayClass .boolean ∈ xT := (xt1 84 rfl rfl)
