/-- how many parameters the methods have -/
def xAt : List Nat := [0, 3, 1, 1, 0, 2, 1, 3, 1, 1, 3, 5, 5, 3, 0, 2, 1, 0, 0, 1, 2, 3, 5, 2, 1, 2, 3, 3, 0, 2, 1, 1, 1, 0, 0, 1, 4, 1, 1, 1, 2, 2, 3, 0, 0, 0, 0, 0, 1, 0, 1, 2, 0, 1, 2, 0, 0, 2, 2, 2, 0, 1, 0, 1, 1, 1, 1, 2, 1, 0, 0, 1, 1, 1, 0, 0, 4, 2, 3, 1, 2, 2, 1, 5, 2, 3, 2, 2, 3, 2, 2, 2, 1, 1, 2, 2, 1, 1, 2, 1, 2, 1, 1, 0, 0, 4, 2, 2, 3, 3, 2, 1, 2, 2, 2, 3, 4, 1, 2, 1, 3, 5, 3, 2, 3, 4, 1, 2, 1, 3, 1, 1, 2, 2, 3, 1, 1, 2, 2, 1, 5, 2, 3, 2, 2, 3, 2, 2, 2]
theorem xAt_ok_0 : (xMt_0.zip [0, 3, 1, 1, 0, 2, 1, 3, 1, 1, 3, 5, 5, 3, 0, 2]).all (fun q => decide ((parseMethodDescriptor q.1.2.1.desc).map (fun d => d.parameters.length) = some q.2)) = true := by decide +kernel
theorem xAt_ok_1 : (xMt_1.zip [1, 0, 0, 1, 2, 3, 5, 2, 1, 2, 3, 3, 0, 2, 1, 1]).all (fun q => decide ((parseMethodDescriptor q.1.2.1.desc).map (fun d => d.parameters.length) = some q.2)) = true := by decide +kernel
theorem xAt_ok_2 : (xMt_2.zip [1, 0, 0, 1, 4, 1, 1, 1, 2, 2, 3, 0, 0, 0, 0, 0]).all (fun q => decide ((parseMethodDescriptor q.1.2.1.desc).map (fun d => d.parameters.length) = some q.2)) = true := by decide +kernel
theorem xAt_ok_3 : (xMt_3.zip [1, 0, 1, 2, 0, 1, 2, 0, 0, 2, 2, 2, 0, 1, 0, 1]).all (fun q => decide ((parseMethodDescriptor q.1.2.1.desc).map (fun d => d.parameters.length) = some q.2)) = true := by decide +kernel
theorem xAt_ok_4 : (xMt_4.zip [1, 1, 1, 2, 1, 0, 0, 1, 1, 1, 0, 0, 4, 2, 3, 1]).all (fun q => decide ((parseMethodDescriptor q.1.2.1.desc).map (fun d => d.parameters.length) = some q.2)) = true := by decide +kernel
theorem xAt_ok_5 : (xMt_5.zip [2, 2, 1, 5, 2, 3, 2, 2, 3, 2, 2, 2, 1, 1, 2, 2]).all (fun q => decide ((parseMethodDescriptor q.1.2.1.desc).map (fun d => d.parameters.length) = some q.2)) = true := by decide +kernel
theorem xAt_ok_6 : (xMt_6.zip [1, 1, 2, 1, 2, 1, 1, 0, 0, 4, 2, 2, 3, 3, 2, 1]).all (fun q => decide ((parseMethodDescriptor q.1.2.1.desc).map (fun d => d.parameters.length) = some q.2)) = true := by decide +kernel
theorem xAt_ok_7 : (xMt_7.zip [2, 2, 2, 3, 4, 1, 2, 1, 3, 5, 3, 2, 3, 4, 1, 2]).all (fun q => decide ((parseMethodDescriptor q.1.2.1.desc).map (fun d => d.parameters.length) = some q.2)) = true := by decide +kernel
theorem xAt_ok_8 : (xMt_8.zip [1, 3, 1, 1, 2, 2, 3, 1, 1, 2, 2, 1, 5, 2, 3, 2]).all (fun q => decide ((parseMethodDescriptor q.1.2.1.desc).map (fun d => d.parameters.length) = some q.2)) = true := by decide +kernel
theorem xAt_ok_9 : (xMt_9.zip [2, 3, 2, 2, 2]).all (fun q => decide ((parseMethodDescriptor q.1.2.1.desc).map (fun d => d.parameters.length) = some q.2)) = true := by decide +kernel
theorem xarI : Cond.arrayClass .int ∈ xT := (xt1 56 rfl rfl)
theorem xarZ : Cond.arrayClass .boolean ∈ xT := (xt1 84 rfl rfl)
