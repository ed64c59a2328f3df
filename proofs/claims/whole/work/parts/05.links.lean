theorem gFL_ok : gFL.all gFLk = true := by decide +kernel
theorem gSL_ok : gSL.all (fun e => gwd e.2.2 (.fieldLink (gcn (e.1 / 1000)) (e.1 % 1000) (gsta e.2.1).1 (gsta e.2.1).2 "[I") && decide (e.2.1 < 3)) = true := by decide +kernel
theorem gKL_ok : gKL.all gKLk = true := by decide +kernel
theorem gNL_ok : gNL.all gNLk = true := by decide +kernel
theorem gAL_ok : gAL.all (fun e => gwd e.2.2.1 (.classLink (gcn (e.1 / 1000)) (e.1 % 1000) (if e.2.1 = 4 then "CraftHouse$Bytes" else "CraftHouse$Store")) && decide (e.2.1 = 4 ∨ e.2.1 = 5)) = true := by decide +kernel
theorem gOL_ok : gOL.all (fun e => gwd e.2 (.methodLink (gcn (e.1 / 1000)) (e.1 % 1000) objectInit)) = true ∧ gwd 203 (.instanceMethod objectInit) = true ∧ gwd 204 (.code objectInit ⟨#[0xb1]⟩ 1 none) = true := by decide +kernel
theorem gPL_ok : gPL.all (fun e => gwd e.2 (.methodLink (gcn (e.1 / 1000)) (e.1 % 1000) arraycopyName)) = true ∧ gwd 853 (.native arraycopyName) = true ∧ gwd 852 (.static arraycopyName) = true ∧ gwd 194 (.initialized "java/lang/System") = true := by decide +kernel
theorem gRL_ok : gwd 255 (.arrayClass .int) = true ∧ gwd 236 (.arrayClass .byte) = true ∧ gwd 2767 (.arrayClass .boolean) = true := by decide +kernel
theorem gML_ok_0 : (List.range' 0 50).all gMLk = true := by decide +kernel
theorem gML_ok_1 : (List.range' 50 50).all gMLk = true := by decide +kernel
theorem gML_ok_2 : (List.range' 100 50).all gMLk = true := by decide +kernel
theorem gML_ok_3 : (List.range' 150 50).all gMLk = true := by decide +kernel
theorem gML_ok_4 : (List.range' 200 50).all gMLk = true := by decide +kernel
theorem gML_ok_5 : (List.range' 250 50).all gMLk = true := by decide +kernel
theorem gML_ok_6 : (List.range' 300 50).all gMLk = true := by decide +kernel
theorem gML_ok_7 : (List.range' 350 15).all gMLk = true := by decide +kernel
theorem gML_ok_8 : (List.range' 367 2).all gMLk = true := by decide +kernel
theorem gmax_ok : gXL.all (fun e => gwd e.2 (.methodLink (gcn (e.1 / 1000)) (e.1 % 1000) Lib.Math.max.name)) = true ∧ gwd 212 (.static Lib.Math.max.name) = true ∧ gwd 182 (.initialized "java/lang/Math") = true ∧ gwd 213 (.code Lib.Math.max.name Lib.Math.max.code 2 (some .int)) = true := by decide +kernel
theorem gmin_ok : gYL.all (fun e => gwd e.2 (.methodLink (gcn (e.1 / 1000)) (e.1 % 1000) Lib.Math.min.name)) = true ∧ gwd 898 (.static Lib.Math.min.name) = true ∧ gwd 182 (.initialized "java/lang/Math") = true ∧ gwd 899 (.code Lib.Math.min.name Lib.Math.min.code 2 (some .int)) = true := by decide +kernel
theorem gCL_ok_0 : ((gCL.drop 0).take 100).all gCLk = true := by decide +kernel
theorem gCL_ok_1 : ((gCL.drop 100).take 100).all gCLk = true := by decide +kernel
theorem gCL_ok_2 : ((gCL.drop 200).take 100).all gCLk = true := by decide +kernel
theorem gCL_ok_3 : ((gCL.drop 300).take 100).all gCLk = true := by decide +kernel
theorem gCL_ok_4 : ((gCL.drop 400).take 100).all gCLk = true := by decide +kernel
