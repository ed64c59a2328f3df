theorem cl_2_23 : (2 * 1000 + 23, 1, 65, 1, 1, 694, 695, 696, 181) ∈ gCL := by decide +kernel
theorem cl_2_33 : (2 * 1000 + 33, 1, 70, 3, 1, 847, 848, 849, 181) ∈ gCL := by decide +kernel
theorem cl_2_37 : (2 * 1000 + 37, 1, 78, 2, 1, 1039, 806, 807, 181) ∈ gCL := by decide +kernel
theorem cl_2_40 : (2 * 1000 + 40, 1, 66, 1, 1, 1040, 830, 831, 181) ∈ gCL := by decide +kernel
theorem cl_2_46 : (2 * 1000 + 46, 1, 75, 1, 1, 862, 790, 791, 181) ∈ gCL := by decide +kernel
theorem fl_2_13 : (2 * 1000 + 13, 1, 0, 214) ∈ gFL := by decide +kernel
theorem fl_2_19 : (2 * 1000 + 19, 1, 1, 219) ∈ gFL := by decide +kernel
theorem ft_1_0 : (∃ n, gty 1 0 = .object n) ∨ ∃ n, gty 1 0 = .array n := Or.inr ⟨_, rfl⟩
theorem ft_1_1 : gty 1 1 = .int ∨ gty 1 1 = .boolean := Or.inl rfl
theorem fu_1_1 : gty 1 1 = .int := rfl
theorem kf_1_0 {a : Nat} (h : SK0 a = (0, 1)) : SR a 0 = some (a + 1) ∧ SK0 (a + 1) = (2, gln (a + 1)) := by
  have hl := SK0_lt h (by decide)
  have key : (List.range 222).all (fun a => !(decide (SK0 a = (0, 1))) || (decide (SR a 0 = some (a + 1)) && decide (SK0 (a + 1) = (2, gln (a + 1))))) = true := by decide +kernel
  have h1 := List.all_eq_true.mp key a (List.mem_range.mpr hl)
  simp only [h, decide_true, Bool.not_true, Bool.false_or, Bool.and_eq_true, decide_eq_true_eq] at h1
  exact h1
theorem kl_2_50 : (2 * 1000 + 50, .int (65535), 809) ∈ gKL := by decide +kernel
theorem ml_64 : gMLk 64 = true := gML_all 64 (by decide) (by decide) (by decide)
theorem ml_65 : gMLk 65 = true := gML_all 65 (by decide) (by decide) (by decide)
theorem ml_66 : gMLk 66 = true := gML_all 66 (by decide) (by decide) (by decide)
theorem ml_67 : gMLk 67 = true := gML_all 67 (by decide) (by decide) (by decide)
theorem ml_68 : gMLk 68 = true := gML_all 68 (by decide) (by decide) (by decide)
theorem ml_69 : gMLk 69 = true := gML_all 69 (by decide) (by decide) (by decide)
theorem ml_70 : gMLk 70 = true := gML_all 70 (by decide) (by decide) (by decide)
theorem ml_71 : gMLk 71 = true := gML_all 71 (by decide) (by decide) (by decide)
theorem ml_72 : gMLk 72 = true := gML_all 72 (by decide) (by decide) (by decide)
theorem ml_73 : gMLk 73 = true := gML_all 73 (by decide) (by decide) (by decide)
theorem ml_74 : gMLk 74 = true := gML_all 74 (by decide) (by decide) (by decide)
theorem ml_75 : gMLk 75 = true := gML_all 75 (by decide) (by decide) (by decide)
theorem ml_76 : gMLk 76 = true := gML_all 76 (by decide) (by decide) (by decide)
theorem ml_77 : gMLk 77 = true := gML_all 77 (by decide) (by decide) (by decide)
theorem ml_78 : gMLk 78 = true := gML_all 78 (by decide) (by decide) (by decide)
theorem mx_64 : gmx 64 = 1 := by decide +kernel
theorem mx_65 : gmx 65 = 2 := by decide +kernel
theorem mx_66 : gmx 66 = 2 := by decide +kernel
theorem mx_67 : gmx 67 = 2 := by decide +kernel
theorem mx_68 : gmx 68 = 4 := by decide +kernel
theorem mx_69 : gmx 69 = 4 := by decide +kernel
theorem mx_70 : gmx 70 = 4 := by decide +kernel
theorem mx_71 : gmx 71 = 2 := by decide +kernel
theorem mx_72 : gmx 72 = 1 := by decide +kernel
theorem mx_73 : gmx 73 = 3 := by decide +kernel
theorem mx_74 : gmx 74 = 4 := by decide +kernel
theorem mx_75 : gmx 75 = 2 := by decide +kernel
theorem mx_76 : gmx 76 = 2 := by decide +kernel
theorem mx_77 : gmx 77 = 2 := by decide +kernel
theorem mx_78 : gmx 78 = 6 := by decide +kernel
theorem nf_1_1 : ((gcl 1).2.1 1).2.2.2 = false := rfl
theorem ow_64 : gown 64 = 2 := by decide +kernel
theorem ow_65 : gown 65 = 2 := by decide +kernel
theorem ow_66 : gown 66 = 2 := by decide +kernel
theorem ow_67 : gown 67 = 2 := by decide +kernel
theorem ow_68 : gown 68 = 2 := by decide +kernel
theorem ow_69 : gown 69 = 2 := by decide +kernel
theorem ow_70 : gown 70 = 2 := by decide +kernel
theorem ow_71 : gown 71 = 2 := by decide +kernel
theorem ow_72 : gown 72 = 2 := by decide +kernel
theorem ow_73 : gown 73 = 2 := by decide +kernel
theorem ow_74 : gown 74 = 2 := by decide +kernel
theorem ow_75 : gown 75 = 2 := by decide +kernel
theorem ow_76 : gown 76 = 2 := by decide +kernel
theorem ow_77 : gown 77 = 2 := by decide +kernel
theorem ow_78 : gown 78 = 2 := by decide +kernel
theorem pl_2_27 : (2 * 1000 + 27, 851) ∈ gPL := by decide +kernel
theorem rt_64 : grt 64 = none := by decide +kernel
theorem rt_65 : grt 65 = none := by decide +kernel
theorem rt_66 : grt 66 = none := by decide +kernel
theorem rt_67 : grt 67 = none := by decide +kernel
theorem rt_68 : grt 68 = none := by decide +kernel
theorem rt_69 : grt 69 = none := by decide +kernel
theorem rt_70 : grt 70 = none := by decide +kernel
theorem rt_71 : grt 71 = none := by decide +kernel
theorem rt_72 : grt 72 = none := by decide +kernel
theorem rt_73 : grt 73 = none := by decide +kernel
theorem rt_74 : grt 74 = none := by decide +kernel
theorem rt_75 : grt 75 = (some .int) := by decide +kernel
theorem rt_76 : grt 76 = (some .int) := by decide +kernel
theorem rt_77 : grt 77 = (some .int) := by decide +kernel
theorem rt_78 : grt 78 = (some .int) := by decide +kernel
theorem sl_2_51 : (2 * 1000 + 51, 0, 810) ∈ gSL := by decide +kernel
theorem st_66_65 : gSite 66 65 := ⟨gML_all 65 (by decide) (by decide) (by decide), gcw_65, by decide +kernel, by decide +kernel⟩
theorem st_67_65 : gSite 67 65 := ⟨gML_all 65 (by decide) (by decide) (by decide), gcw_65, by decide +kernel, by decide +kernel⟩
theorem st_68_65 : gSite 68 65 := ⟨gML_all 65 (by decide) (by decide) (by decide), gcw_65, by decide +kernel, by decide +kernel⟩
theorem st_69_65 : gSite 69 65 := ⟨gML_all 65 (by decide) (by decide) (by decide), gcw_65, by decide +kernel, by decide +kernel⟩
theorem st_71_70 : gSite 71 70 := ⟨gML_all 70 (by decide) (by decide) (by decide), gcw_70, by decide +kernel, by decide +kernel⟩
theorem st_72_66 : gSite 72 66 := ⟨gML_all 66 (by decide) (by decide) (by decide), gcw_66, by decide +kernel, by decide +kernel⟩
theorem st_72_78 : gSite 72 78 := ⟨gML_all 78 (by decide) (by decide) (by decide), gcw_78, by decide +kernel, by decide +kernel⟩
theorem st_76_75 : gSite 76 75 := ⟨gML_all 75 (by decide) (by decide) (by decide), gcw_75, by decide +kernel, by decide +kernel⟩
theorem st_77_75 : gSite 77 75 := ⟨gML_all 75 (by decide) (by decide) (by decide), gcw_75, by decide +kernel, by decide +kernel⟩
theorem xl_2_7 : (2 * 1000 + 7, 211) ∈ gXL := by decide +kernel
theorem yl_2_43 : (2 * 1000 + 43, 1110) ∈ gYL := by decide +kernel
