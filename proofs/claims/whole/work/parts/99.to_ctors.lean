/-! ===== the makers, call by call ===== -/
def Bd (R : Rf) : Prop := ∀ a k, (a ≠ 129 ∧ 20 ≤ k ∨ 160 ≤ k ∨ 222 ≤ a) → R a k = none
theorem Bd.wr {R : Rf} {a k b : Nat} (h : Bd R) (h1 : a < 222 ∧ k < 160 ∧ (a = 129 ∨ k < 20)) : Bd (wr R a k b) := fun c j hc => by
  show va_up R a (va_up (R a) k (some b)) c j = none
  by_cases q : c = a
  · rw [q, gup_s, gup_o (by omega), ← q]; exact h c j hc
  · rw [gup_o q]; exact h c j hc
theorem y196_0 : decode (gb 196) 0 = .ok (.aload_n 0, 1) := by decide +kernel
theorem y196_1 : decode (gb 196) 1 = .ok (.invokespecial 1, 3) := by decide +kernel
theorem yj_11_1 : (11 * 1000 + 1, 202) ∈ gOL := by decide +kernel
theorem yo_196 : gown 196 = 11 := by decide +kernel
theorem y196_4 : decode (gb 196) 4 = .ok (.aload_n 0, 1) := by decide +kernel
theorem y196_5 : decode (gb 196) 5 = .ok (.new 7, 3) := by decide +kernel
theorem yw_11_7 : (11 * 1000 + 7, 1, 205, 206, 181) ∈ gNL := by decide +kernel
theorem yg_1 : gnf 1 = 2 := by decide +kernel
theorem y196_8 : decode (gb 196) 8 = .ok (.dup, 1) := by decide +kernel
theorem y196_9 : decode (gb 196) 9 = .ok (.sipush 256, 3) := by decide +kernel
theorem y196_12 : decode (gb 196) 12 = .ok (.invokespecial 9, 3) := by decide +kernel
theorem yl_11_9 : (11 * 1000 + 9, 2, 63, 1, 1, 207, 208, 0, 181) ∈ gCL := by decide +kernel
theorem y63_0 : decode (gb 63) 0 = .ok (.aload_n 0, 1) := by decide +kernel
theorem y63_1 : decode (gb 63) 1 = .ok (.invokespecial 1, 3) := by decide +kernel
theorem yj_2_1 : (2 * 1000 + 1, 210) ∈ gOL := by decide +kernel
theorem yo_63 : gown 63 = 2 := by decide +kernel
theorem y63_4 : decode (gb 63) 4 = .ok (.aload_n 0, 1) := by decide +kernel
theorem y63_5 : decode (gb 63) 5 = .ok (.iload_n 1, 1) := by decide +kernel
theorem y63_6 : decode (gb 63) 6 = .ok (.iconst 0, 1) := by decide +kernel
theorem y63_7 : decode (gb 63) 7 = .ok (.invokestatic 7, 3) := by decide +kernel
theorem yx_2_7 : (2 * 1000 + 7, 211) ∈ gXL := by decide +kernel
theorem y63_10 : decode (gb 63) 10 = .ok (.newarray .byte, 2) := by decide +kernel
theorem y63_12 : decode (gb 63) 12 = .ok (.putfield 13, 3) := by decide +kernel
theorem yn_63_1_0 : gFin 63 1 0 := by decide +kernel
theorem y63_15 : decode (gb 63) 15 = .ok (.return_, 1) := by decide +kernel
theorem yr_63 : grt 63 = none := by decide +kernel
theorem yc_63 : gmc 63 = 1 := by decide +kernel
theorem ys_63 : gms 63 = 1024 := by decide +kernel
theorem yf_11_12 : (11 * 1000 + 12, 10, 0, 749) ∈ gFL := by decide +kernel
theorem y196_15 : decode (gb 196) 15 = .ok (.putfield 12, 3) := by decide +kernel
theorem yn_196_10_0 : gFin 196 10 0 := by decide +kernel
theorem y196_18 : decode (gb 196) 18 = .ok (.aload_n 0, 1) := by decide +kernel
theorem y196_19 : decode (gb 196) 19 = .ok (.new 7, 3) := by decide +kernel
theorem y196_22 : decode (gb 196) 22 = .ok (.dup, 1) := by decide +kernel
theorem y196_23 : decode (gb 196) 23 = .ok (.sipush 138, 3) := by decide +kernel
theorem y196_26 : decode (gb 196) 26 = .ok (.invokespecial 9, 3) := by decide +kernel
theorem yf_11_20 : (11 * 1000 + 20, 10, 1, 750) ∈ gFL := by decide +kernel
theorem y196_29 : decode (gb 196) 29 = .ok (.putfield 20, 3) := by decide +kernel
theorem yn_196_10_1 : gFin 196 10 1 := by decide +kernel
theorem y196_32 : decode (gb 196) 32 = .ok (.aload_n 0, 1) := by decide +kernel
theorem y196_33 : decode (gb 196) 33 = .ok (.new 23, 3) := by decide +kernel
theorem yw_11_23 : (11 * 1000 + 23, 4, 237, 238, 183) ∈ gNL := by decide +kernel
theorem yg_4 : gnf 4 = 3 := by decide +kernel
theorem y196_36 : decode (gb 196) 36 = .ok (.dup, 1) := by decide +kernel
theorem y196_37 : decode (gb 196) 37 = .ok (.sipush 32000, 3) := by decide +kernel
theorem y196_40 : decode (gb 196) 40 = .ok (.invokespecial 25, 3) := by decide +kernel
theorem yl_11_25 : (11 * 1000 + 25, 2, 107, 1, 4, 239, 240, 0, 183) ∈ gCL := by decide +kernel
theorem y107_0 : decode (gb 107) 0 = .ok (.aload_n 0, 1) := by decide +kernel
theorem y107_1 : decode (gb 107) 1 = .ok (.invokespecial 1, 3) := by decide +kernel
theorem yj_5_1 : (5 * 1000 + 1, 242) ∈ gOL := by decide +kernel
theorem yo_107 : gown 107 = 5 := by decide +kernel
theorem y107_4 : decode (gb 107) 4 = .ok (.aload_n 0, 1) := by decide +kernel
theorem y107_5 : decode (gb 107) 5 = .ok (.iload_n 1, 1) := by decide +kernel
theorem y107_6 : decode (gb 107) 6 = .ok (.iconst 0, 1) := by decide +kernel
theorem y107_7 : decode (gb 107) 7 = .ok (.invokestatic 7, 3) := by decide +kernel
theorem yx_5_7 : (5 * 1000 + 7, 243) ∈ gXL := by decide +kernel
theorem yf_5_13 : (5 * 1000 + 13, 4, 0, 244) ∈ gFL := by decide +kernel
theorem y107_10 : decode (gb 107) 10 = .ok (.putfield 13, 3) := by decide +kernel
theorem yn_107_4_0 : gFin 107 4 0 := by decide +kernel
theorem y107_13 : decode (gb 107) 13 = .ok (.aload_n 0, 1) := by decide +kernel
theorem y107_14 : decode (gb 107) 14 = .ok (.aload_n 0, 1) := by decide +kernel
theorem y107_15 : decode (gb 107) 15 = .ok (.getfield 13, 3) := by decide +kernel
theorem y107_18 : decode (gb 107) 18 = .ok (.bipush 32, 2) := by decide +kernel
theorem y107_20 : decode (gb 107) 20 = .ok (.idiv, 1) := by decide +kernel
theorem y107_21 : decode (gb 107) 21 = .ok (.iconst 2, 1) := by decide +kernel
theorem y107_22 : decode (gb 107) 22 = .ok (.iadd, 1) := by decide +kernel
theorem y107_23 : decode (gb 107) 23 = .ok (.newarray .int, 2) := by decide +kernel
theorem yf_5_19 : (5 * 1000 + 19, 4, 1, 245) ∈ gFL := by decide +kernel
theorem y107_25 : decode (gb 107) 25 = .ok (.putfield 19, 3) := by decide +kernel
theorem yn_107_4_1 : gFin 107 4 1 := by decide +kernel
theorem y107_28 : decode (gb 107) 28 = .ok (.return_, 1) := by decide +kernel
theorem yr_107 : grt 107 = none := by decide +kernel
theorem yc_107 : gmc 107 = 1 := by decide +kernel
theorem ys_107 : gms 107 = 2002 := by decide +kernel
theorem yf_11_26 : (11 * 1000 + 26, 10, 2, 751) ∈ gFL := by decide +kernel
theorem y196_43 : decode (gb 196) 43 = .ok (.putfield 26, 3) := by decide +kernel
theorem yn_196_10_2 : gFin 196 10 2 := by decide +kernel
theorem y196_46 : decode (gb 196) 46 = .ok (.aload_n 0, 1) := by decide +kernel
theorem y196_47 : decode (gb 196) 47 = .ok (.new 23, 3) := by decide +kernel
theorem y196_50 : decode (gb 196) 50 = .ok (.dup, 1) := by decide +kernel
theorem y196_51 : decode (gb 196) 51 = .ok (.ldc 30, 2) := by decide +kernel
theorem yk_196_30 : (gown 196 * 1000 + 30, .int (64000), 256) ∈ gKL := by decide +kernel
theorem y196_53 : decode (gb 196) 53 = .ok (.invokespecial 25, 3) := by decide +kernel
theorem yf_11_31 : (11 * 1000 + 31, 10, 3, 752) ∈ gFL := by decide +kernel
theorem y196_56 : decode (gb 196) 56 = .ok (.putfield 31, 3) := by decide +kernel
theorem yn_196_10_3 : gFin 196 10 3 := by decide +kernel
theorem y196_59 : decode (gb 196) 59 = .ok (.aload_n 0, 1) := by decide +kernel
theorem y196_60 : decode (gb 196) 60 = .ok (.new 34, 3) := by decide +kernel
theorem yw_11_34 : (11 * 1000 + 34, 9, 257, 258, 184) ∈ gNL := by decide +kernel
theorem yg_9 : gnf 9 = 17 := by decide +kernel
theorem y196_63 : decode (gb 196) 63 = .ok (.dup, 1) := by decide +kernel
theorem y196_64 : decode (gb 196) 64 = .ok (.invokespecial 36, 3) := by decide +kernel
theorem yl_11_36 : (11 * 1000 + 36, 3, 180, 0, 9, 259, 260, 0, 184) ∈ gCL := by decide +kernel
theorem y180_0 : decode (gb 180) 0 = .ok (.aload_n 0, 1) := by decide +kernel
theorem y180_1 : decode (gb 180) 1 = .ok (.invokespecial 1, 3) := by decide +kernel
theorem yj_10_1 : (10 * 1000 + 1, 262) ∈ gOL := by decide +kernel
theorem yo_180 : gown 180 = 10 := by decide +kernel
theorem y180_4 : decode (gb 180) 4 = .ok (.aload_n 0, 1) := by decide +kernel
theorem y180_5 : decode (gb 180) 5 = .ok (.new 7, 3) := by decide +kernel
theorem yw_10_7 : (10 * 1000 + 7, 1, 263, 206, 181) ∈ gNL := by decide +kernel
theorem y180_8 : decode (gb 180) 8 = .ok (.dup, 1) := by decide +kernel
theorem y180_9 : decode (gb 180) 9 = .ok (.bipush 112, 2) := by decide +kernel
theorem y180_11 : decode (gb 180) 11 = .ok (.invokespecial 11, 3) := by decide +kernel
theorem yl_10_11 : (10 * 1000 + 11, 2, 63, 1, 1, 264, 208, 0, 181) ∈ gCL := by decide +kernel
theorem yf_10_14 : (10 * 1000 + 14, 9, 0, 265) ∈ gFL := by decide +kernel
theorem y180_14 : decode (gb 180) 14 = .ok (.putfield 14, 3) := by decide +kernel
theorem yn_180_9_0 : gFin 180 9 0 := by decide +kernel
theorem y180_17 : decode (gb 180) 17 = .ok (.aload_n 0, 1) := by decide +kernel
theorem y180_18 : decode (gb 180) 18 = .ok (.bipush 16, 2) := by decide +kernel
theorem yf_10_20 : (10 * 1000 + 20, 9, 16, 294) ∈ gFL := by decide +kernel
theorem y180_20 : decode (gb 180) 20 = .ok (.putfield 20, 3) := by decide +kernel
theorem yn_180_9_16 : gFin 180 9 16 := by decide +kernel
theorem y180_23 : decode (gb 180) 23 = .ok (.return_, 1) := by decide +kernel
theorem yr_180 : grt 180 = none := by decide +kernel
theorem yc_180 : gmc 180 = 2 := by decide +kernel
theorem ys_180 : gms 180 = 1026 := by decide +kernel
theorem ye_11_36 : (11 * 1000 + 36, 180) ∈ gEL := by decide +kernel
theorem yf_11_37 : (11 * 1000 + 37, 10, 4, 753) ∈ gFL := by decide +kernel
theorem y196_67 : decode (gb 196) 67 = .ok (.putfield 37, 3) := by decide +kernel
theorem yn_196_10_4 : gFin 196 10 4 := by decide +kernel
theorem y196_70 : decode (gb 196) 70 = .ok (.aload_n 0, 1) := by decide +kernel
theorem y196_71 : decode (gb 196) 71 = .ok (.new 41, 3) := by decide +kernel
theorem yw_11_41 : (11 * 1000 + 41, 2, 331, 332, 185) ∈ gNL := by decide +kernel
theorem yg_2 : gnf 2 = 13 := by decide +kernel
theorem y196_74 : decode (gb 196) 74 = .ok (.dup, 1) := by decide +kernel
theorem y196_75 : decode (gb 196) 75 = .ok (.invokespecial 43, 3) := by decide +kernel
theorem yl_11_43 : (11 * 1000 + 43, 3, 79, 0, 2, 333, 334, 0, 185) ∈ gCL := by decide +kernel
theorem y79_0 : decode (gb 79) 0 = .ok (.aload_n 0, 1) := by decide +kernel
theorem y79_1 : decode (gb 79) 1 = .ok (.invokespecial 1, 3) := by decide +kernel
theorem yj_3_1 : (3 * 1000 + 1, 336) ∈ gOL := by decide +kernel
theorem yo_79 : gown 79 = 3 := by decide +kernel
theorem y79_4 : decode (gb 79) 4 = .ok (.aload_n 0, 1) := by decide +kernel
theorem y79_5 : decode (gb 79) 5 = .ok (.new 7, 3) := by decide +kernel
theorem yw_3_7 : (3 * 1000 + 7, 1, 337, 206, 181) ∈ gNL := by decide +kernel
theorem y79_8 : decode (gb 79) 8 = .ok (.dup, 1) := by decide +kernel
theorem y79_9 : decode (gb 79) 9 = .ok (.bipush 100, 2) := by decide +kernel
theorem y79_11 : decode (gb 79) 11 = .ok (.invokespecial 9, 3) := by decide +kernel
theorem yl_3_9 : (3 * 1000 + 9, 2, 63, 1, 1, 338, 208, 0, 181) ∈ gCL := by decide +kernel
theorem yf_3_12 : (3 * 1000 + 12, 2, 0, 375) ∈ gFL := by decide +kernel
theorem y79_14 : decode (gb 79) 14 = .ok (.putfield 12, 3) := by decide +kernel
theorem yn_79_2_0 : gFin 79 2 0 := by decide +kernel
theorem y79_17 : decode (gb 79) 17 = .ok (.aload_n 0, 1) := by decide +kernel
theorem y79_18 : decode (gb 79) 18 = .ok (.new 18, 3) := by decide +kernel
theorem yw_3_18 : (3 * 1000 + 18, 7, 339, 340, 186) ∈ gNL := by decide +kernel
theorem yg_7 : gnf 7 = 7 := by decide +kernel
theorem y79_21 : decode (gb 79) 21 = .ok (.dup, 1) := by decide +kernel
theorem y79_22 : decode (gb 79) 22 = .ok (.bipush 40, 2) := by decide +kernel
theorem y79_24 : decode (gb 79) 24 = .ok (.sipush 4800, 3) := by decide +kernel
theorem y79_27 : decode (gb 79) 27 = .ok (.invokespecial 20, 3) := by decide +kernel
theorem yl_3_20 : (3 * 1000 + 20, 2, 157, 2, 7, 341, 342, 0, 186) ∈ gCL := by decide +kernel
theorem y157_0 : decode (gb 157) 0 = .ok (.aload_n 0, 1) := by decide +kernel
theorem y157_1 : decode (gb 157) 1 = .ok (.invokespecial 1, 3) := by decide +kernel
theorem yj_8_1 : (8 * 1000 + 1, 344) ∈ gOL := by decide +kernel
theorem yo_157 : gown 157 = 8 := by decide +kernel
theorem y157_4 : decode (gb 157) 4 = .ok (.iload_n 1, 1) := by decide +kernel
theorem y157_5 : decode (gb 157) 5 = .ok (.iconst 0, 1) := by decide +kernel
theorem y157_6 : decode (gb 157) 6 = .ok (.invokestatic 7, 3) := by decide +kernel
theorem yx_8_7 : (8 * 1000 + 7, 345) ∈ gXL := by decide +kernel
theorem y157_9 : decode (gb 157) 9 = .ok (.istore_n 3, 1) := by decide +kernel
theorem y157_10 : decode (gb 157) 10 = .ok (.aload_n 0, 1) := by decide +kernel
theorem y157_11 : decode (gb 157) 11 = .ok (.iload_n 2, 1) := by decide +kernel
theorem y157_12 : decode (gb 157) 12 = .ok (.iconst 0, 1) := by decide +kernel
theorem y157_13 : decode (gb 157) 13 = .ok (.invokestatic 7, 3) := by decide +kernel
theorem y157_16 : decode (gb 157) 16 = .ok (.newarray .byte, 2) := by decide +kernel
theorem yf_8_13 : (8 * 1000 + 13, 7, 0, 346) ∈ gFL := by decide +kernel
theorem y157_18 : decode (gb 157) 18 = .ok (.putfield 13, 3) := by decide +kernel
theorem yn_157_7_0 : gFin 157 7 0 := by decide +kernel
theorem y157_21 : decode (gb 157) 21 = .ok (.aload_n 0, 1) := by decide +kernel
theorem y157_22 : decode (gb 157) 22 = .ok (.iload_n 3, 1) := by decide +kernel
theorem y157_23 : decode (gb 157) 23 = .ok (.newarray .int, 2) := by decide +kernel
theorem yf_8_19 : (8 * 1000 + 19, 7, 1, 347) ∈ gFL := by decide +kernel
theorem y157_25 : decode (gb 157) 25 = .ok (.putfield 19, 3) := by decide +kernel
theorem yn_157_7_1 : gFin 157 7 1 := by decide +kernel
theorem y157_28 : decode (gb 157) 28 = .ok (.aload_n 0, 1) := by decide +kernel
theorem y157_29 : decode (gb 157) 29 = .ok (.iload_n 3, 1) := by decide +kernel
theorem y157_30 : decode (gb 157) 30 = .ok (.newarray .int, 2) := by decide +kernel
theorem yf_8_23 : (8 * 1000 + 23, 7, 2, 348) ∈ gFL := by decide +kernel
theorem y157_32 : decode (gb 157) 32 = .ok (.putfield 23, 3) := by decide +kernel
theorem yn_157_7_2 : gFin 157 7 2 := by decide +kernel
theorem y157_35 : decode (gb 157) 35 = .ok (.aload_n 0, 1) := by decide +kernel
theorem y157_36 : decode (gb 157) 36 = .ok (.iload_n 3, 1) := by decide +kernel
theorem y157_37 : decode (gb 157) 37 = .ok (.newarray .int, 2) := by decide +kernel
theorem yf_8_26 : (8 * 1000 + 26, 7, 3, 349) ∈ gFL := by decide +kernel
theorem y157_39 : decode (gb 157) 39 = .ok (.putfield 26, 3) := by decide +kernel
theorem yn_157_7_3 : gFin 157 7 3 := by decide +kernel
theorem y157_42 : decode (gb 157) 42 = .ok (.aload_n 0, 1) := by decide +kernel
theorem y157_43 : decode (gb 157) 43 = .ok (.iload_n 3, 1) := by decide +kernel
theorem y157_44 : decode (gb 157) 44 = .ok (.newarray .int, 2) := by decide +kernel
theorem yf_8_29 : (8 * 1000 + 29, 7, 4, 350) ∈ gFL := by decide +kernel
theorem y157_46 : decode (gb 157) 46 = .ok (.putfield 29, 3) := by decide +kernel
theorem yn_157_7_4 : gFin 157 7 4 := by decide +kernel
theorem y157_49 : decode (gb 157) 49 = .ok (.return_, 1) := by decide +kernel
theorem yr_157 : grt 157 = none := by decide +kernel
theorem yc_157 : gmc 157 = 5 := by decide +kernel
theorem ys_157 : gms 157 = 5120 := by decide +kernel
theorem yf_3_23 : (3 * 1000 + 23, 2, 1, 377) ∈ gFL := by decide +kernel
theorem y79_30 : decode (gb 79) 30 = .ok (.putfield 23, 3) := by decide +kernel
theorem yn_79_2_1 : gFin 79 2 1 := by decide +kernel
theorem y79_33 : decode (gb 79) 33 = .ok (.aload_n 0, 1) := by decide +kernel
theorem y79_34 : decode (gb 79) 34 = .ok (.bipush 24, 2) := by decide +kernel
theorem y79_36 : decode (gb 79) 36 = .ok (.newarray .int, 2) := by decide +kernel
theorem yf_3_29 : (3 * 1000 + 29, 2, 2, 379) ∈ gFL := by decide +kernel
theorem y79_38 : decode (gb 79) 38 = .ok (.putfield 29, 3) := by decide +kernel
theorem yn_79_2_2 : gFin 79 2 2 := by decide +kernel
theorem y79_41 : decode (gb 79) 41 = .ok (.aload_n 0, 1) := by decide +kernel
theorem y79_42 : decode (gb 79) 42 = .ok (.bipush 24, 2) := by decide +kernel
theorem y79_44 : decode (gb 79) 44 = .ok (.newarray .int, 2) := by decide +kernel
theorem yf_3_33 : (3 * 1000 + 33, 2, 3, 381) ∈ gFL := by decide +kernel
theorem y79_46 : decode (gb 79) 46 = .ok (.putfield 33, 3) := by decide +kernel
theorem yn_79_2_3 : gFin 79 2 3 := by decide +kernel
theorem y79_49 : decode (gb 79) 49 = .ok (.aload_n 0, 1) := by decide +kernel
theorem y79_50 : decode (gb 79) 50 = .ok (.bipush 24, 2) := by decide +kernel
theorem y79_52 : decode (gb 79) 52 = .ok (.newarray .int, 2) := by decide +kernel
theorem yf_3_36 : (3 * 1000 + 36, 2, 4, 383) ∈ gFL := by decide +kernel
theorem y79_54 : decode (gb 79) 54 = .ok (.putfield 36, 3) := by decide +kernel
theorem yn_79_2_4 : gFin 79 2 4 := by decide +kernel
theorem y79_57 : decode (gb 79) 57 = .ok (.aload_n 0, 1) := by decide +kernel
theorem y79_58 : decode (gb 79) 58 = .ok (.bipush 64, 2) := by decide +kernel
theorem y79_60 : decode (gb 79) 60 = .ok (.newarray .int, 2) := by decide +kernel
theorem yf_3_39 : (3 * 1000 + 39, 2, 5, 385) ∈ gFL := by decide +kernel
theorem y79_62 : decode (gb 79) 62 = .ok (.putfield 39, 3) := by decide +kernel
theorem yn_79_2_5 : gFin 79 2 5 := by decide +kernel
theorem y79_65 : decode (gb 79) 65 = .ok (.aload_n 0, 1) := by decide +kernel
theorem y79_66 : decode (gb 79) 66 = .ok (.bipush 64, 2) := by decide +kernel
theorem y79_68 : decode (gb 79) 68 = .ok (.newarray .int, 2) := by decide +kernel
theorem yf_3_42 : (3 * 1000 + 42, 2, 6, 386) ∈ gFL := by decide +kernel
theorem y79_70 : decode (gb 79) 70 = .ok (.putfield 42, 3) := by decide +kernel
theorem yn_79_2_6 : gFin 79 2 6 := by decide +kernel
theorem y79_73 : decode (gb 79) 73 = .ok (.aload_n 0, 1) := by decide +kernel
theorem y79_74 : decode (gb 79) 74 = .ok (.bipush 64, 2) := by decide +kernel
theorem y79_76 : decode (gb 79) 76 = .ok (.newarray .int, 2) := by decide +kernel
theorem yf_3_45 : (3 * 1000 + 45, 2, 7, 387) ∈ gFL := by decide +kernel
theorem y79_78 : decode (gb 79) 78 = .ok (.putfield 45, 3) := by decide +kernel
theorem yn_79_2_7 : gFin 79 2 7 := by decide +kernel
theorem y79_81 : decode (gb 79) 81 = .ok (.aload_n 0, 1) := by decide +kernel
theorem y79_82 : decode (gb 79) 82 = .ok (.iconst (-1), 1) := by decide +kernel
theorem yf_3_48 : (3 * 1000 + 48, 2, 12, 396) ∈ gFL := by decide +kernel
theorem y79_83 : decode (gb 79) 83 = .ok (.putfield 48, 3) := by decide +kernel
theorem yn_79_2_12 : gFin 79 2 12 := by decide +kernel
theorem y79_86 : decode (gb 79) 86 = .ok (.return_, 1) := by decide +kernel
theorem yr_79 : grt 79 = none := by decide +kernel
theorem yc_79 : gmc 79 = 14 := by decide +kernel
theorem ys_79 : gms 79 = 6417 := by decide +kernel
theorem ye_11_43 : (11 * 1000 + 43, 79) ∈ gEL := by decide +kernel
theorem yf_11_44 : (11 * 1000 + 44, 10, 5, 754) ∈ gFL := by decide +kernel
theorem y196_78 : decode (gb 196) 78 = .ok (.putfield 44, 3) := by decide +kernel
theorem yn_196_10_5 : gFin 196 10 5 := by decide +kernel
theorem y196_81 : decode (gb 196) 81 = .ok (.invokestatic 48, 3) := by decide +kernel
theorem yl_11_48 : (11 * 1000 + 48, 0, 0, 0, 0, 424, 425, 0, 187) ∈ gCL := by decide +kernel
theorem yc_0 : gmc 0 = 1 := by decide +kernel
theorem ys_0 : gms 0 = 64 := by decide +kernel
theorem y196_84 : decode (gb 196) 84 = .ok (.astore_n 1, 1) := by decide +kernel
theorem y196_85 : decode (gb 196) 85 = .ok (.aload_n 0, 1) := by decide +kernel
theorem y196_86 : decode (gb 196) 86 = .ok (.new 52, 3) := by decide +kernel
theorem yw_11_52 : (11 * 1000 + 52, 6, 427, 428, 188) ∈ gNL := by decide +kernel
theorem yg_6 : gnf 6 = 19 := by decide +kernel
theorem y196_89 : decode (gb 196) 89 = .ok (.dup, 1) := by decide +kernel
theorem y196_90 : decode (gb 196) 90 = .ok (.aload_n 0, 1) := by decide +kernel
theorem y196_91 : decode (gb 196) 91 = .ok (.getfield 26, 3) := by decide +kernel
theorem y196_94 : decode (gb 196) 94 = .ok (.aload_n 0, 1) := by decide +kernel
theorem y196_95 : decode (gb 196) 95 = .ok (.getfield 44, 3) := by decide +kernel
theorem y196_98 : decode (gb 196) 98 = .ok (.invokespecial 54, 3) := by decide +kernel
theorem yl_11_54 : (11 * 1000 + 54, 2, 128, 2, 6, 429, 430, 0, 188) ∈ gCL := by decide +kernel
theorem y128_0 : decode (gb 128) 0 = .ok (.aload_n 0, 1) := by decide +kernel
theorem y128_1 : decode (gb 128) 1 = .ok (.invokespecial 3, 3) := by decide +kernel
theorem yj_7_3 : (7 * 1000 + 3, 432) ∈ gOL := by decide +kernel
theorem yo_128 : gown 128 = 7 := by decide +kernel
theorem y128_4 : decode (gb 128) 4 = .ok (.aload_n 0, 1) := by decide +kernel
theorem y128_5 : decode (gb 128) 5 = .ok (.new 9, 3) := by decide +kernel
theorem yw_7_9 : (7 * 1000 + 9, 7, 433, 340, 186) ∈ gNL := by decide +kernel
theorem y128_8 : decode (gb 128) 8 = .ok (.dup, 1) := by decide +kernel
theorem y128_9 : decode (gb 128) 9 = .ok (.bipush 32, 2) := by decide +kernel
theorem y128_11 : decode (gb 128) 11 = .ok (.sipush 1920, 3) := by decide +kernel
theorem y128_14 : decode (gb 128) 14 = .ok (.invokespecial 13, 3) := by decide +kernel
theorem yl_7_13 : (7 * 1000 + 13, 2, 157, 2, 7, 434, 342, 0, 186) ∈ gCL := by decide +kernel
theorem yf_7_16 : (7 * 1000 + 16, 6, 2, 439) ∈ gFL := by decide +kernel
theorem y128_17 : decode (gb 128) 17 = .ok (.putfield 16, 3) := by decide +kernel
theorem yn_128_6_2 : gFin 128 6 2 := by decide +kernel
theorem y128_20 : decode (gb 128) 20 = .ok (.aload_n 0, 1) := by decide +kernel
theorem y128_21 : decode (gb 128) 21 = .ok (.new 9, 3) := by decide +kernel
theorem y128_24 : decode (gb 128) 24 = .ok (.dup, 1) := by decide +kernel
theorem y128_25 : decode (gb 128) 25 = .ok (.bipush 32, 2) := by decide +kernel
theorem y128_27 : decode (gb 128) 27 = .ok (.sipush 1920, 3) := by decide +kernel
theorem y128_30 : decode (gb 128) 30 = .ok (.invokespecial 13, 3) := by decide +kernel
theorem yf_7_20 : (7 * 1000 + 20, 6, 3, 440) ∈ gFL := by decide +kernel
theorem y128_33 : decode (gb 128) 33 = .ok (.putfield 20, 3) := by decide +kernel
theorem yn_128_6_3 : gFin 128 6 3 := by decide +kernel
theorem y128_36 : decode (gb 128) 36 = .ok (.aload_n 0, 1) := by decide +kernel
theorem y128_37 : decode (gb 128) 37 = .ok (.new 23, 3) := by decide +kernel
theorem yw_7_23 : (7 * 1000 + 23, 1, 435, 206, 181) ∈ gNL := by decide +kernel
theorem y128_40 : decode (gb 128) 40 = .ok (.dup, 1) := by decide +kernel
theorem y128_41 : decode (gb 128) 41 = .ok (.iconst 3, 1) := by decide +kernel
theorem y128_42 : decode (gb 128) 42 = .ok (.invokespecial 25, 3) := by decide +kernel
theorem yl_7_25 : (7 * 1000 + 25, 2, 63, 1, 1, 436, 208, 0, 181) ∈ gCL := by decide +kernel
theorem yf_7_28 : (7 * 1000 + 28, 6, 4, 441) ∈ gFL := by decide +kernel
theorem y128_45 : decode (gb 128) 45 = .ok (.putfield 28, 3) := by decide +kernel
theorem yn_128_6_4 : gFin 128 6 4 := by decide +kernel
theorem y128_48 : decode (gb 128) 48 = .ok (.aload_n 0, 1) := by decide +kernel
theorem y128_49 : decode (gb 128) 49 = .ok (.new 23, 3) := by decide +kernel
theorem y128_52 : decode (gb 128) 52 = .ok (.dup, 1) := by decide +kernel
theorem y128_53 : decode (gb 128) 53 = .ok (.bipush 60, 2) := by decide +kernel
theorem y128_55 : decode (gb 128) 55 = .ok (.invokespecial 25, 3) := by decide +kernel
theorem yf_7_32 : (7 * 1000 + 32, 6, 5, 442) ∈ gFL := by decide +kernel
theorem y128_58 : decode (gb 128) 58 = .ok (.putfield 32, 3) := by decide +kernel
theorem yn_128_6_5 : gFin 128 6 5 := by decide +kernel
theorem y128_61 : decode (gb 128) 61 = .ok (.aload_n 0, 1) := by decide +kernel
theorem y128_62 : decode (gb 128) 62 = .ok (.new 23, 3) := by decide +kernel
theorem y128_65 : decode (gb 128) 65 = .ok (.dup, 1) := by decide +kernel
theorem y128_66 : decode (gb 128) 66 = .ok (.bipush 67, 2) := by decide +kernel
theorem y128_68 : decode (gb 128) 68 = .ok (.invokespecial 25, 3) := by decide +kernel
theorem yf_7_35 : (7 * 1000 + 35, 6, 6, 443) ∈ gFL := by decide +kernel
theorem y128_71 : decode (gb 128) 71 = .ok (.putfield 35, 3) := by decide +kernel
theorem yn_128_6_6 : gFin 128 6 6 := by decide +kernel
theorem y128_74 : decode (gb 128) 74 = .ok (.aload_n 0, 1) := by decide +kernel
theorem y128_75 : decode (gb 128) 75 = .ok (.new 23, 3) := by decide +kernel
theorem y128_78 : decode (gb 128) 78 = .ok (.dup, 1) := by decide +kernel
theorem y128_79 : decode (gb 128) 79 = .ok (.sipush 138, 3) := by decide +kernel
theorem y128_82 : decode (gb 128) 82 = .ok (.invokespecial 25, 3) := by decide +kernel
theorem yf_7_40 : (7 * 1000 + 40, 6, 7, 444) ∈ gFL := by decide +kernel
theorem y128_85 : decode (gb 128) 85 = .ok (.putfield 40, 3) := by decide +kernel
theorem yn_128_6_7 : gFin 128 6 7 := by decide +kernel
theorem y128_88 : decode (gb 128) 88 = .ok (.aload_n 0, 1) := by decide +kernel
theorem y128_89 : decode (gb 128) 89 = .ok (.bipush 6, 2) := by decide +kernel
theorem yf_7_43 : (7 * 1000 + 43, 6, 8, 445) ∈ gFL := by decide +kernel
theorem y128_91 : decode (gb 128) 91 = .ok (.putfield 43, 3) := by decide +kernel
theorem yn_128_6_8 : gFin 128 6 8 := by decide +kernel
theorem y128_94 : decode (gb 128) 94 = .ok (.aload_n 0, 1) := by decide +kernel
theorem y128_95 : decode (gb 128) 95 = .ok (.iconst 1, 1) := by decide +kernel
theorem yf_7_47 : (7 * 1000 + 47, 6, 11, 448) ∈ gFL := by decide +kernel
theorem y128_96 : decode (gb 128) 96 = .ok (.putfield 47, 3) := by decide +kernel
theorem yn_128_6_11 : gFin 128 6 11 := by decide +kernel
theorem y128_99 : decode (gb 128) 99 = .ok (.aload_n 0, 1) := by decide +kernel
theorem y128_100 : decode (gb 128) 100 = .ok (.iconst 3, 1) := by decide +kernel
theorem yf_7_50 : (7 * 1000 + 50, 6, 12, 449) ∈ gFL := by decide +kernel
theorem y128_101 : decode (gb 128) 101 = .ok (.putfield 50, 3) := by decide +kernel
theorem yn_128_6_12 : gFin 128 6 12 := by decide +kernel
theorem y128_104 : decode (gb 128) 104 = .ok (.aload_n 0, 1) := by decide +kernel
theorem y128_105 : decode (gb 128) 105 = .ok (.bipush 8, 2) := by decide +kernel
theorem yf_7_53 : (7 * 1000 + 53, 6, 13, 450) ∈ gFL := by decide +kernel
theorem y128_107 : decode (gb 128) 107 = .ok (.putfield 53, 3) := by decide +kernel
theorem yn_128_6_13 : gFin 128 6 13 := by decide +kernel
theorem y128_110 : decode (gb 128) 110 = .ok (.aload_n 0, 1) := by decide +kernel
theorem y128_111 : decode (gb 128) 111 = .ok (.bipush 20, 2) := by decide +kernel
theorem yf_7_56 : (7 * 1000 + 56, 6, 15, 452) ∈ gFL := by decide +kernel
theorem y128_113 : decode (gb 128) 113 = .ok (.putfield 56, 3) := by decide +kernel
theorem yn_128_6_15 : gFin 128 6 15 := by decide +kernel
theorem y128_116 : decode (gb 128) 116 = .ok (.aload_n 0, 1) := by decide +kernel
theorem y128_117 : decode (gb 128) 117 = .ok (.aload_n 1, 1) := by decide +kernel
theorem yf_7_59 : (7 * 1000 + 59, 6, 0, 437) ∈ gFL := by decide +kernel
theorem y128_118 : decode (gb 128) 118 = .ok (.putfield 59, 3) := by decide +kernel
theorem yn_128_6_0 : gFin 128 6 0 := by decide +kernel
theorem y128_121 : decode (gb 128) 121 = .ok (.aload_n 0, 1) := by decide +kernel
theorem y128_122 : decode (gb 128) 122 = .ok (.aload_n 2, 1) := by decide +kernel
theorem yf_7_63 : (7 * 1000 + 63, 6, 1, 438) ∈ gFL := by decide +kernel
theorem y128_123 : decode (gb 128) 123 = .ok (.putfield 63, 3) := by decide +kernel
theorem yn_128_6_1 : gFin 128 6 1 := by decide +kernel
theorem y128_126 : decode (gb 128) 126 = .ok (.return_, 1) := by decide +kernel
theorem yr_128 : grt 128 = none := by decide +kernel
theorem yc_128 : gmc 128 = 20 := by decide +kernel
theorem ys_128 : gms 128 = 14358 := by decide +kernel
theorem yf_11_57 : (11 * 1000 + 57, 10, 6, 755) ∈ gFL := by decide +kernel
theorem y196_101 : decode (gb 196) 101 = .ok (.putfield 57, 3) := by decide +kernel
theorem yn_196_10_6 : gFin 196 10 6 := by decide +kernel
theorem y196_104 : decode (gb 196) 104 = .ok (.aload_n 0, 1) := by decide +kernel
theorem y196_105 : decode (gb 196) 105 = .ok (.new 61, 3) := by decide +kernel
theorem yw_11_61 : (11 * 1000 + 61, 3, 495, 496, 189) ∈ gNL := by decide +kernel
theorem yg_3 : gnf 3 = 19 := by decide +kernel
theorem y196_108 : decode (gb 196) 108 = .ok (.dup, 1) := by decide +kernel
theorem y196_109 : decode (gb 196) 109 = .ok (.aload_n 0, 1) := by decide +kernel
theorem y196_110 : decode (gb 196) 110 = .ok (.getfield 44, 3) := by decide +kernel
theorem y196_113 : decode (gb 196) 113 = .ok (.aload_n 1, 1) := by decide +kernel
theorem y196_114 : decode (gb 196) 114 = .ok (.invokespecial 63, 3) := by decide +kernel
theorem yl_11_63 : (11 * 1000 + 63, 2, 95, 2, 3, 497, 498, 0, 189) ∈ gCL := by decide +kernel
theorem y95_0 : decode (gb 95) 0 = .ok (.aload_n 0, 1) := by decide +kernel
theorem y95_1 : decode (gb 95) 1 = .ok (.invokespecial 1, 3) := by decide +kernel
theorem yj_4_1 : (4 * 1000 + 1, 500) ∈ gOL := by decide +kernel
theorem yo_95 : gown 95 = 4 := by decide +kernel
theorem y95_4 : decode (gb 95) 4 = .ok (.aload_n 0, 1) := by decide +kernel
theorem y95_5 : decode (gb 95) 5 = .ok (.new 7, 3) := by decide +kernel
theorem yw_4_7 : (4 * 1000 + 7, 1, 501, 206, 181) ∈ gNL := by decide +kernel
theorem y95_8 : decode (gb 95) 8 = .ok (.dup, 1) := by decide +kernel
theorem y95_9 : decode (gb 95) 9 = .ok (.bipush 64, 2) := by decide +kernel
theorem y95_11 : decode (gb 95) 11 = .ok (.invokespecial 11, 3) := by decide +kernel
theorem yl_4_11 : (4 * 1000 + 11, 2, 63, 1, 1, 502, 208, 0, 181) ∈ gCL := by decide +kernel
theorem yf_4_14 : (4 * 1000 + 14, 3, 2, 505) ∈ gFL := by decide +kernel
theorem y95_14 : decode (gb 95) 14 = .ok (.putfield 14, 3) := by decide +kernel
theorem yn_95_3_2 : gFin 95 3 2 := by decide +kernel
theorem y95_17 : decode (gb 95) 17 = .ok (.aload_n 0, 1) := by decide +kernel
theorem y95_18 : decode (gb 95) 18 = .ok (.new 7, 3) := by decide +kernel
theorem y95_21 : decode (gb 95) 21 = .ok (.dup, 1) := by decide +kernel
theorem y95_22 : decode (gb 95) 22 = .ok (.sipush 200, 3) := by decide +kernel
theorem y95_25 : decode (gb 95) 25 = .ok (.invokespecial 11, 3) := by decide +kernel
theorem yf_4_20 : (4 * 1000 + 20, 3, 3, 506) ∈ gFL := by decide +kernel
theorem y95_28 : decode (gb 95) 28 = .ok (.putfield 20, 3) := by decide +kernel
theorem yn_95_3_3 : gFin 95 3 3 := by decide +kernel
theorem y95_31 : decode (gb 95) 31 = .ok (.aload_n 0, 1) := by decide +kernel
theorem y95_32 : decode (gb 95) 32 = .ok (.new 7, 3) := by decide +kernel
theorem y95_35 : decode (gb 95) 35 = .ok (.dup, 1) := by decide +kernel
theorem y95_36 : decode (gb 95) 36 = .ok (.sipush 200, 3) := by decide +kernel
theorem y95_39 : decode (gb 95) 39 = .ok (.invokespecial 11, 3) := by decide +kernel
theorem yf_4_23 : (4 * 1000 + 23, 3, 4, 507) ∈ gFL := by decide +kernel
theorem y95_42 : decode (gb 95) 42 = .ok (.putfield 23, 3) := by decide +kernel
theorem yn_95_3_4 : gFin 95 3 4 := by decide +kernel
theorem y95_45 : decode (gb 95) 45 = .ok (.aload_n 0, 1) := by decide +kernel
theorem y95_46 : decode (gb 95) 46 = .ok (.iconst 2, 1) := by decide +kernel
theorem y95_47 : decode (gb 95) 47 = .ok (.newarray .int, 2) := by decide +kernel
theorem y95_49 : decode (gb 95) 49 = .ok (.dup, 1) := by decide +kernel
theorem y95_50 : decode (gb 95) 50 = .ok (.iconst 0, 1) := by decide +kernel
theorem y95_51 : decode (gb 95) 51 = .ok (.iconst (-1), 1) := by decide +kernel
theorem y95_52 : decode (gb 95) 52 = .ok (.iastore, 1) := by decide +kernel
theorem y95_53 : decode (gb 95) 53 = .ok (.dup, 1) := by decide +kernel
theorem y95_54 : decode (gb 95) 54 = .ok (.iconst 1, 1) := by decide +kernel
theorem y95_55 : decode (gb 95) 55 = .ok (.iconst (-1), 1) := by decide +kernel
theorem y95_56 : decode (gb 95) 56 = .ok (.iastore, 1) := by decide +kernel
theorem yf_4_26 : (4 * 1000 + 26, 3, 5, 508) ∈ gFL := by decide +kernel
theorem y95_57 : decode (gb 95) 57 = .ok (.putfield 26, 3) := by decide +kernel
theorem yn_95_3_5 : gFin 95 3 5 := by decide +kernel
theorem y95_60 : decode (gb 95) 60 = .ok (.aload_n 0, 1) := by decide +kernel
theorem y95_61 : decode (gb 95) 61 = .ok (.aload_n 1, 1) := by decide +kernel
theorem yf_4_30 : (4 * 1000 + 30, 3, 0, 503) ∈ gFL := by decide +kernel
theorem y95_62 : decode (gb 95) 62 = .ok (.putfield 30, 3) := by decide +kernel
theorem yn_95_3_0 : gFin 95 3 0 := by decide +kernel
theorem y95_65 : decode (gb 95) 65 = .ok (.aload_n 0, 1) := by decide +kernel
theorem y95_66 : decode (gb 95) 66 = .ok (.aload_n 2, 1) := by decide +kernel
theorem yf_4_34 : (4 * 1000 + 34, 3, 1, 504) ∈ gFL := by decide +kernel
theorem y95_67 : decode (gb 95) 67 = .ok (.putfield 34, 3) := by decide +kernel
theorem yn_95_3_1 : gFin 95 3 1 := by decide +kernel
theorem y95_70 : decode (gb 95) 70 = .ok (.return_, 1) := by decide +kernel
theorem yr_95 : grt 95 = none := by decide +kernel
theorem yc_95 : gmc 95 = 7 := by decide +kernel
theorem ys_95 : gms 95 = 3080 := by decide +kernel
theorem yf_11_66 : (11 * 1000 + 66, 10, 7, 756) ∈ gFL := by decide +kernel
theorem y196_117 : decode (gb 196) 117 = .ok (.putfield 66, 3) := by decide +kernel
theorem yn_196_10_7 : gFin 196 10 7 := by decide +kernel
theorem y196_120 : decode (gb 196) 120 = .ok (.aload_n 0, 1) := by decide +kernel
theorem y196_121 : decode (gb 196) 121 = .ok (.new 70, 3) := by decide +kernel
theorem yw_11_70 : (11 * 1000 + 70, 5, 569, 570, 190) ∈ gNL := by decide +kernel
theorem yg_5 : gnf 5 = 18 := by decide +kernel
theorem y196_124 : decode (gb 196) 124 = .ok (.dup, 1) := by decide +kernel
theorem y196_125 : decode (gb 196) 125 = .ok (.aload_n 0, 1) := by decide +kernel
theorem y196_126 : decode (gb 196) 126 = .ok (.getfield 31, 3) := by decide +kernel
theorem y196_129 : decode (gb 196) 129 = .ok (.aload_n 1, 1) := by decide +kernel
theorem y196_130 : decode (gb 196) 130 = .ok (.invokespecial 72, 3) := by decide +kernel
theorem yl_11_72 : (11 * 1000 + 72, 2, 116, 2, 5, 571, 572, 0, 190) ∈ gCL := by decide +kernel
theorem y116_0 : decode (gb 116) 0 = .ok (.aload_n 0, 1) := by decide +kernel
theorem y116_1 : decode (gb 116) 1 = .ok (.invokespecial 1, 3) := by decide +kernel
theorem yj_6_1 : (6 * 1000 + 1, 574) ∈ gOL := by decide +kernel
theorem yo_116 : gown 116 = 6 := by decide +kernel
theorem y116_4 : decode (gb 116) 4 = .ok (.aload_n 0, 1) := by decide +kernel
theorem y116_5 : decode (gb 116) 5 = .ok (.iconst 2, 1) := by decide +kernel
theorem y116_6 : decode (gb 116) 6 = .ok (.anewarray 7, 3) := by decide +kernel
theorem ya_6_7 : (6 * 1000 + 7, 1 + 4, 575, 576) ∈ gAL := by decide +kernel
theorem y116_9 : decode (gb 116) 9 = .ok (.dup, 1) := by decide +kernel
theorem y116_10 : decode (gb 116) 10 = .ok (.iconst 0, 1) := by decide +kernel
theorem y116_11 : decode (gb 116) 11 = .ok (.new 7, 3) := by decide +kernel
theorem yw_6_7 : (6 * 1000 + 7, 8, 575, 577, 191) ∈ gNL := by decide +kernel
theorem yg_8 : gnf 8 = 6 := by decide +kernel
theorem y116_14 : decode (gb 116) 14 = .ok (.dup, 1) := by decide +kernel
theorem y116_15 : decode (gb 116) 15 = .ok (.invokespecial 9, 3) := by decide +kernel
theorem yl_6_9 : (6 * 1000 + 9, 3, 173, 0, 8, 578, 579, 0, 191) ∈ gCL := by decide +kernel
theorem y173_0 : decode (gb 173) 0 = .ok (.aload_n 0, 1) := by decide +kernel
theorem y173_1 : decode (gb 173) 1 = .ok (.invokespecial 1, 3) := by decide +kernel
theorem yj_9_1 : (9 * 1000 + 1, 581) ∈ gOL := by decide +kernel
theorem yo_173 : gown 173 = 9 := by decide +kernel
theorem y173_4 : decode (gb 173) 4 = .ok (.aload_n 0, 1) := by decide +kernel
theorem y173_5 : decode (gb 173) 5 = .ok (.new 7, 3) := by decide +kernel
theorem yw_9_7 : (9 * 1000 + 7, 7, 582, 340, 186) ∈ gNL := by decide +kernel
theorem y173_8 : decode (gb 173) 8 = .ok (.dup, 1) := by decide +kernel
theorem y173_9 : decode (gb 173) 9 = .ok (.bipush 80, 2) := by decide +kernel
theorem y173_11 : decode (gb 173) 11 = .ok (.sipush 1200, 3) := by decide +kernel
theorem y173_14 : decode (gb 173) 14 = .ok (.invokespecial 11, 3) := by decide +kernel
theorem yl_9_11 : (9 * 1000 + 11, 2, 157, 2, 7, 583, 342, 0, 186) ∈ gCL := by decide +kernel
theorem yf_9_14 : (9 * 1000 + 14, 8, 0, 584) ∈ gFL := by decide +kernel
theorem y173_17 : decode (gb 173) 17 = .ok (.putfield 14, 3) := by decide +kernel
theorem yn_173_8_0 : gFin 173 8 0 := by decide +kernel
theorem y173_20 : decode (gb 173) 20 = .ok (.aload_n 0, 1) := by decide +kernel
theorem y173_21 : decode (gb 173) 21 = .ok (.bipush 6, 2) := by decide +kernel
theorem y173_23 : decode (gb 173) 23 = .ok (.newarray .int, 2) := by decide +kernel
theorem yf_9_18 : (9 * 1000 + 18, 8, 1, 587) ∈ gFL := by decide +kernel
theorem y173_25 : decode (gb 173) 25 = .ok (.putfield 18, 3) := by decide +kernel
theorem yn_173_8_1 : gFin 173 8 1 := by decide +kernel
theorem y173_28 : decode (gb 173) 28 = .ok (.return_, 1) := by decide +kernel
theorem yr_173 : grt 173 = none := by decide +kernel
theorem yc_173 : gmc 173 = 7 := by decide +kernel
theorem ys_173 : gms 173 = 5133 := by decide +kernel
theorem ye_6_9 : (6 * 1000 + 9, 173) ∈ gEL := by decide +kernel
theorem y116_18 : decode (gb 116) 18 = .ok (.aastore, 1) := by decide +kernel
theorem y116_19 : decode (gb 116) 19 = .ok (.dup, 1) := by decide +kernel
theorem y116_20 : decode (gb 116) 20 = .ok (.iconst 1, 1) := by decide +kernel
theorem y116_21 : decode (gb 116) 21 = .ok (.new 7, 3) := by decide +kernel
theorem y116_24 : decode (gb 116) 24 = .ok (.dup, 1) := by decide +kernel
theorem y116_25 : decode (gb 116) 25 = .ok (.invokespecial 9, 3) := by decide +kernel
theorem y116_28 : decode (gb 116) 28 = .ok (.aastore, 1) := by decide +kernel
theorem yf_6_10 : (6 * 1000 + 10, 5, 2, 617) ∈ gFL := by decide +kernel
theorem y116_29 : decode (gb 116) 29 = .ok (.putfield 10, 3) := by decide +kernel
theorem yn_116_5_2 : gFin 116 5 2 := by decide +kernel
theorem y116_32 : decode (gb 116) 32 = .ok (.aload_n 0, 1) := by decide +kernel
theorem y116_33 : decode (gb 116) 33 = .ok (.new 16, 3) := by decide +kernel
theorem yw_6_16 : (6 * 1000 + 16, 7, 610, 340, 186) ∈ gNL := by decide +kernel
theorem y116_36 : decode (gb 116) 36 = .ok (.dup, 1) := by decide +kernel
theorem y116_37 : decode (gb 116) 37 = .ok (.bipush 24, 2) := by decide +kernel
theorem y116_39 : decode (gb 116) 39 = .ok (.sipush 1968, 3) := by decide +kernel
theorem y116_42 : decode (gb 116) 42 = .ok (.invokespecial 18, 3) := by decide +kernel
theorem yl_6_18 : (6 * 1000 + 18, 2, 157, 2, 7, 611, 342, 0, 186) ∈ gCL := by decide +kernel
theorem yf_6_21 : (6 * 1000 + 21, 5, 3, 620) ∈ gFL := by decide +kernel
theorem y116_45 : decode (gb 116) 45 = .ok (.putfield 21, 3) := by decide +kernel
theorem yn_116_5_3 : gFin 116 5 3 := by decide +kernel
theorem y116_48 : decode (gb 116) 48 = .ok (.aload_n 0, 1) := by decide +kernel
theorem y116_49 : decode (gb 116) 49 = .ok (.new 16, 3) := by decide +kernel
theorem y116_52 : decode (gb 116) 52 = .ok (.dup, 1) := by decide +kernel
theorem y116_53 : decode (gb 116) 53 = .ok (.bipush 40, 2) := by decide +kernel
theorem y116_55 : decode (gb 116) 55 = .ok (.sipush 1200, 3) := by decide +kernel
theorem y116_58 : decode (gb 116) 58 = .ok (.invokespecial 18, 3) := by decide +kernel
theorem yf_6_25 : (6 * 1000 + 25, 5, 4, 622) ∈ gFL := by decide +kernel
theorem y116_61 : decode (gb 116) 61 = .ok (.putfield 25, 3) := by decide +kernel
theorem yn_116_5_4 : gFin 116 5 4 := by decide +kernel
theorem y116_64 : decode (gb 116) 64 = .ok (.aload_n 0, 1) := by decide +kernel
theorem y116_65 : decode (gb 116) 65 = .ok (.new 28, 3) := by decide +kernel
theorem yw_6_28 : (6 * 1000 + 28, 1, 612, 206, 181) ∈ gNL := by decide +kernel
theorem y116_68 : decode (gb 116) 68 = .ok (.dup, 1) := by decide +kernel
theorem y116_69 : decode (gb 116) 69 = .ok (.bipush 82, 2) := by decide +kernel
theorem y116_71 : decode (gb 116) 71 = .ok (.invokespecial 30, 3) := by decide +kernel
theorem yl_6_30 : (6 * 1000 + 30, 2, 63, 1, 1, 613, 208, 0, 181) ∈ gCL := by decide +kernel
theorem yf_6_33 : (6 * 1000 + 33, 5, 5, 625) ∈ gFL := by decide +kernel
theorem y116_74 : decode (gb 116) 74 = .ok (.putfield 33, 3) := by decide +kernel
theorem yn_116_5_5 : gFin 116 5 5 := by decide +kernel
theorem y116_77 : decode (gb 116) 77 = .ok (.aload_n 0, 1) := by decide +kernel
theorem y116_78 : decode (gb 116) 78 = .ok (.iconst 2, 1) := by decide +kernel
theorem y116_79 : decode (gb 116) 79 = .ok (.anewarray 28, 3) := by decide +kernel
theorem ya_6_28 : (6 * 1000 + 28, 0 + 4, 612, 614) ∈ gAL := by decide +kernel
theorem y116_82 : decode (gb 116) 82 = .ok (.dup, 1) := by decide +kernel
theorem y116_83 : decode (gb 116) 83 = .ok (.iconst 0, 1) := by decide +kernel
theorem y116_84 : decode (gb 116) 84 = .ok (.new 28, 3) := by decide +kernel
theorem y116_87 : decode (gb 116) 87 = .ok (.dup, 1) := by decide +kernel
theorem y116_88 : decode (gb 116) 88 = .ok (.bipush 82, 2) := by decide +kernel
theorem y116_90 : decode (gb 116) 90 = .ok (.invokespecial 30, 3) := by decide +kernel
theorem y116_93 : decode (gb 116) 93 = .ok (.aastore, 1) := by decide +kernel
theorem y116_94 : decode (gb 116) 94 = .ok (.dup, 1) := by decide +kernel
theorem y116_95 : decode (gb 116) 95 = .ok (.iconst 1, 1) := by decide +kernel
theorem y116_96 : decode (gb 116) 96 = .ok (.new 28, 3) := by decide +kernel
theorem y116_99 : decode (gb 116) 99 = .ok (.dup, 1) := by decide +kernel
theorem y116_100 : decode (gb 116) 100 = .ok (.bipush 82, 2) := by decide +kernel
theorem y116_102 : decode (gb 116) 102 = .ok (.invokespecial 30, 3) := by decide +kernel
theorem y116_105 : decode (gb 116) 105 = .ok (.aastore, 1) := by decide +kernel
theorem yf_6_37 : (6 * 1000 + 37, 5, 6, 627) ∈ gFL := by decide +kernel
theorem y116_106 : decode (gb 116) 106 = .ok (.putfield 37, 3) := by decide +kernel
theorem yn_116_5_6 : gFin 116 5 6 := by decide +kernel
theorem y116_109 : decode (gb 116) 109 = .ok (.aload_n 0, 1) := by decide +kernel
theorem y116_110 : decode (gb 116) 110 = .ok (.iconst 2, 1) := by decide +kernel
theorem y116_111 : decode (gb 116) 111 = .ok (.newarray .int, 2) := by decide +kernel
theorem yf_6_41 : (6 * 1000 + 41, 5, 7, 628) ∈ gFL := by decide +kernel
theorem y116_113 : decode (gb 116) 113 = .ok (.putfield 41, 3) := by decide +kernel
theorem yn_116_5_7 : gFin 116 5 7 := by decide +kernel
theorem y116_116 : decode (gb 116) 116 = .ok (.aload_n 0, 1) := by decide +kernel
theorem y116_117 : decode (gb 116) 117 = .ok (.iconst 2, 1) := by decide +kernel
theorem y116_118 : decode (gb 116) 118 = .ok (.newarray .int, 2) := by decide +kernel
theorem yf_6_45 : (6 * 1000 + 45, 5, 8, 629) ∈ gFL := by decide +kernel
theorem y116_120 : decode (gb 116) 120 = .ok (.putfield 45, 3) := by decide +kernel
theorem yn_116_5_8 : gFin 116 5 8 := by decide +kernel
theorem y116_123 : decode (gb 116) 123 = .ok (.aload_n 0, 1) := by decide +kernel
theorem y116_124 : decode (gb 116) 124 = .ok (.bipush 8, 2) := by decide +kernel
theorem y116_126 : decode (gb 116) 126 = .ok (.newarray .int, 2) := by decide +kernel
theorem yf_6_48 : (6 * 1000 + 48, 5, 9, 630) ∈ gFL := by decide +kernel
theorem y116_128 : decode (gb 116) 128 = .ok (.putfield 48, 3) := by decide +kernel
theorem yn_116_5_9 : gFin 116 5 9 := by decide +kernel
theorem y116_131 : decode (gb 116) 131 = .ok (.aload_n 0, 1) := by decide +kernel
theorem y116_132 : decode (gb 116) 132 = .ok (.new 28, 3) := by decide +kernel
theorem y116_135 : decode (gb 116) 135 = .ok (.dup, 1) := by decide +kernel
theorem y116_136 : decode (gb 116) 136 = .ok (.bipush 64, 2) := by decide +kernel
theorem y116_138 : decode (gb 116) 138 = .ok (.invokespecial 30, 3) := by decide +kernel
theorem yf_6_51 : (6 * 1000 + 51, 5, 10, 631) ∈ gFL := by decide +kernel
theorem y116_141 : decode (gb 116) 141 = .ok (.putfield 51, 3) := by decide +kernel
theorem yn_116_5_10 : gFin 116 5 10 := by decide +kernel
theorem y116_144 : decode (gb 116) 144 = .ok (.aload_n 0, 1) := by decide +kernel
theorem y116_145 : decode (gb 116) 145 = .ok (.new 28, 3) := by decide +kernel
theorem y116_148 : decode (gb 116) 148 = .ok (.dup, 1) := by decide +kernel
theorem y116_149 : decode (gb 116) 149 = .ok (.bipush 68, 2) := by decide +kernel
theorem y116_151 : decode (gb 116) 151 = .ok (.invokespecial 30, 3) := by decide +kernel
theorem yf_6_54 : (6 * 1000 + 54, 5, 11, 632) ∈ gFL := by decide +kernel
theorem y116_154 : decode (gb 116) 154 = .ok (.putfield 54, 3) := by decide +kernel
theorem yn_116_5_11 : gFin 116 5 11 := by decide +kernel
theorem y116_157 : decode (gb 116) 157 = .ok (.aload_n 0, 1) := by decide +kernel
theorem y116_158 : decode (gb 116) 158 = .ok (.aload_n 1, 1) := by decide +kernel
theorem yf_6_57 : (6 * 1000 + 57, 5, 0, 615) ∈ gFL := by decide +kernel
theorem y116_159 : decode (gb 116) 159 = .ok (.putfield 57, 3) := by decide +kernel
theorem yn_116_5_0 : gFin 116 5 0 := by decide +kernel
theorem y116_162 : decode (gb 116) 162 = .ok (.aload_n 0, 1) := by decide +kernel
theorem y116_163 : decode (gb 116) 163 = .ok (.aload_n 2, 1) := by decide +kernel
theorem yf_6_61 : (6 * 1000 + 61, 5, 1, 616) ∈ gFL := by decide +kernel
theorem y116_164 : decode (gb 116) 164 = .ok (.putfield 61, 3) := by decide +kernel
theorem yn_116_5_1 : gFin 116 5 1 := by decide +kernel
theorem y116_167 : decode (gb 116) 167 = .ok (.return_, 1) := by decide +kernel
theorem yr_116 : grt 116 = none := by decide +kernel
theorem yc_116 : gmc 116 = 43 := by decide +kernel
theorem ys_116 : gms 116 = 25678 := by decide +kernel
theorem yf_11_75 : (11 * 1000 + 75, 10, 8, 757) ∈ gFL := by decide +kernel
theorem y196_133 : decode (gb 196) 133 = .ok (.putfield 75, 3) := by decide +kernel
theorem yn_196_10_8 : gFin 196 10 8 := by decide +kernel
theorem y196_136 : decode (gb 196) 136 = .ok (.aload_n 0, 1) := by decide +kernel
theorem y196_137 : decode (gb 196) 137 = .ok (.new 79, 3) := by decide +kernel
theorem yw_11_79 : (11 * 1000 + 79, 0, 680, 681, 192) ∈ gNL := by decide +kernel
theorem yg_0 : gnf 0 = 14 := by decide +kernel
theorem y196_140 : decode (gb 196) 140 = .ok (.dup, 1) := by decide +kernel
theorem y196_141 : decode (gb 196) 141 = .ok (.aload_n 0, 1) := by decide +kernel
theorem y196_142 : decode (gb 196) 142 = .ok (.getfield 75, 3) := by decide +kernel
theorem y196_145 : decode (gb 196) 145 = .ok (.aload_n 0, 1) := by decide +kernel
theorem y196_146 : decode (gb 196) 146 = .ok (.getfield 37, 3) := by decide +kernel
theorem y196_149 : decode (gb 196) 149 = .ok (.invokespecial 81, 3) := by decide +kernel
theorem yl_11_81 : (11 * 1000 + 81, 2, 4, 2, 0, 682, 683, 0, 192) ∈ gCL := by decide +kernel
theorem y4_0 : decode (gb 4) 0 = .ok (.aload_n 0, 1) := by decide +kernel
theorem y4_1 : decode (gb 4) 1 = .ok (.invokespecial 3, 3) := by decide +kernel
theorem yj_1_3 : (1 * 1000 + 3, 685) ∈ gOL := by decide +kernel
theorem yo_4 : gown 4 = 1 := by decide +kernel
theorem y4_4 : decode (gb 4) 4 = .ok (.aload_n 0, 1) := by decide +kernel
theorem y4_5 : decode (gb 4) 5 = .ok (.new 9, 3) := by decide +kernel
theorem yw_1_9 : (1 * 1000 + 9, 7, 686, 340, 186) ∈ gNL := by decide +kernel
theorem y4_8 : decode (gb 4) 8 = .ok (.dup, 1) := by decide +kernel
theorem y4_9 : decode (gb 4) 9 = .ok (.bipush 8, 2) := by decide +kernel
theorem y4_11 : decode (gb 4) 11 = .ok (.sipush 480, 3) := by decide +kernel
theorem y4_14 : decode (gb 4) 14 = .ok (.invokespecial 13, 3) := by decide +kernel
theorem yl_1_13 : (1 * 1000 + 13, 2, 157, 2, 7, 687, 342, 0, 186) ∈ gCL := by decide +kernel
theorem yf_1_16 : (1 * 1000 + 16, 0, 2, 700) ∈ gFL := by decide +kernel
theorem y4_17 : decode (gb 4) 17 = .ok (.putfield 16, 3) := by decide +kernel
theorem yn_4_0_2 : gFin 4 0 2 := by decide +kernel
theorem y4_20 : decode (gb 4) 20 = .ok (.aload_n 0, 1) := by decide +kernel
theorem y4_21 : decode (gb 4) 21 = .ok (.new 9, 3) := by decide +kernel
theorem y4_24 : decode (gb 4) 24 = .ok (.dup, 1) := by decide +kernel
theorem y4_25 : decode (gb 4) 25 = .ok (.bipush 16, 2) := by decide +kernel
theorem y4_27 : decode (gb 4) 27 = .ok (.sipush 640, 3) := by decide +kernel
theorem y4_30 : decode (gb 4) 30 = .ok (.invokespecial 13, 3) := by decide +kernel
theorem yf_1_20 : (1 * 1000 + 20, 0, 3, 702) ∈ gFL := by decide +kernel
theorem y4_33 : decode (gb 4) 33 = .ok (.putfield 20, 3) := by decide +kernel
theorem yn_4_0_3 : gFin 4 0 3 := by decide +kernel
theorem y4_36 : decode (gb 4) 36 = .ok (.aload_n 0, 1) := by decide +kernel
theorem y4_37 : decode (gb 4) 37 = .ok (.new 9, 3) := by decide +kernel
theorem y4_40 : decode (gb 4) 40 = .ok (.dup, 1) := by decide +kernel
theorem y4_41 : decode (gb 4) 41 = .ok (.bipush 32, 2) := by decide +kernel
theorem y4_43 : decode (gb 4) 43 = .ok (.sipush 1280, 3) := by decide +kernel
theorem y4_46 : decode (gb 4) 46 = .ok (.invokespecial 13, 3) := by decide +kernel
theorem yf_1_23 : (1 * 1000 + 23, 0, 4, 704) ∈ gFL := by decide +kernel
theorem y4_49 : decode (gb 4) 49 = .ok (.putfield 23, 3) := by decide +kernel
theorem yn_4_0_4 : gFin 4 0 4 := by decide +kernel
theorem y4_52 : decode (gb 4) 52 = .ok (.aload_n 0, 1) := by decide +kernel
theorem y4_53 : decode (gb 4) 53 = .ok (.new 26, 3) := by decide +kernel
theorem yw_1_26 : (1 * 1000 + 26, 1, 688, 206, 181) ∈ gNL := by decide +kernel
theorem y4_56 : decode (gb 4) 56 = .ok (.dup, 1) := by decide +kernel
theorem y4_57 : decode (gb 4) 57 = .ok (.bipush 60, 2) := by decide +kernel
theorem y4_59 : decode (gb 4) 59 = .ok (.invokespecial 28, 3) := by decide +kernel
theorem yl_1_28 : (1 * 1000 + 28, 2, 63, 1, 1, 689, 208, 0, 181) ∈ gCL := by decide +kernel
theorem yf_1_31 : (1 * 1000 + 31, 0, 5, 706) ∈ gFL := by decide +kernel
theorem y4_62 : decode (gb 4) 62 = .ok (.putfield 31, 3) := by decide +kernel
theorem yn_4_0_5 : gFin 4 0 5 := by decide +kernel
theorem y4_65 : decode (gb 4) 65 = .ok (.aload_n 0, 1) := by decide +kernel
theorem y4_66 : decode (gb 4) 66 = .ok (.new 26, 3) := by decide +kernel
theorem y4_69 : decode (gb 4) 69 = .ok (.dup, 1) := by decide +kernel
theorem y4_70 : decode (gb 4) 70 = .ok (.bipush 60, 2) := by decide +kernel
theorem y4_72 : decode (gb 4) 72 = .ok (.invokespecial 28, 3) := by decide +kernel
theorem yf_1_35 : (1 * 1000 + 35, 0, 6, 708) ∈ gFL := by decide +kernel
theorem y4_75 : decode (gb 4) 75 = .ok (.putfield 35, 3) := by decide +kernel
theorem yn_4_0_6 : gFin 4 0 6 := by decide +kernel
theorem y4_78 : decode (gb 4) 78 = .ok (.aload_n 0, 1) := by decide +kernel
theorem y4_79 : decode (gb 4) 79 = .ok (.bipush 24, 2) := by decide +kernel
theorem y4_81 : decode (gb 4) 81 = .ok (.newarray .int, 2) := by decide +kernel
theorem yf_1_38 : (1 * 1000 + 38, 0, 7, 709) ∈ gFL := by decide +kernel
theorem y4_83 : decode (gb 4) 83 = .ok (.putfield 38, 3) := by decide +kernel
theorem yn_4_0_7 : gFin 4 0 7 := by decide +kernel
theorem y4_86 : decode (gb 4) 86 = .ok (.aload_n 0, 1) := by decide +kernel
theorem y4_87 : decode (gb 4) 87 = .ok (.bipush 78, 2) := by decide +kernel
theorem y4_89 : decode (gb 4) 89 = .ok (.newarray .int, 2) := by decide +kernel
theorem yf_1_42 : (1 * 1000 + 42, 0, 8, 711) ∈ gFL := by decide +kernel
theorem y4_91 : decode (gb 4) 91 = .ok (.putfield 42, 3) := by decide +kernel
theorem yn_4_0_8 : gFin 4 0 8 := by decide +kernel
theorem y4_94 : decode (gb 4) 94 = .ok (.aload_n 0, 1) := by decide +kernel
theorem y4_95 : decode (gb 4) 95 = .ok (.bipush 48, 2) := by decide +kernel
theorem y4_97 : decode (gb 4) 97 = .ok (.newarray .int, 2) := by decide +kernel
theorem yf_1_45 : (1 * 1000 + 45, 0, 9, 713) ∈ gFL := by decide +kernel
theorem y4_99 : decode (gb 4) 99 = .ok (.putfield 45, 3) := by decide +kernel
theorem yn_4_0_9 : gFin 4 0 9 := by decide +kernel
theorem y4_102 : decode (gb 4) 102 = .ok (.aload_n 0, 1) := by decide +kernel
theorem y4_103 : decode (gb 4) 103 = .ok (.new 26, 3) := by decide +kernel
theorem y4_106 : decode (gb 4) 106 = .ok (.dup, 1) := by decide +kernel
theorem y4_107 : decode (gb 4) 107 = .ok (.sipush 1024, 3) := by decide +kernel
theorem y4_110 : decode (gb 4) 110 = .ok (.invokespecial 28, 3) := by decide +kernel
theorem yf_1_48 : (1 * 1000 + 48, 0, 10, 715) ∈ gFL := by decide +kernel
theorem y4_113 : decode (gb 4) 113 = .ok (.putfield 48, 3) := by decide +kernel
theorem yn_4_0_10 : gFin 4 0 10 := by decide +kernel
theorem y4_116 : decode (gb 4) 116 = .ok (.aload_n 0, 1) := by decide +kernel
theorem y4_117 : decode (gb 4) 117 = .ok (.aload_n 1, 1) := by decide +kernel
theorem yf_1_51 : (1 * 1000 + 51, 0, 0, 698) ∈ gFL := by decide +kernel
theorem y4_118 : decode (gb 4) 118 = .ok (.putfield 51, 3) := by decide +kernel
theorem yn_4_0_0 : gFin 4 0 0 := by decide +kernel
theorem y4_121 : decode (gb 4) 121 = .ok (.aload_n 0, 1) := by decide +kernel
theorem y4_122 : decode (gb 4) 122 = .ok (.aload_n 2, 1) := by decide +kernel
theorem yf_1_55 : (1 * 1000 + 55, 0, 1, 699) ∈ gFL := by decide +kernel
theorem y4_123 : decode (gb 4) 123 = .ok (.putfield 55, 3) := by decide +kernel
theorem yn_4_0_1 : gFin 4 0 1 := by decide +kernel
theorem y4_126 : decode (gb 4) 126 = .ok (.aload_n 0, 1) := by decide +kernel
theorem y4_127 : decode (gb 4) 127 = .ok (.getfield 48, 3) := by decide +kernel
theorem y4_130 : decode (gb 4) 130 = .ok (.iconst 0, 1) := by decide +kernel
theorem y4_131 : decode (gb 4) 131 = .ok (.sipush 1024, 3) := by decide +kernel
theorem y4_134 : decode (gb 4) 134 = .ok (.invokevirtual 59, 3) := by decide +kernel
theorem yl_1_59 : (1 * 1000 + 59, 1, 69, 2, 1, 690, 691, 692, 181) ∈ gCL := by decide +kernel
theorem yc_69 : gmc 69 = 0 := by decide +kernel
theorem ys_69 : gms 69 = 0 := by decide +kernel
theorem y4_137 : decode (gb 4) 137 = .ok (.return_, 1) := by decide +kernel
theorem yr_4 : grt 4 = none := by decide +kernel
theorem yc_4 : gmc 4 = 27 := by decide +kernel
theorem ys_4 : gms 4 = 18609 := by decide +kernel
theorem yf_11_84 : (11 * 1000 + 84, 10, 9, 758) ∈ gFL := by decide +kernel
theorem y196_152 : decode (gb 196) 152 = .ok (.putfield 84, 3) := by decide +kernel
theorem yn_196_10_9 : gFin 196 10 9 := by decide +kernel
theorem y196_155 : decode (gb 196) 155 = .ok (.return_, 1) := by decide +kernel
theorem yr_196 : grt 196 = none := by decide +kernel
theorem y362_0 : decode (gb 362) 0 = .ok (.aload_n 0, 1) := by decide +kernel
theorem y362_1 : decode (gb 362) 1 = .ok (.invokespecial 760, 3) := by decide +kernel
theorem yj_12_760 : (12 * 1000 + 760, 2299) ∈ gOL := by decide +kernel
theorem yo_362 : gown 362 = 12 := by decide +kernel
theorem y362_4 : decode (gb 362) 4 = .ok (.aload_n 0, 1) := by decide +kernel
theorem y362_5 : decode (gb 362) 5 = .ok (.sipush 256, 3) := by decide +kernel
theorem y362_8 : decode (gb 362) 8 = .ok (.newarray .int, 2) := by decide +kernel
theorem yf_12_7 : (12 * 1000 + 7, 11, 0, 2304) ∈ gFL := by decide +kernel
theorem y362_10 : decode (gb 362) 10 = .ok (.putfield 7, 3) := by decide +kernel
theorem yn_362_11_0 : gFin 362 11 0 := by decide +kernel
theorem y362_13 : decode (gb 362) 13 = .ok (.aload_n 0, 1) := by decide +kernel
theorem y362_14 : decode (gb 362) 14 = .ok (.sipush 160, 3) := by decide +kernel
theorem y362_17 : decode (gb 362) 17 = .ok (.newarray .int, 2) := by decide +kernel
theorem yf_12_27 : (12 * 1000 + 27, 11, 2, 2306) ∈ gFL := by decide +kernel
theorem y362_19 : decode (gb 362) 19 = .ok (.putfield 27, 3) := by decide +kernel
theorem yn_362_11_2 : gFin 362 11 2 := by decide +kernel
theorem y362_22 : decode (gb 362) 22 = .ok (.aload_n 0, 1) := by decide +kernel
theorem y362_23 : decode (gb 362) 23 = .ok (.sipush 128, 3) := by decide +kernel
theorem y362_26 : decode (gb 362) 26 = .ok (.newarray .int, 2) := by decide +kernel
theorem yf_12_24 : (12 * 1000 + 24, 11, 3, 2307) ∈ gFL := by decide +kernel
theorem y362_28 : decode (gb 362) 28 = .ok (.putfield 24, 3) := by decide +kernel
theorem yn_362_11_3 : gFin 362 11 3 := by decide +kernel
theorem y362_31 : decode (gb 362) 31 = .ok (.aload_n 0, 1) := by decide +kernel
theorem y362_32 : decode (gb 362) 32 = .ok (.sipush 200, 3) := by decide +kernel
theorem y362_35 : decode (gb 362) 35 = .ok (.newarray .int, 2) := by decide +kernel
theorem yf_12_40 : (12 * 1000 + 40, 11, 4, 2308) ∈ gFL := by decide +kernel
theorem y362_37 : decode (gb 362) 37 = .ok (.putfield 40, 3) := by decide +kernel
theorem yn_362_11_4 : gFin 362 11 4 := by decide +kernel
theorem y362_40 : decode (gb 362) 40 = .ok (.aload_n 0, 1) := by decide +kernel
theorem y362_41 : decode (gb 362) 41 = .ok (.sipush 32000, 3) := by decide +kernel
theorem y362_44 : decode (gb 362) 44 = .ok (.newarray .boolean, 2) := by decide +kernel
theorem yf_12_46 : (12 * 1000 + 46, 11, 5, 2309) ∈ gFL := by decide +kernel
theorem y362_46 : decode (gb 362) 46 = .ok (.putfield 46, 3) := by decide +kernel
theorem yn_362_11_5 : gFin 362 11 5 := by decide +kernel
theorem y362_49 : decode (gb 362) 49 = .ok (.aload_n 0, 1) := by decide +kernel
theorem y362_50 : decode (gb 362) 50 = .ok (.ldc 53, 2) := by decide +kernel
theorem yk_362_53 : (gown 362 * 1000 + 53, .int (64000), 1907) ∈ gKL := by decide +kernel
theorem y362_52 : decode (gb 362) 52 = .ok (.newarray .boolean, 2) := by decide +kernel
theorem yf_12_50 : (12 * 1000 + 50, 11, 6, 2310) ∈ gFL := by decide +kernel
theorem y362_54 : decode (gb 362) 54 = .ok (.putfield 50, 3) := by decide +kernel
theorem yn_362_11_6 : gFin 362 11 6 := by decide +kernel
theorem y362_57 : decode (gb 362) 57 = .ok (.aload_n 0, 1) := by decide +kernel
theorem y362_58 : decode (gb 362) 58 = .ok (.iconst 2, 1) := by decide +kernel
theorem y362_59 : decode (gb 362) 59 = .ok (.newarray .int, 2) := by decide +kernel
theorem yf_12_54 : (12 * 1000 + 54, 11, 7, 2311) ∈ gFL := by decide +kernel
theorem y362_61 : decode (gb 362) 61 = .ok (.putfield 54, 3) := by decide +kernel
theorem yn_362_11_7 : gFin 362 11 7 := by decide +kernel
theorem y362_64 : decode (gb 362) 64 = .ok (.aload_n 0, 1) := by decide +kernel
theorem y362_65 : decode (gb 362) 65 = .ok (.ldc 53, 2) := by decide +kernel
theorem y362_67 : decode (gb 362) 67 = .ok (.newarray .boolean, 2) := by decide +kernel
theorem yf_12_77 : (12 * 1000 + 77, 11, 8, 2312) ∈ gFL := by decide +kernel
theorem y362_69 : decode (gb 362) 69 = .ok (.putfield 77, 3) := by decide +kernel
theorem yn_362_11_8 : gFin 362 11 8 := by decide +kernel
theorem y362_72 : decode (gb 362) 72 = .ok (.aload_n 0, 1) := by decide +kernel
theorem y362_73 : decode (gb 362) 73 = .ok (.bipush 8, 2) := by decide +kernel
theorem y362_75 : decode (gb 362) 75 = .ok (.newarray .int, 2) := by decide +kernel
theorem yf_12_113 : (12 * 1000 + 113, 11, 12, 2316) ∈ gFL := by decide +kernel
theorem y362_77 : decode (gb 362) 77 = .ok (.putfield 113, 3) := by decide +kernel
theorem yn_362_11_12 : gFin 362 11 12 := by decide +kernel
theorem y362_80 : decode (gb 362) 80 = .ok (.aload_n 0, 1) := by decide +kernel
theorem y362_81 : decode (gb 362) 81 = .ok (.sipush 128, 3) := by decide +kernel
theorem y362_84 : decode (gb 362) 84 = .ok (.newarray .int, 2) := by decide +kernel
theorem yf_12_123 : (12 * 1000 + 123, 11, 15, 2319) ∈ gFL := by decide +kernel
theorem y362_86 : decode (gb 362) 86 = .ok (.putfield 123, 3) := by decide +kernel
theorem yn_362_11_15 : gFin 362 11 15 := by decide +kernel
theorem y362_89 : decode (gb 362) 89 = .ok (.aload_n 0, 1) := by decide +kernel
theorem y362_90 : decode (gb 362) 90 = .ok (.bipush 16, 2) := by decide +kernel
theorem yf_12_161 : (12 * 1000 + 161, 11, 24, 2328) ∈ gFL := by decide +kernel
theorem y362_92 : decode (gb 362) 92 = .ok (.putfield 161, 3) := by decide +kernel
theorem yn_362_11_24 : gFin 362 11 24 := by decide +kernel
theorem y362_95 : decode (gb 362) 95 = .ok (.aload_n 0, 1) := by decide +kernel
theorem y362_96 : decode (gb 362) 96 = .ok (.sipush 300, 3) := by decide +kernel
theorem y362_99 : decode (gb 362) 99 = .ok (.newarray .int, 2) := by decide +kernel
theorem yf_12_167 : (12 * 1000 + 167, 11, 26, 2330) ∈ gFL := by decide +kernel
theorem y362_101 : decode (gb 362) 101 = .ok (.putfield 167, 3) := by decide +kernel
theorem yn_362_11_26 : gFin 362 11 26 := by decide +kernel
theorem y362_104 : decode (gb 362) 104 = .ok (.aload_n 0, 1) := by decide +kernel
theorem y362_105 : decode (gb 362) 105 = .ok (.bipush 6, 2) := by decide +kernel
theorem yf_12_195 : (12 * 1000 + 195, 11, 28, 2332) ∈ gFL := by decide +kernel
theorem y362_107 : decode (gb 362) 107 = .ok (.putfield 195, 3) := by decide +kernel
theorem yn_362_11_28 : gFin 362 11 28 := by decide +kernel
theorem y362_110 : decode (gb 362) 110 = .ok (.aload_n 0, 1) := by decide +kernel
theorem y362_111 : decode (gb 362) 111 = .ok (.iconst 1, 1) := by decide +kernel
theorem yf_12_232 : (12 * 1000 + 232, 11, 31, 2335) ∈ gFL := by decide +kernel
theorem y362_112 : decode (gb 362) 112 = .ok (.putfield 232, 3) := by decide +kernel
theorem yn_362_11_31 : gFin 362 11 31 := by decide +kernel
theorem y362_115 : decode (gb 362) 115 = .ok (.aload_n 0, 1) := by decide +kernel
theorem y362_116 : decode (gb 362) 116 = .ok (.iconst 3, 1) := by decide +kernel
theorem yf_12_275 : (12 * 1000 + 275, 11, 32, 2336) ∈ gFL := by decide +kernel
theorem y362_117 : decode (gb 362) 117 = .ok (.putfield 275, 3) := by decide +kernel
theorem yn_362_11_32 : gFin 362 11 32 := by decide +kernel
theorem y362_120 : decode (gb 362) 120 = .ok (.aload_n 0, 1) := by decide +kernel
theorem y362_121 : decode (gb 362) 121 = .ok (.bipush 8, 2) := by decide +kernel
theorem yf_12_216 : (12 * 1000 + 216, 11, 33, 2337) ∈ gFL := by decide +kernel
theorem y362_123 : decode (gb 362) 123 = .ok (.putfield 216, 3) := by decide +kernel
theorem yn_362_11_33 : gFin 362 11 33 := by decide +kernel
theorem y362_126 : decode (gb 362) 126 = .ok (.aload_n 0, 1) := by decide +kernel
theorem y362_127 : decode (gb 362) 127 = .ok (.bipush 20, 2) := by decide +kernel
theorem yf_12_189 : (12 * 1000 + 189, 11, 35, 2339) ∈ gFL := by decide +kernel
theorem y362_129 : decode (gb 362) 129 = .ok (.putfield 189, 3) := by decide +kernel
theorem yn_362_11_35 : gFin 362 11 35 := by decide +kernel
theorem y362_132 : decode (gb 362) 132 = .ok (.aload_n 0, 1) := by decide +kernel
theorem y362_133 : decode (gb 362) 133 = .ok (.bipush 40, 2) := by decide +kernel
theorem y362_135 : decode (gb 362) 135 = .ok (.newarray .int, 2) := by decide +kernel
theorem yf_12_238 : (12 * 1000 + 238, 11, 39, 2343) ∈ gFL := by decide +kernel
theorem y362_137 : decode (gb 362) 137 = .ok (.putfield 238, 3) := by decide +kernel
theorem yn_362_11_39 : gFin 362 11 39 := by decide +kernel
theorem y362_140 : decode (gb 362) 140 = .ok (.aload_n 0, 1) := by decide +kernel
theorem y362_141 : decode (gb 362) 141 = .ok (.bipush 40, 2) := by decide +kernel
theorem y362_143 : decode (gb 362) 143 = .ok (.newarray .boolean, 2) := by decide +kernel
theorem yf_12_201 : (12 * 1000 + 201, 11, 40, 2344) ∈ gFL := by decide +kernel
theorem y362_145 : decode (gb 362) 145 = .ok (.putfield 201, 3) := by decide +kernel
theorem yn_362_11_40 : gFin 362 11 40 := by decide +kernel
theorem y362_148 : decode (gb 362) 148 = .ok (.aload_n 0, 1) := by decide +kernel
theorem y362_149 : decode (gb 362) 149 = .ok (.bipush 40, 2) := by decide +kernel
theorem y362_151 : decode (gb 362) 151 = .ok (.newarray .int, 2) := by decide +kernel
theorem yf_12_219 : (12 * 1000 + 219, 11, 42, 2346) ∈ gFL := by decide +kernel
theorem y362_153 : decode (gb 362) 153 = .ok (.putfield 219, 3) := by decide +kernel
theorem yn_362_11_42 : gFin 362 11 42 := by decide +kernel
theorem y362_156 : decode (gb 362) 156 = .ok (.aload_n 0, 1) := by decide +kernel
theorem y362_157 : decode (gb 362) 157 = .ok (.sipush 2400, 3) := by decide +kernel
theorem y362_160 : decode (gb 362) 160 = .ok (.newarray .int, 2) := by decide +kernel
theorem yf_12_207 : (12 * 1000 + 207, 11, 44, 2348) ∈ gFL := by decide +kernel
theorem y362_162 : decode (gb 362) 162 = .ok (.putfield 207, 3) := by decide +kernel
theorem yn_362_11_44 : gFin 362 11 44 := by decide +kernel
theorem y362_165 : decode (gb 362) 165 = .ok (.aload_n 0, 1) := by decide +kernel
theorem y362_166 : decode (gb 362) 166 = .ok (.bipush 40, 2) := by decide +kernel
theorem y362_168 : decode (gb 362) 168 = .ok (.newarray .int, 2) := by decide +kernel
theorem yf_12_210 : (12 * 1000 + 210, 11, 45, 2349) ∈ gFL := by decide +kernel
theorem y362_170 : decode (gb 362) 170 = .ok (.putfield 210, 3) := by decide +kernel
theorem yn_362_11_45 : gFin 362 11 45 := by decide +kernel
theorem y362_173 : decode (gb 362) 173 = .ok (.aload_n 0, 1) := by decide +kernel
theorem y362_174 : decode (gb 362) 174 = .ok (.sipush 2400, 3) := by decide +kernel
theorem y362_177 : decode (gb 362) 177 = .ok (.newarray .int, 2) := by decide +kernel
theorem yf_12_225 : (12 * 1000 + 225, 11, 46, 2350) ∈ gFL := by decide +kernel
theorem y362_179 : decode (gb 362) 179 = .ok (.putfield 225, 3) := by decide +kernel
theorem yn_362_11_46 : gFin 362 11 46 := by decide +kernel
theorem y362_182 : decode (gb 362) 182 = .ok (.aload_n 0, 1) := by decide +kernel
theorem y362_183 : decode (gb 362) 183 = .ok (.bipush 40, 2) := by decide +kernel
theorem y362_185 : decode (gb 362) 185 = .ok (.newarray .int, 2) := by decide +kernel
theorem yf_12_222 : (12 * 1000 + 222, 11, 47, 2351) ∈ gFL := by decide +kernel
theorem y362_187 : decode (gb 362) 187 = .ok (.putfield 222, 3) := by decide +kernel
theorem yn_362_11_47 : gFin 362 11 47 := by decide +kernel
theorem y362_190 : decode (gb 362) 190 = .ok (.aload_n 0, 1) := by decide +kernel
theorem y362_191 : decode (gb 362) 191 = .ok (.bipush 120, 2) := by decide +kernel
theorem y362_193 : decode (gb 362) 193 = .ok (.newarray .int, 2) := by decide +kernel
theorem yf_12_173 : (12 * 1000 + 173, 11, 50, 2354) ∈ gFL := by decide +kernel
theorem y362_195 : decode (gb 362) 195 = .ok (.putfield 173, 3) := by decide +kernel
theorem yn_362_11_50 : gFin 362 11 50 := by decide +kernel
theorem y362_198 : decode (gb 362) 198 = .ok (.aload_n 0, 1) := by decide +kernel
theorem y362_199 : decode (gb 362) 199 = .ok (.iconst 3, 1) := by decide +kernel
theorem y362_200 : decode (gb 362) 200 = .ok (.newarray .int, 2) := by decide +kernel
theorem yf_12_176 : (12 * 1000 + 176, 11, 51, 2355) ∈ gFL := by decide +kernel
theorem y362_202 : decode (gb 362) 202 = .ok (.putfield 176, 3) := by decide +kernel
theorem yn_362_11_51 : gFin 362 11 51 := by decide +kernel
theorem y362_205 : decode (gb 362) 205 = .ok (.aload_n 0, 1) := by decide +kernel
theorem y362_206 : decode (gb 362) 206 = .ok (.sipush 6400, 3) := by decide +kernel
theorem y362_209 : decode (gb 362) 209 = .ok (.newarray .int, 2) := by decide +kernel
theorem yf_12_303 : (12 * 1000 + 303, 11, 52, 2356) ∈ gFL := by decide +kernel
theorem y362_211 : decode (gb 362) 211 = .ok (.putfield 303, 3) := by decide +kernel
theorem yn_362_11_52 : gFin 362 11 52 := by decide +kernel
theorem y362_214 : decode (gb 362) 214 = .ok (.aload_n 0, 1) := by decide +kernel
theorem y362_215 : decode (gb 362) 215 = .ok (.bipush 64, 2) := by decide +kernel
theorem y362_217 : decode (gb 362) 217 = .ok (.newarray .int, 2) := by decide +kernel
theorem yf_12_306 : (12 * 1000 + 306, 11, 53, 2357) ∈ gFL := by decide +kernel
theorem y362_219 : decode (gb 362) 219 = .ok (.putfield 306, 3) := by decide +kernel
theorem yn_362_11_53 : gFin 362 11 53 := by decide +kernel
theorem y362_222 : decode (gb 362) 222 = .ok (.aload_n 0, 1) := by decide +kernel
theorem y362_223 : decode (gb 362) 223 = .ok (.bipush 64, 2) := by decide +kernel
theorem y362_225 : decode (gb 362) 225 = .ok (.newarray .int, 2) := by decide +kernel
theorem yf_12_300 : (12 * 1000 + 300, 11, 54, 2358) ∈ gFL := by decide +kernel
theorem y362_227 : decode (gb 362) 227 = .ok (.putfield 300, 3) := by decide +kernel
theorem yn_362_11_54 : gFin 362 11 54 := by decide +kernel
theorem y362_230 : decode (gb 362) 230 = .ok (.aload_n 0, 1) := by decide +kernel
theorem y362_231 : decode (gb 362) 231 = .ok (.bipush 64, 2) := by decide +kernel
theorem y362_233 : decode (gb 362) 233 = .ok (.newarray .int, 2) := by decide +kernel
theorem yf_12_309 : (12 * 1000 + 309, 11, 55, 2359) ∈ gFL := by decide +kernel
theorem y362_235 : decode (gb 362) 235 = .ok (.putfield 309, 3) := by decide +kernel
theorem yn_362_11_55 : gFin 362 11 55 := by decide +kernel
theorem y362_238 : decode (gb 362) 238 = .ok (.aload_n 0, 1) := by decide +kernel
theorem y362_239 : decode (gb 362) 239 = .ok (.bipush 64, 2) := by decide +kernel
theorem y362_241 : decode (gb 362) 241 = .ok (.newarray .int, 2) := by decide +kernel
theorem yf_12_312 : (12 * 1000 + 312, 11, 56, 2360) ∈ gFL := by decide +kernel
theorem y362_243 : decode (gb 362) 243 = .ok (.putfield 312, 3) := by decide +kernel
theorem yn_362_11_56 : gFin 362 11 56 := by decide +kernel
theorem y362_246 : decode (gb 362) 246 = .ok (.aload_n 0, 1) := by decide +kernel
theorem y362_247 : decode (gb 362) 247 = .ok (.bipush 64, 2) := by decide +kernel
theorem y362_249 : decode (gb 362) 249 = .ok (.newarray .int, 2) := by decide +kernel
theorem yf_12_315 : (12 * 1000 + 315, 11, 57, 2361) ∈ gFL := by decide +kernel
theorem y362_251 : decode (gb 362) 251 = .ok (.putfield 315, 3) := by decide +kernel
theorem yn_362_11_57 : gFin 362 11 57 := by decide +kernel
theorem y362_254 : decode (gb 362) 254 = .ok (.aload_n 0, 1) := by decide +kernel
theorem y362_255 : decode (gb 362) 255 = .ok (.iconst 2, 1) := by decide +kernel
theorem y362_256 : decode (gb 362) 256 = .ok (.newarray .int, 2) := by decide +kernel
theorem yf_12_350 : (12 * 1000 + 350, 11, 59, 2363) ∈ gFL := by decide +kernel
theorem y362_258 : decode (gb 362) 258 = .ok (.putfield 350, 3) := by decide +kernel
theorem yn_362_11_59 : gFin 362 11 59 := by decide +kernel
theorem y362_261 : decode (gb 362) 261 = .ok (.aload_n 0, 1) := by decide +kernel
theorem y362_262 : decode (gb 362) 262 = .ok (.bipush 64, 2) := by decide +kernel
theorem y362_264 : decode (gb 362) 264 = .ok (.newarray .int, 2) := by decide +kernel
theorem yf_12_337 : (12 * 1000 + 337, 11, 66, 2370) ∈ gFL := by decide +kernel
theorem y362_266 : decode (gb 362) 266 = .ok (.putfield 337, 3) := by decide +kernel
theorem yn_362_11_66 : gFin 362 11 66 := by decide +kernel
theorem y362_269 : decode (gb 362) 269 = .ok (.aload_n 0, 1) := by decide +kernel
theorem y362_270 : decode (gb 362) 270 = .ok (.bipush (-2), 2) := by decide +kernel
theorem yf_12_371 : (12 * 1000 + 371, 11, 71, 2375) ∈ gFL := by decide +kernel
theorem y362_272 : decode (gb 362) 272 = .ok (.putfield 371, 3) := by decide +kernel
theorem yn_362_11_71 : gFin 362 11 71 := by decide +kernel
theorem y362_275 : decode (gb 362) 275 = .ok (.aload_n 0, 1) := by decide +kernel
theorem y362_276 : decode (gb 362) 276 = .ok (.bipush (-2), 2) := by decide +kernel
theorem yf_12_374 : (12 * 1000 + 374, 11, 72, 2376) ∈ gFL := by decide +kernel
theorem y362_278 : decode (gb 362) 278 = .ok (.putfield 374, 3) := by decide +kernel
theorem yn_362_11_72 : gFin 362 11 72 := by decide +kernel
theorem y362_281 : decode (gb 362) 281 = .ok (.aload_n 0, 1) := by decide +kernel
theorem y362_282 : decode (gb 362) 282 = .ok (.bipush 64, 2) := by decide +kernel
theorem y362_284 : decode (gb 362) 284 = .ok (.newarray .int, 2) := by decide +kernel
theorem y362_286 : decode (gb 362) 286 = .ok (.putfield 328, 3) := by decide +kernel
theorem yn_362_11_73 : gFin 362 11 73 := by decide +kernel
theorem y362_289 : decode (gb 362) 289 = .ok (.aload_n 0, 1) := by decide +kernel
theorem y362_290 : decode (gb 362) 290 = .ok (.iconst 2, 1) := by decide +kernel
theorem y362_291 : decode (gb 362) 291 = .ok (.newarray .int, 2) := by decide +kernel
theorem y362_293 : decode (gb 362) 293 = .ok (.dup, 1) := by decide +kernel
theorem y362_294 : decode (gb 362) 294 = .ok (.iconst 0, 1) := by decide +kernel
theorem y362_295 : decode (gb 362) 295 = .ok (.bipush (-2), 2) := by decide +kernel
theorem y362_297 : decode (gb 362) 297 = .ok (.iastore, 1) := by decide +kernel
theorem y362_298 : decode (gb 362) 298 = .ok (.dup, 1) := by decide +kernel
theorem y362_299 : decode (gb 362) 299 = .ok (.iconst 1, 1) := by decide +kernel
theorem y362_300 : decode (gb 362) 300 = .ok (.bipush (-2), 2) := by decide +kernel
theorem y362_302 : decode (gb 362) 302 = .ok (.iastore, 1) := by decide +kernel
theorem yf_12_381 : (12 * 1000 + 381, 11, 74, 2378) ∈ gFL := by decide +kernel
theorem y362_303 : decode (gb 362) 303 = .ok (.putfield 381, 3) := by decide +kernel
theorem yn_362_11_74 : gFin 362 11 74 := by decide +kernel
theorem y362_306 : decode (gb 362) 306 = .ok (.aload_n 0, 1) := by decide +kernel
theorem y362_307 : decode (gb 362) 307 = .ok (.iconst 2, 1) := by decide +kernel
theorem y362_308 : decode (gb 362) 308 = .ok (.newarray .int, 2) := by decide +kernel
theorem yf_12_387 : (12 * 1000 + 387, 11, 75, 2379) ∈ gFL := by decide +kernel
theorem y362_310 : decode (gb 362) 310 = .ok (.putfield 387, 3) := by decide +kernel
theorem yn_362_11_75 : gFin 362 11 75 := by decide +kernel
theorem y362_313 : decode (gb 362) 313 = .ok (.aload_n 0, 1) := by decide +kernel
theorem y362_314 : decode (gb 362) 314 = .ok (.sipush 400, 3) := by decide +kernel
theorem y362_317 : decode (gb 362) 317 = .ok (.newarray .int, 2) := by decide +kernel
theorem yf_12_390 : (12 * 1000 + 390, 11, 76, 2380) ∈ gFL := by decide +kernel
theorem y362_319 : decode (gb 362) 319 = .ok (.putfield 390, 3) := by decide +kernel
theorem yn_362_11_76 : gFin 362 11 76 := by decide +kernel
theorem y362_322 : decode (gb 362) 322 = .ok (.aload_n 0, 1) := by decide +kernel
theorem y362_323 : decode (gb 362) 323 = .ok (.bipush 24, 2) := by decide +kernel
theorem y362_325 : decode (gb 362) 325 = .ok (.newarray .int, 2) := by decide +kernel
theorem yf_12_126 : (12 * 1000 + 126, 11, 78, 2382) ∈ gFL := by decide +kernel
theorem y362_327 : decode (gb 362) 327 = .ok (.putfield 126, 3) := by decide +kernel
theorem yn_362_11_78 : gFin 362 11 78 := by decide +kernel
theorem y362_330 : decode (gb 362) 330 = .ok (.aload_n 0, 1) := by decide +kernel
theorem y362_331 : decode (gb 362) 331 = .ok (.bipush 100, 2) := by decide +kernel
theorem y362_333 : decode (gb 362) 333 = .ok (.newarray .int, 2) := by decide +kernel
theorem yf_12_396 : (12 * 1000 + 396, 11, 79, 2383) ∈ gFL := by decide +kernel
theorem y362_335 : decode (gb 362) 335 = .ok (.putfield 396, 3) := by decide +kernel
theorem yn_362_11_79 : gFin 362 11 79 := by decide +kernel
theorem y362_338 : decode (gb 362) 338 = .ok (.aload_n 0, 1) := by decide +kernel
theorem y362_339 : decode (gb 362) 339 = .ok (.sipush 128, 3) := by decide +kernel
theorem y362_342 : decode (gb 362) 342 = .ok (.newarray .int, 2) := by decide +kernel
theorem yf_12_408 : (12 * 1000 + 408, 11, 82, 2386) ∈ gFL := by decide +kernel
theorem y362_344 : decode (gb 362) 344 = .ok (.putfield 408, 3) := by decide +kernel
theorem yn_362_11_82 : gFin 362 11 82 := by decide +kernel
theorem y362_347 : decode (gb 362) 347 = .ok (.aload_n 0, 1) := by decide +kernel
theorem y362_348 : decode (gb 362) 348 = .ok (.sipush 2400, 3) := by decide +kernel
theorem y362_351 : decode (gb 362) 351 = .ok (.newarray .int, 2) := by decide +kernel
theorem yf_12_432 : (12 * 1000 + 432, 11, 84, 2388) ∈ gFL := by decide +kernel
theorem y362_353 : decode (gb 362) 353 = .ok (.putfield 432, 3) := by decide +kernel
theorem yn_362_11_84 : gFin 362 11 84 := by decide +kernel
theorem y362_356 : decode (gb 362) 356 = .ok (.aload_n 0, 1) := by decide +kernel
theorem y362_357 : decode (gb 362) 357 = .ok (.bipush 24, 2) := by decide +kernel
theorem y362_359 : decode (gb 362) 359 = .ok (.newarray .int, 2) := by decide +kernel
theorem yf_12_435 : (12 * 1000 + 435, 11, 85, 2389) ∈ gFL := by decide +kernel
theorem y362_361 : decode (gb 362) 361 = .ok (.putfield 435, 3) := by decide +kernel
theorem yn_362_11_85 : gFin 362 11 85 := by decide +kernel
theorem y362_364 : decode (gb 362) 364 = .ok (.aload_n 0, 1) := by decide +kernel
theorem y362_365 : decode (gb 362) 365 = .ok (.sipush 4000, 3) := by decide +kernel
theorem y362_368 : decode (gb 362) 368 = .ok (.newarray .int, 2) := by decide +kernel
theorem yf_12_664 : (12 * 1000 + 664, 11, 88, 2392) ∈ gFL := by decide +kernel
theorem y362_370 : decode (gb 362) 370 = .ok (.putfield 664, 3) := by decide +kernel
theorem yn_362_11_88 : gFin 362 11 88 := by decide +kernel
theorem y362_373 : decode (gb 362) 373 = .ok (.aload_n 0, 1) := by decide +kernel
theorem y362_374 : decode (gb 362) 374 = .ok (.bipush 40, 2) := by decide +kernel
theorem y362_376 : decode (gb 362) 376 = .ok (.newarray .int, 2) := by decide +kernel
theorem yf_12_661 : (12 * 1000 + 661, 11, 89, 2393) ∈ gFL := by decide +kernel
theorem y362_378 : decode (gb 362) 378 = .ok (.putfield 661, 3) := by decide +kernel
theorem yn_362_11_89 : gFin 362 11 89 := by decide +kernel
theorem y362_381 : decode (gb 362) 381 = .ok (.aload_n 0, 1) := by decide +kernel
theorem y362_382 : decode (gb 362) 382 = .ok (.iconst 2, 1) := by decide +kernel
theorem y362_383 : decode (gb 362) 383 = .ok (.newarray .int, 2) := by decide +kernel
theorem yf_12_444 : (12 * 1000 + 444, 11, 91, 2395) ∈ gFL := by decide +kernel
theorem y362_385 : decode (gb 362) 385 = .ok (.putfield 444, 3) := by decide +kernel
theorem yn_362_11_91 : gFin 362 11 91 := by decide +kernel
theorem y362_388 : decode (gb 362) 388 = .ok (.aload_n 0, 1) := by decide +kernel
theorem y362_389 : decode (gb 362) 389 = .ok (.iconst 2, 1) := by decide +kernel
theorem y362_390 : decode (gb 362) 390 = .ok (.newarray .boolean, 2) := by decide +kernel
theorem yf_12_417 : (12 * 1000 + 417, 11, 92, 2396) ∈ gFL := by decide +kernel
theorem y362_392 : decode (gb 362) 392 = .ok (.putfield 417, 3) := by decide +kernel
theorem yn_362_11_92 : gFin 362 11 92 := by decide +kernel
theorem y362_395 : decode (gb 362) 395 = .ok (.aload_n 0, 1) := by decide +kernel
theorem y362_396 : decode (gb 362) 396 = .ok (.iconst 2, 1) := by decide +kernel
theorem y362_397 : decode (gb 362) 397 = .ok (.newarray .int, 2) := by decide +kernel
theorem yf_12_456 : (12 * 1000 + 456, 11, 93, 2397) ∈ gFL := by decide +kernel
theorem y362_399 : decode (gb 362) 399 = .ok (.putfield 456, 3) := by decide +kernel
theorem yn_362_11_93 : gFin 362 11 93 := by decide +kernel
theorem y362_402 : decode (gb 362) 402 = .ok (.aload_n 0, 1) := by decide +kernel
theorem y362_403 : decode (gb 362) 403 = .ok (.iconst 2, 1) := by decide +kernel
theorem y362_404 : decode (gb 362) 404 = .ok (.newarray .int, 2) := by decide +kernel
theorem yf_12_447 : (12 * 1000 + 447, 11, 94, 2398) ∈ gFL := by decide +kernel
theorem y362_406 : decode (gb 362) 406 = .ok (.putfield 447, 3) := by decide +kernel
theorem yn_362_11_94 : gFin 362 11 94 := by decide +kernel
theorem y362_409 : decode (gb 362) 409 = .ok (.aload_n 0, 1) := by decide +kernel
theorem y362_410 : decode (gb 362) 410 = .ok (.iconst 2, 1) := by decide +kernel
theorem y362_411 : decode (gb 362) 411 = .ok (.newarray .int, 2) := by decide +kernel
theorem yf_12_450 : (12 * 1000 + 450, 11, 95, 2399) ∈ gFL := by decide +kernel
theorem y362_413 : decode (gb 362) 413 = .ok (.putfield 450, 3) := by decide +kernel
theorem yn_362_11_95 : gFin 362 11 95 := by decide +kernel
theorem y362_416 : decode (gb 362) 416 = .ok (.aload_n 0, 1) := by decide +kernel
theorem y362_417 : decode (gb 362) 417 = .ok (.iconst 2, 1) := by decide +kernel
theorem y362_418 : decode (gb 362) 418 = .ok (.newarray .int, 2) := by decide +kernel
theorem yf_12_438 : (12 * 1000 + 438, 11, 96, 2400) ∈ gFL := by decide +kernel
theorem y362_420 : decode (gb 362) 420 = .ok (.putfield 438, 3) := by decide +kernel
theorem yn_362_11_96 : gFin 362 11 96 := by decide +kernel
theorem y362_423 : decode (gb 362) 423 = .ok (.aload_n 0, 1) := by decide +kernel
theorem y362_424 : decode (gb 362) 424 = .ok (.bipush 12, 2) := by decide +kernel
theorem y362_426 : decode (gb 362) 426 = .ok (.newarray .int, 2) := by decide +kernel
theorem yf_12_441 : (12 * 1000 + 441, 11, 97, 2401) ∈ gFL := by decide +kernel
theorem y362_428 : decode (gb 362) 428 = .ok (.putfield 441, 3) := by decide +kernel
theorem yn_362_11_97 : gFin 362 11 97 := by decide +kernel
theorem y362_431 : decode (gb 362) 431 = .ok (.aload_n 0, 1) := by decide +kernel
theorem y362_432 : decode (gb 362) 432 = .ok (.sipush 18000, 3) := by decide +kernel
theorem y362_435 : decode (gb 362) 435 = .ok (.newarray .int, 2) := by decide +kernel
theorem yf_12_459 : (12 * 1000 + 459, 11, 98, 2402) ∈ gFL := by decide +kernel
theorem y362_437 : decode (gb 362) 437 = .ok (.putfield 459, 3) := by decide +kernel
theorem yn_362_11_98 : gFin 362 11 98 := by decide +kernel
theorem y362_440 : decode (gb 362) 440 = .ok (.aload_n 0, 1) := by decide +kernel
theorem y362_441 : decode (gb 362) 441 = .ok (.sipush 180, 3) := by decide +kernel
theorem y362_444 : decode (gb 362) 444 = .ok (.newarray .int, 2) := by decide +kernel
theorem yf_12_462 : (12 * 1000 + 462, 11, 99, 2403) ∈ gFL := by decide +kernel
theorem y362_446 : decode (gb 362) 446 = .ok (.putfield 462, 3) := by decide +kernel
theorem yn_362_11_99 : gFin 362 11 99 := by decide +kernel
theorem y362_449 : decode (gb 362) 449 = .ok (.aload_n 0, 1) := by decide +kernel
theorem y362_450 : decode (gb 362) 450 = .ok (.sipush 180, 3) := by decide +kernel
theorem y362_453 : decode (gb 362) 453 = .ok (.newarray .int, 2) := by decide +kernel
theorem yf_12_465 : (12 * 1000 + 465, 11, 100, 2404) ∈ gFL := by decide +kernel
theorem y362_455 : decode (gb 362) 455 = .ok (.putfield 465, 3) := by decide +kernel
theorem yn_362_11_100 : gFin 362 11 100 := by decide +kernel
theorem y362_458 : decode (gb 362) 458 = .ok (.aload_n 0, 1) := by decide +kernel
theorem y362_459 : decode (gb 362) 459 = .ok (.sipush 512, 3) := by decide +kernel
theorem y362_462 : decode (gb 362) 462 = .ok (.newarray .int, 2) := by decide +kernel
theorem yf_12_492 : (12 * 1000 + 492, 11, 101, 2405) ∈ gFL := by decide +kernel
theorem y362_464 : decode (gb 362) 464 = .ok (.putfield 492, 3) := by decide +kernel
theorem yn_362_11_101 : gFin 362 11 101 := by decide +kernel
theorem y362_467 : decode (gb 362) 467 = .ok (.aload_n 0, 1) := by decide +kernel
theorem y362_468 : decode (gb 362) 468 = .ok (.bipush 8, 2) := by decide +kernel
theorem y362_470 : decode (gb 362) 470 = .ok (.newarray .int, 2) := by decide +kernel
theorem yf_12_495 : (12 * 1000 + 495, 11, 102, 2406) ∈ gFL := by decide +kernel
theorem y362_472 : decode (gb 362) 472 = .ok (.putfield 495, 3) := by decide +kernel
theorem yn_362_11_102 : gFin 362 11 102 := by decide +kernel
theorem y362_475 : decode (gb 362) 475 = .ok (.aload_n 0, 1) := by decide +kernel
theorem y362_476 : decode (gb 362) 476 = .ok (.bipush 8, 2) := by decide +kernel
theorem y362_478 : decode (gb 362) 478 = .ok (.newarray .int, 2) := by decide +kernel
theorem yf_12_498 : (12 * 1000 + 498, 11, 103, 2407) ∈ gFL := by decide +kernel
theorem y362_480 : decode (gb 362) 480 = .ok (.putfield 498, 3) := by decide +kernel
theorem yn_362_11_103 : gFin 362 11 103 := by decide +kernel
theorem y362_483 : decode (gb 362) 483 = .ok (.aload_n 0, 1) := by decide +kernel
theorem y362_484 : decode (gb 362) 484 = .ok (.bipush 64, 2) := by decide +kernel
theorem y362_486 : decode (gb 362) 486 = .ok (.newarray .int, 2) := by decide +kernel
theorem yf_12_513 : (12 * 1000 + 513, 11, 105, 2409) ∈ gFL := by decide +kernel
theorem y362_488 : decode (gb 362) 488 = .ok (.putfield 513, 3) := by decide +kernel
theorem yn_362_11_105 : gFin 362 11 105 := by decide +kernel
theorem y362_491 : decode (gb 362) 491 = .ok (.aload_n 0, 1) := by decide +kernel
theorem y362_492 : decode (gb 362) 492 = .ok (.bipush 6, 2) := by decide +kernel
theorem y362_494 : decode (gb 362) 494 = .ok (.newarray .boolean, 2) := by decide +kernel
theorem yf_12_527 : (12 * 1000 + 527, 11, 108, 2412) ∈ gFL := by decide +kernel
theorem y362_496 : decode (gb 362) 496 = .ok (.putfield 527, 3) := by decide +kernel
theorem yn_362_11_108 : gFin 362 11 108 := by decide +kernel
theorem y362_499 : decode (gb 362) 499 = .ok (.aload_n 0, 1) := by decide +kernel
theorem y362_500 : decode (gb 362) 500 = .ok (.bipush 6, 2) := by decide +kernel
theorem y362_502 : decode (gb 362) 502 = .ok (.newarray .boolean, 2) := by decide +kernel
theorem yf_12_530 : (12 * 1000 + 530, 11, 109, 2413) ∈ gFL := by decide +kernel
theorem y362_504 : decode (gb 362) 504 = .ok (.putfield 530, 3) := by decide +kernel
theorem yn_362_11_109 : gFin 362 11 109 := by decide +kernel
theorem y362_507 : decode (gb 362) 507 = .ok (.aload_n 0, 1) := by decide +kernel
theorem y362_508 : decode (gb 362) 508 = .ok (.bipush 6, 2) := by decide +kernel
theorem y362_510 : decode (gb 362) 510 = .ok (.newarray .int, 2) := by decide +kernel
theorem yf_12_601 : (12 * 1000 + 601, 11, 110, 2414) ∈ gFL := by decide +kernel
theorem y362_512 : decode (gb 362) 512 = .ok (.putfield 601, 3) := by decide +kernel
theorem yn_362_11_110 : gFin 362 11 110 := by decide +kernel
theorem y362_515 : decode (gb 362) 515 = .ok (.aload_n 0, 1) := by decide +kernel
theorem y362_516 : decode (gb 362) 516 = .ok (.bipush 6, 2) := by decide +kernel
theorem y362_518 : decode (gb 362) 518 = .ok (.newarray .int, 2) := by decide +kernel
theorem yf_12_604 : (12 * 1000 + 604, 11, 111, 2415) ∈ gFL := by decide +kernel
theorem y362_520 : decode (gb 362) 520 = .ok (.putfield 604, 3) := by decide +kernel
theorem yn_362_11_111 : gFin 362 11 111 := by decide +kernel
theorem y362_523 : decode (gb 362) 523 = .ok (.aload_n 0, 1) := by decide +kernel
theorem y362_524 : decode (gb 362) 524 = .ok (.bipush 6, 2) := by decide +kernel
theorem y362_526 : decode (gb 362) 526 = .ok (.newarray .int, 2) := by decide +kernel
theorem yf_12_595 : (12 * 1000 + 595, 11, 112, 2416) ∈ gFL := by decide +kernel
theorem y362_528 : decode (gb 362) 528 = .ok (.putfield 595, 3) := by decide +kernel
theorem yn_362_11_112 : gFin 362 11 112 := by decide +kernel
theorem y362_531 : decode (gb 362) 531 = .ok (.aload_n 0, 1) := by decide +kernel
theorem y362_532 : decode (gb 362) 532 = .ok (.bipush 48, 2) := by decide +kernel
theorem y362_534 : decode (gb 362) 534 = .ok (.newarray .int, 2) := by decide +kernel
theorem yf_12_598 : (12 * 1000 + 598, 11, 113, 2417) ∈ gFL := by decide +kernel
theorem y362_536 : decode (gb 362) 536 = .ok (.putfield 598, 3) := by decide +kernel
theorem yn_362_11_113 : gFin 362 11 113 := by decide +kernel
theorem y362_539 : decode (gb 362) 539 = .ok (.aload_n 0, 1) := by decide +kernel
theorem y362_540 : decode (gb 362) 540 = .ok (.sipush 1024, 3) := by decide +kernel
theorem y362_543 : decode (gb 362) 543 = .ok (.newarray .int, 2) := by decide +kernel
theorem yf_12_592 : (12 * 1000 + 592, 11, 114, 2418) ∈ gFL := by decide +kernel
theorem y362_545 : decode (gb 362) 545 = .ok (.putfield 592, 3) := by decide +kernel
theorem yn_362_11_114 : gFin 362 11 114 := by decide +kernel
theorem y362_548 : decode (gb 362) 548 = .ok (.aload_n 0, 1) := by decide +kernel
theorem y362_549 : decode (gb 362) 549 = .ok (.bipush 32, 2) := by decide +kernel
theorem y362_551 : decode (gb 362) 551 = .ok (.newarray .boolean, 2) := by decide +kernel
theorem yf_12_571 : (12 * 1000 + 571, 11, 115, 2419) ∈ gFL := by decide +kernel
theorem y362_553 : decode (gb 362) 553 = .ok (.putfield 571, 3) := by decide +kernel
theorem yn_362_11_115 : gFin 362 11 115 := by decide +kernel
theorem y362_556 : decode (gb 362) 556 = .ok (.aload_n 0, 1) := by decide +kernel
theorem y362_557 : decode (gb 362) 557 = .ok (.bipush 32, 2) := by decide +kernel
theorem y362_559 : decode (gb 362) 559 = .ok (.newarray .boolean, 2) := by decide +kernel
theorem yf_12_536 : (12 * 1000 + 536, 11, 116, 2420) ∈ gFL := by decide +kernel
theorem y362_561 : decode (gb 362) 561 = .ok (.putfield 536, 3) := by decide +kernel
theorem yn_362_11_116 : gFin 362 11 116 := by decide +kernel
theorem y362_564 : decode (gb 362) 564 = .ok (.aload_n 0, 1) := by decide +kernel
theorem y362_565 : decode (gb 362) 565 = .ok (.bipush 32, 2) := by decide +kernel
theorem y362_567 : decode (gb 362) 567 = .ok (.newarray .boolean, 2) := by decide +kernel
theorem yf_12_610 : (12 * 1000 + 610, 11, 117, 2421) ∈ gFL := by decide +kernel
theorem y362_569 : decode (gb 362) 569 = .ok (.putfield 610, 3) := by decide +kernel
theorem yn_362_11_117 : gFin 362 11 117 := by decide +kernel
theorem y362_572 : decode (gb 362) 572 = .ok (.aload_n 0, 1) := by decide +kernel
theorem y362_573 : decode (gb 362) 573 = .ok (.sipush 1280, 3) := by decide +kernel
theorem y362_576 : decode (gb 362) 576 = .ok (.newarray .int, 2) := by decide +kernel
theorem yf_12_616 : (12 * 1000 + 616, 11, 118, 2422) ∈ gFL := by decide +kernel
theorem y362_578 : decode (gb 362) 578 = .ok (.putfield 616, 3) := by decide +kernel
theorem yn_362_11_118 : gFin 362 11 118 := by decide +kernel
theorem y362_581 : decode (gb 362) 581 = .ok (.aload_n 0, 1) := by decide +kernel
theorem y362_582 : decode (gb 362) 582 = .ok (.bipush 32, 2) := by decide +kernel
theorem y362_584 : decode (gb 362) 584 = .ok (.newarray .int, 2) := by decide +kernel
theorem yf_12_613 : (12 * 1000 + 613, 11, 119, 2423) ∈ gFL := by decide +kernel
theorem y362_586 : decode (gb 362) 586 = .ok (.putfield 613, 3) := by decide +kernel
theorem yn_362_11_119 : gFin 362 11 119 := by decide +kernel
theorem y362_589 : decode (gb 362) 589 = .ok (.aload_n 0, 1) := by decide +kernel
theorem y362_590 : decode (gb 362) 590 = .ok (.bipush 6, 2) := by decide +kernel
theorem y362_592 : decode (gb 362) 592 = .ok (.newarray .int, 2) := by decide +kernel
theorem yf_12_548 : (12 * 1000 + 548, 11, 120, 2424) ∈ gFL := by decide +kernel
theorem y362_594 : decode (gb 362) 594 = .ok (.putfield 548, 3) := by decide +kernel
theorem yn_362_11_120 : gFin 362 11 120 := by decide +kernel
theorem y362_597 : decode (gb 362) 597 = .ok (.aload_n 0, 1) := by decide +kernel
theorem y362_598 : decode (gb 362) 598 = .ok (.bipush 6, 2) := by decide +kernel
theorem y362_600 : decode (gb 362) 600 = .ok (.newarray .int, 2) := by decide +kernel
theorem yf_12_619 : (12 * 1000 + 619, 11, 121, 2425) ∈ gFL := by decide +kernel
theorem y362_602 : decode (gb 362) 602 = .ok (.putfield 619, 3) := by decide +kernel
theorem yn_362_11_121 : gFin 362 11 121 := by decide +kernel
theorem y362_605 : decode (gb 362) 605 = .ok (.aload_n 0, 1) := by decide +kernel
theorem y362_606 : decode (gb 362) 606 = .ok (.bipush 6, 2) := by decide +kernel
theorem y362_608 : decode (gb 362) 608 = .ok (.newarray .int, 2) := by decide +kernel
theorem yf_12_622 : (12 * 1000 + 622, 11, 122, 2426) ∈ gFL := by decide +kernel
theorem y362_610 : decode (gb 362) 610 = .ok (.putfield 622, 3) := by decide +kernel
theorem yn_362_11_122 : gFin 362 11 122 := by decide +kernel
theorem y362_613 : decode (gb 362) 613 = .ok (.aload_n 0, 1) := by decide +kernel
theorem y362_614 : decode (gb 362) 614 = .ok (.bipush 6, 2) := by decide +kernel
theorem y362_616 : decode (gb 362) 616 = .ok (.newarray .int, 2) := by decide +kernel
theorem yf_12_625 : (12 * 1000 + 625, 11, 123, 2427) ∈ gFL := by decide +kernel
theorem y362_618 : decode (gb 362) 618 = .ok (.putfield 625, 3) := by decide +kernel
theorem yn_362_11_123 : gFin 362 11 123 := by decide +kernel
theorem y362_621 : decode (gb 362) 621 = .ok (.aload_n 0, 1) := by decide +kernel
theorem y362_622 : decode (gb 362) 622 = .ok (.bipush 6, 2) := by decide +kernel
theorem y362_624 : decode (gb 362) 624 = .ok (.newarray .int, 2) := by decide +kernel
theorem yf_12_628 : (12 * 1000 + 628, 11, 124, 2428) ∈ gFL := by decide +kernel
theorem y362_626 : decode (gb 362) 626 = .ok (.putfield 628, 3) := by decide +kernel
theorem yn_362_11_124 : gFin 362 11 124 := by decide +kernel
theorem y362_629 : decode (gb 362) 629 = .ok (.aload_n 0, 1) := by decide +kernel
theorem y362_630 : decode (gb 362) 630 = .ok (.bipush 6, 2) := by decide +kernel
theorem y362_632 : decode (gb 362) 632 = .ok (.newarray .int, 2) := by decide +kernel
theorem yf_12_631 : (12 * 1000 + 631, 11, 125, 2429) ∈ gFL := by decide +kernel
theorem y362_634 : decode (gb 362) 634 = .ok (.putfield 631, 3) := by decide +kernel
theorem yn_362_11_125 : gFin 362 11 125 := by decide +kernel
theorem y362_637 : decode (gb 362) 637 = .ok (.aload_n 0, 1) := by decide +kernel
theorem y362_638 : decode (gb 362) 638 = .ok (.bipush 6, 2) := by decide +kernel
theorem y362_640 : decode (gb 362) 640 = .ok (.newarray .int, 2) := by decide +kernel
theorem yf_12_634 : (12 * 1000 + 634, 11, 126, 2430) ∈ gFL := by decide +kernel
theorem y362_642 : decode (gb 362) 642 = .ok (.putfield 634, 3) := by decide +kernel
theorem yn_362_11_126 : gFin 362 11 126 := by decide +kernel
theorem y362_645 : decode (gb 362) 645 = .ok (.aload_n 0, 1) := by decide +kernel
theorem y362_646 : decode (gb 362) 646 = .ok (.bipush 6, 2) := by decide +kernel
theorem y362_648 : decode (gb 362) 648 = .ok (.newarray .int, 2) := by decide +kernel
theorem yf_12_637 : (12 * 1000 + 637, 11, 127, 2431) ∈ gFL := by decide +kernel
theorem y362_650 : decode (gb 362) 650 = .ok (.putfield 637, 3) := by decide +kernel
theorem yn_362_11_127 : gFin 362 11 127 := by decide +kernel
theorem y362_653 : decode (gb 362) 653 = .ok (.aload_n 0, 1) := by decide +kernel
theorem y362_654 : decode (gb 362) 654 = .ok (.iconst 4, 1) := by decide +kernel
theorem y362_655 : decode (gb 362) 655 = .ok (.newarray .boolean, 2) := by decide +kernel
theorem yf_12_658 : (12 * 1000 + 658, 11, 129, 2433) ∈ gFL := by decide +kernel
theorem y362_657 : decode (gb 362) 657 = .ok (.putfield 658, 3) := by decide +kernel
theorem yn_362_11_129 : gFin 362 11 129 := by decide +kernel
theorem y362_660 : decode (gb 362) 660 = .ok (.aload_n 0, 1) := by decide +kernel
theorem y362_661 : decode (gb 362) 661 = .ok (.bipush 17, 2) := by decide +kernel
theorem y362_663 : decode (gb 362) 663 = .ok (.newarray .int, 2) := by decide +kernel
theorem yf_12_554 : (12 * 1000 + 554, 11, 131, 2435) ∈ gFL := by decide +kernel
theorem y362_665 : decode (gb 362) 665 = .ok (.putfield 554, 3) := by decide +kernel
theorem yn_362_11_131 : gFin 362 11 131 := by decide +kernel
theorem y362_668 : decode (gb 362) 668 = .ok (.aload_n 0, 1) := by decide +kernel
theorem y362_669 : decode (gb 362) 669 = .ok (.bipush 17, 2) := by decide +kernel
theorem y362_671 : decode (gb 362) 671 = .ok (.newarray .int, 2) := by decide +kernel
theorem yf_12_646 : (12 * 1000 + 646, 11, 132, 2436) ∈ gFL := by decide +kernel
theorem y362_673 : decode (gb 362) 673 = .ok (.putfield 646, 3) := by decide +kernel
theorem yn_362_11_132 : gFin 362 11 132 := by decide +kernel
theorem y362_676 : decode (gb 362) 676 = .ok (.aload_n 0, 1) := by decide +kernel
theorem y362_677 : decode (gb 362) 677 = .ok (.bipush 17, 2) := by decide +kernel
theorem y362_679 : decode (gb 362) 679 = .ok (.newarray .int, 2) := by decide +kernel
theorem yf_12_649 : (12 * 1000 + 649, 11, 133, 2437) ∈ gFL := by decide +kernel
theorem y362_681 : decode (gb 362) 681 = .ok (.putfield 649, 3) := by decide +kernel
theorem yn_362_11_133 : gFin 362 11 133 := by decide +kernel
theorem y362_684 : decode (gb 362) 684 = .ok (.aload_n 0, 1) := by decide +kernel
theorem y362_685 : decode (gb 362) 685 = .ok (.sipush 680, 3) := by decide +kernel
theorem y362_688 : decode (gb 362) 688 = .ok (.newarray .int, 2) := by decide +kernel
theorem yf_12_640 : (12 * 1000 + 640, 11, 134, 2438) ∈ gFL := by decide +kernel
theorem y362_690 : decode (gb 362) 690 = .ok (.putfield 640, 3) := by decide +kernel
theorem yn_362_11_134 : gFin 362 11 134 := by decide +kernel
theorem y362_693 : decode (gb 362) 693 = .ok (.aload_n 0, 1) := by decide +kernel
theorem y362_694 : decode (gb 362) 694 = .ok (.sipush 200, 3) := by decide +kernel
theorem y362_697 : decode (gb 362) 697 = .ok (.newarray .int, 2) := by decide +kernel
theorem yf_12_697 : (12 * 1000 + 697, 11, 135, 2439) ∈ gFL := by decide +kernel
theorem y362_699 : decode (gb 362) 699 = .ok (.putfield 697, 3) := by decide +kernel
theorem yn_362_11_135 : gFin 362 11 135 := by decide +kernel
theorem y362_702 : decode (gb 362) 702 = .ok (.aload_n 0, 1) := by decide +kernel
theorem y362_703 : decode (gb 362) 703 = .ok (.iconst 2, 1) := by decide +kernel
theorem y362_704 : decode (gb 362) 704 = .ok (.newarray .int, 2) := by decide +kernel
theorem yf_12_688 : (12 * 1000 + 688, 11, 136, 2440) ∈ gFL := by decide +kernel
theorem y362_706 : decode (gb 362) 706 = .ok (.putfield 688, 3) := by decide +kernel
theorem yn_362_11_136 : gFin 362 11 136 := by decide +kernel
theorem y362_709 : decode (gb 362) 709 = .ok (.aload_n 0, 1) := by decide +kernel
theorem y362_710 : decode (gb 362) 710 = .ok (.iconst 2, 1) := by decide +kernel
theorem y362_711 : decode (gb 362) 711 = .ok (.newarray .int, 2) := by decide +kernel
theorem yf_12_685 : (12 * 1000 + 685, 11, 137, 2441) ∈ gFL := by decide +kernel
theorem y362_713 : decode (gb 362) 713 = .ok (.putfield 685, 3) := by decide +kernel
theorem yn_362_11_137 : gFin 362 11 137 := by decide +kernel
theorem y362_716 : decode (gb 362) 716 = .ok (.aload_n 0, 1) := by decide +kernel
theorem y362_717 : decode (gb 362) 717 = .ok (.iconst 2, 1) := by decide +kernel
theorem y362_718 : decode (gb 362) 718 = .ok (.newarray .boolean, 2) := by decide +kernel
theorem yf_12_694 : (12 * 1000 + 694, 11, 138, 2442) ∈ gFL := by decide +kernel
theorem y362_720 : decode (gb 362) 720 = .ok (.putfield 694, 3) := by decide +kernel
theorem yn_362_11_138 : gFin 362 11 138 := by decide +kernel
theorem y362_723 : decode (gb 362) 723 = .ok (.aload_n 0, 1) := by decide +kernel
theorem y362_724 : decode (gb 362) 724 = .ok (.bipush 8, 2) := by decide +kernel
theorem y362_726 : decode (gb 362) 726 = .ok (.newarray .int, 2) := by decide +kernel
theorem yf_12_715 : (12 * 1000 + 715, 11, 140, 2444) ∈ gFL := by decide +kernel
theorem y362_728 : decode (gb 362) 728 = .ok (.putfield 715, 3) := by decide +kernel
theorem yn_362_11_140 : gFin 362 11 140 := by decide +kernel
theorem y362_731 : decode (gb 362) 731 = .ok (.aload_n 0, 1) := by decide +kernel
theorem y362_732 : decode (gb 362) 732 = .ok (.bipush 64, 2) := by decide +kernel
theorem y362_734 : decode (gb 362) 734 = .ok (.newarray .int, 2) := by decide +kernel
theorem yf_12_706 : (12 * 1000 + 706, 11, 142, 2446) ∈ gFL := by decide +kernel
theorem y362_736 : decode (gb 362) 736 = .ok (.putfield 706, 3) := by decide +kernel
theorem yn_362_11_142 : gFin 362 11 142 := by decide +kernel
theorem y362_739 : decode (gb 362) 739 = .ok (.aload_n 0, 1) := by decide +kernel
theorem y362_740 : decode (gb 362) 740 = .ok (.iconst 4, 1) := by decide +kernel
theorem y362_741 : decode (gb 362) 741 = .ok (.newarray .int, 2) := by decide +kernel
theorem y362_743 : decode (gb 362) 743 = .ok (.dup, 1) := by decide +kernel
theorem y362_744 : decode (gb 362) 744 = .ok (.iconst 0, 1) := by decide +kernel
theorem y362_745 : decode (gb 362) 745 = .ok (.bipush 26, 2) := by decide +kernel
theorem y362_747 : decode (gb 362) 747 = .ok (.iastore, 1) := by decide +kernel
theorem y362_748 : decode (gb 362) 748 = .ok (.dup, 1) := by decide +kernel
theorem y362_749 : decode (gb 362) 749 = .ok (.iconst 1, 1) := by decide +kernel
theorem y362_750 : decode (gb 362) 750 = .ok (.sipush 207, 3) := by decide +kernel
theorem y362_753 : decode (gb 362) 753 = .ok (.iastore, 1) := by decide +kernel
theorem y362_754 : decode (gb 362) 754 = .ok (.dup, 1) := by decide +kernel
theorem y362_755 : decode (gb 362) 755 = .ok (.iconst 2, 1) := by decide +kernel
theorem y362_756 : decode (gb 362) 756 = .ok (.sipush 252, 3) := by decide +kernel
theorem y362_759 : decode (gb 362) 759 = .ok (.iastore, 1) := by decide +kernel
theorem y362_760 : decode (gb 362) 760 = .ok (.dup, 1) := by decide +kernel
theorem y362_761 : decode (gb 362) 761 = .ok (.iconst 3, 1) := by decide +kernel
theorem y362_762 : decode (gb 362) 762 = .ok (.bipush 29, 2) := by decide +kernel
theorem y362_764 : decode (gb 362) 764 = .ok (.iastore, 1) := by decide +kernel
theorem yf_12_718 : (12 * 1000 + 718, 11, 143, 2447) ∈ gFL := by decide +kernel
theorem y362_765 : decode (gb 362) 765 = .ok (.putfield 718, 3) := by decide +kernel
theorem yn_362_11_143 : gFin 362 11 143 := by decide +kernel
theorem y362_768 : decode (gb 362) 768 = .ok (.aload_n 0, 1) := by decide +kernel
theorem y362_769 : decode (gb 362) 769 = .ok (.bipush (-2), 2) := by decide +kernel
theorem yf_12_739 : (12 * 1000 + 739, 11, 146, 2450) ∈ gFL := by decide +kernel
theorem y362_771 : decode (gb 362) 771 = .ok (.putfield 739, 3) := by decide +kernel
theorem yn_362_11_146 : gFin 362 11 146 := by decide +kernel
theorem y362_774 : decode (gb 362) 774 = .ok (.aload_n 0, 1) := by decide +kernel
theorem y362_775 : decode (gb 362) 775 = .ok (.sipush 4800, 3) := by decide +kernel
theorem y362_778 : decode (gb 362) 778 = .ok (.newarray .int, 2) := by decide +kernel
theorem yf_12_727 : (12 * 1000 + 727, 11, 148, 2452) ∈ gFL := by decide +kernel
theorem y362_780 : decode (gb 362) 780 = .ok (.putfield 727, 3) := by decide +kernel
theorem yn_362_11_148 : gFin 362 11 148 := by decide +kernel
theorem y362_783 : decode (gb 362) 783 = .ok (.aload_n 0, 1) := by decide +kernel
theorem y362_784 : decode (gb 362) 784 = .ok (.bipush 40, 2) := by decide +kernel
theorem y362_786 : decode (gb 362) 786 = .ok (.newarray .int, 2) := by decide +kernel
theorem yf_12_730 : (12 * 1000 + 730, 11, 149, 2453) ∈ gFL := by decide +kernel
theorem y362_788 : decode (gb 362) 788 = .ok (.putfield 730, 3) := by decide +kernel
theorem yn_362_11_149 : gFin 362 11 149 := by decide +kernel
theorem y362_791 : decode (gb 362) 791 = .ok (.aload_n 0, 1) := by decide +kernel
theorem y362_792 : decode (gb 362) 792 = .ok (.bipush 40, 2) := by decide +kernel
theorem y362_794 : decode (gb 362) 794 = .ok (.newarray .int, 2) := by decide +kernel
theorem yf_12_733 : (12 * 1000 + 733, 11, 150, 2454) ∈ gFL := by decide +kernel
theorem y362_796 : decode (gb 362) 796 = .ok (.putfield 733, 3) := by decide +kernel
theorem yn_362_11_150 : gFin 362 11 150 := by decide +kernel
theorem y362_799 : decode (gb 362) 799 = .ok (.aload_n 0, 1) := by decide +kernel
theorem y362_800 : decode (gb 362) 800 = .ok (.bipush 24, 2) := by decide +kernel
theorem y362_802 : decode (gb 362) 802 = .ok (.newarray .boolean, 2) := by decide +kernel
theorem yf_12_748 : (12 * 1000 + 748, 11, 151, 2455) ∈ gFL := by decide +kernel
theorem y362_804 : decode (gb 362) 804 = .ok (.putfield 748, 3) := by decide +kernel
theorem yn_362_11_151 : gFin 362 11 151 := by decide +kernel
theorem y362_807 : decode (gb 362) 807 = .ok (.aload_n 0, 1) := by decide +kernel
theorem y362_808 : decode (gb 362) 808 = .ok (.bipush 24, 2) := by decide +kernel
theorem y362_810 : decode (gb 362) 810 = .ok (.newarray .int, 2) := by decide +kernel
theorem yf_12_754 : (12 * 1000 + 754, 11, 152, 2456) ∈ gFL := by decide +kernel
theorem y362_812 : decode (gb 362) 812 = .ok (.putfield 754, 3) := by decide +kernel
theorem yn_362_11_152 : gFin 362 11 152 := by decide +kernel
theorem y362_815 : decode (gb 362) 815 = .ok (.aload_n 0, 1) := by decide +kernel
theorem y362_816 : decode (gb 362) 816 = .ok (.bipush 24, 2) := by decide +kernel
theorem y362_818 : decode (gb 362) 818 = .ok (.newarray .int, 2) := by decide +kernel
theorem yf_12_751 : (12 * 1000 + 751, 11, 153, 2457) ∈ gFL := by decide +kernel
theorem y362_820 : decode (gb 362) 820 = .ok (.putfield 751, 3) := by decide +kernel
theorem yn_362_11_153 : gFin 362 11 153 := by decide +kernel
theorem y362_823 : decode (gb 362) 823 = .ok (.aload_n 0, 1) := by decide +kernel
theorem y362_824 : decode (gb 362) 824 = .ok (.invokevirtual 765, 3) := by decide +kernel
theorem yl_12_765 : (12 * 1000 + 765, 1, 298, 0, 11, 2300, 2302, 178, 193) ∈ gCL := by decide +kernel
theorem yc_298 : gmc 298 = 1 := by decide +kernel
theorem ys_298 : gms 298 = 512 := by decide +kernel
theorem y362_827 : decode (gb 362) 827 = .ok (.return_, 1) := by decide +kernel
theorem yr_362 : grt 362 = none := by decide +kernel
theorem y369_0 : decode (gb 369) 0 = .ok (.new 7, 3) := by decide +kernel
theorem yw_16_7 : (16 * 1000 + 7, 10, 197, 198, 180) ∈ gNL := by decide +kernel
theorem yg_10 : gnf 10 = 10 := by decide +kernel
theorem yo_369 : gown 369 = 16 := by decide +kernel
theorem y369_3 : decode (gb 369) 3 = .ok (.dup, 1) := by decide +kernel
theorem y369_4 : decode (gb 369) 4 = .ok (.invokespecial 9, 3) := by decide +kernel
theorem yl_16_9 : (16 * 1000 + 9, 2, 196, 0, 10, 199, 200, 0, 180) ∈ gCL := by decide +kernel
theorem yc_196 : gmc 196 = 128 := by decide +kernel
theorem ys_196 : gms 196 = 75394 := by decide +kernel
theorem y369_7 : decode (gb 369) 7 = .ok (.astore_n 1, 1) := by decide +kernel
theorem y369_8 : decode (gb 369) 8 = .ok (.new 10, 3) := by decide +kernel
theorem yw_16_10 : (16 * 1000 + 10, 11, 2295, 1859, 193) ∈ gNL := by decide +kernel
theorem yg_11 : gnf 11 = 154 := by decide +kernel
theorem y369_11 : decode (gb 369) 11 = .ok (.dup, 1) := by decide +kernel
theorem y369_12 : decode (gb 369) 12 = .ok (.invokespecial 12, 3) := by decide +kernel
theorem yl_16_12 : (16 * 1000 + 12, 2, 362, 0, 11, 2296, 2297, 0, 193) ∈ gCL := by decide +kernel
theorem yc_362 : gmc 362 = 92 := by decide +kernel
theorem ys_362 : gms 362 = 208290 := by decide +kernel
theorem y369_15 : decode (gb 369) 15 = .ok (.astore_n 2, 1) := by decide +kernel
theorem y369_16 : decode (gb 369) 16 = .ok (.iconst 0, 1) := by decide +kernel
theorem y369_17 : decode (gb 369) 17 = .ok (.istore_n 3, 1) := by decide +kernel
def kr1 (R : Rf) : Rf := (wr R 1 0 2)
theorem kz1 {R : Rf} {μ : Mem} (hz : Zr 2 R μ) : Zr 3 (kr1 R) μ := (Zr.wr (Zr.up (m := 3) hz (by decide)) (by decide))
theorem kb1 {R : Rf} (h : Bd R) : Bd (kr1 R) := (Bd.wr h (by decide))
theorem kc1 {L : Nat} {R : Rf} {μ : Mem} (hz : Zr 2 R μ) : Mx 63 [.ref 1, .int 256] (pm L 2 R μ) (pm L 3 (kr1 R) μ, none) := by
  refine Mx_of (gML_all 63 (by decide) (by decide) (by decide)) (by decide +kernel) ?_
  show Sx 63 0 [(0, .ref 1), (1, .int 256)] [] 0 0 (pm L 2 R μ) _
  unfold kr1
  have hz0 := hz
  refine sx_aload_n (i := 0) y63_0 rfl rfl ?_
  refine p_obj y63_1 yo_63 yj_2_1 (by decide) (by decide +kernel) (by decide +kernel) ?_
  refine sx_aload_n (i := 0) y63_4 rfl rfl ?_
  refine sx_iload_n (i := 1) y63_5 rfl rfl ?_
  refine sx_iconst (v := 0) y63_6 (by decide) ?_
  refine p_max (z := 256) y63_7 yo_63 yx_2_7 (by decide) (by decide +kernel) (by decide +kernel) (by decide +kernel) (by decide +kernel) (by decide) ?_
  refine p_newarr (N := 256) (nc2 := 1) (ns2 := 256) y63_10 (Or.inr (Or.inl ⟨rfl, rfl⟩)) (by decide) (by decide) (by decide) hz (by decide) rfl rfl rfl (by decide +kernel) (by decide +kernel) (fun hz => ?_)
  refine p_putR (k := 0) y63_12 yo_63 yf_2_13 (by decide) hz (by decide) rfl yn_63_1_0 (Or.inr ⟨_, rfl⟩) (fun hz => ?_)
  exact p_ret y63_15 yr_63 (by decide +kernel) (by decide +kernel)
def kr3 (R : Rf) : Rf := (wr R 3 0 4)
theorem kz3 {R : Rf} {μ : Mem} (hz : Zr 4 R μ) : Zr 5 (kr3 R) μ := (Zr.wr (Zr.up (m := 5) hz (by decide)) (by decide))
theorem kb3 {R : Rf} (h : Bd R) : Bd (kr3 R) := (Bd.wr h (by decide))
theorem kc3 {L : Nat} {R : Rf} {μ : Mem} (hz : Zr 4 R μ) : Mx 63 [.ref 3, .int 138] (pm L 4 R μ) (pm L 5 (kr3 R) μ, none) := by
  refine Mx_of (gML_all 63 (by decide) (by decide) (by decide)) (by decide +kernel) ?_
  show Sx 63 0 [(0, .ref 3), (1, .int 138)] [] 0 0 (pm L 4 R μ) _
  unfold kr3
  have hz0 := hz
  refine sx_aload_n (i := 0) y63_0 rfl rfl ?_
  refine p_obj y63_1 yo_63 yj_2_1 (by decide) (by decide +kernel) (by decide +kernel) ?_
  refine sx_aload_n (i := 0) y63_4 rfl rfl ?_
  refine sx_iload_n (i := 1) y63_5 rfl rfl ?_
  refine sx_iconst (v := 0) y63_6 (by decide) ?_
  refine p_max (z := 138) y63_7 yo_63 yx_2_7 (by decide) (by decide +kernel) (by decide +kernel) (by decide +kernel) (by decide +kernel) (by decide) ?_
  refine p_newarr (N := 138) (nc2 := 1) (ns2 := 138) y63_10 (Or.inr (Or.inl ⟨rfl, rfl⟩)) (by decide) (by decide) (by decide) hz (by decide) rfl rfl rfl (by decide +kernel) (by decide +kernel) (fun hz => ?_)
  refine p_putR (k := 0) y63_12 yo_63 yf_2_13 (by decide) hz (by decide) rfl yn_63_1_0 (Or.inr ⟨_, rfl⟩) (fun hz => ?_)
  exact p_ret y63_15 yr_63 (by decide +kernel) (by decide +kernel)
def kr5 (R : Rf) : Rf := (wr R 5 1 6)
def ku5 (μ : Mem) : Mem := (setI μ 5 0 32000)
theorem kz5 {R : Rf} {μ : Mem} (hz : Zr 6 R μ) : Zr 7 (kr5 R) (ku5 μ) := (Zr.wr (Zr.up (m := 7) (Zr.sI hz (by decide)) (by decide)) (by decide))
theorem kb5 {R : Rf} (h : Bd R) : Bd (kr5 R) := (Bd.wr h (by decide))
theorem kc5 {L : Nat} {R : Rf} {μ : Mem} (hz : Zr 6 R μ) : Mx 107 [.ref 5, .int 32000] (pm L 6 R μ) (pm L 7 (kr5 R) (ku5 μ), none) := by
  refine Mx_of (gML_all 107 (by decide) (by decide) (by decide)) (by decide +kernel) ?_
  show Sx 107 0 [(0, .ref 5), (1, .int 32000)] [] 0 0 (pm L 6 R μ) _
  unfold kr5 ku5
  have hz0 := hz
  refine sx_aload_n (i := 0) y107_0 rfl rfl ?_
  refine p_obj y107_1 yo_107 yj_5_1 (by decide) (by decide +kernel) (by decide +kernel) ?_
  refine sx_aload_n (i := 0) y107_4 rfl rfl ?_
  refine sx_iload_n (i := 1) y107_5 rfl rfl ?_
  refine sx_iconst (v := 0) y107_6 (by decide) ?_
  refine p_max (z := 32000) y107_7 yo_107 yx_5_7 (by decide) (by decide +kernel) (by decide +kernel) (by decide +kernel) (by decide +kernel) (by decide) ?_
  refine p_putI (k := 0) (y := 32000) y107_10 yo_107 yf_5_13 (by decide) hz (by decide) rfl yn_107_4_0 rfl (by decide) (fun hz => ?_)
  refine sx_aload_n (i := 0) y107_13 rfl rfl ?_
  refine sx_aload_n (i := 0) y107_14 rfl rfl ?_
  refine p_getI (k := 0) (x := 32000) y107_15 yo_107 yf_5_13 (by decide) (by decide) rfl rfl rfl ?_
  refine sx_bipush (v := 32) y107_18 (by decide) ?_
  refine sx_idiv y107_20 (by decide) ?_
  refine sx_iconst (v := 2) y107_21 (by decide) ?_
  refine sx_iadd y107_22 ?_
  refine p_newarr (N := 1002) (nc2 := 1) (ns2 := 1002) y107_23 (Or.inl ⟨rfl, rfl⟩) (by decide) (by decide) (by decide) hz (by decide) rfl rfl rfl (by decide +kernel) (by decide +kernel) (fun hz => ?_)
  refine p_putR (k := 1) y107_25 yo_107 yf_5_19 (by decide) hz (by decide) rfl yn_107_4_1 (Or.inr ⟨_, rfl⟩) (fun hz => ?_)
  exact p_ret y107_28 yr_107 (by decide +kernel) (by decide +kernel)
def kr7 (R : Rf) : Rf := (wr R 7 1 8)
def ku7 (μ : Mem) : Mem := (setI μ 7 0 64000)
theorem kz7 {R : Rf} {μ : Mem} (hz : Zr 8 R μ) : Zr 9 (kr7 R) (ku7 μ) := (Zr.wr (Zr.up (m := 9) (Zr.sI hz (by decide)) (by decide)) (by decide))
theorem kb7 {R : Rf} (h : Bd R) : Bd (kr7 R) := (Bd.wr h (by decide))
theorem kc7 {L : Nat} {R : Rf} {μ : Mem} (hz : Zr 8 R μ) : Mx 107 [.ref 7, .int 64000] (pm L 8 R μ) (pm L 9 (kr7 R) (ku7 μ), none) := by
  refine Mx_of (gML_all 107 (by decide) (by decide) (by decide)) (by decide +kernel) ?_
  show Sx 107 0 [(0, .ref 7), (1, .int 64000)] [] 0 0 (pm L 8 R μ) _
  unfold kr7 ku7
  have hz0 := hz
  refine sx_aload_n (i := 0) y107_0 rfl rfl ?_
  refine p_obj y107_1 yo_107 yj_5_1 (by decide) (by decide +kernel) (by decide +kernel) ?_
  refine sx_aload_n (i := 0) y107_4 rfl rfl ?_
  refine sx_iload_n (i := 1) y107_5 rfl rfl ?_
  refine sx_iconst (v := 0) y107_6 (by decide) ?_
  refine p_max (z := 64000) y107_7 yo_107 yx_5_7 (by decide) (by decide +kernel) (by decide +kernel) (by decide +kernel) (by decide +kernel) (by decide) ?_
  refine p_putI (k := 0) (y := 64000) y107_10 yo_107 yf_5_13 (by decide) hz (by decide) rfl yn_107_4_0 rfl (by decide) (fun hz => ?_)
  refine sx_aload_n (i := 0) y107_13 rfl rfl ?_
  refine sx_aload_n (i := 0) y107_14 rfl rfl ?_
  refine p_getI (k := 0) (x := 64000) y107_15 yo_107 yf_5_13 (by decide) (by decide) rfl rfl rfl ?_
  refine sx_bipush (v := 32) y107_18 (by decide) ?_
  refine sx_idiv y107_20 (by decide) ?_
  refine sx_iconst (v := 2) y107_21 (by decide) ?_
  refine sx_iadd y107_22 ?_
  refine p_newarr (N := 2002) (nc2 := 1) (ns2 := 2002) y107_23 (Or.inl ⟨rfl, rfl⟩) (by decide) (by decide) (by decide) hz (by decide) rfl rfl rfl (by decide +kernel) (by decide +kernel) (fun hz => ?_)
  refine p_putR (k := 1) y107_25 yo_107 yf_5_19 (by decide) hz (by decide) rfl yn_107_4_1 (Or.inr ⟨_, rfl⟩) (fun hz => ?_)
  exact p_ret y107_28 yr_107 (by decide +kernel) (by decide +kernel)
def kr10 (R : Rf) : Rf := (wr R 10 0 11)
theorem kz10 {R : Rf} {μ : Mem} (hz : Zr 11 R μ) : Zr 12 (kr10 R) μ := (Zr.wr (Zr.up (m := 12) hz (by decide)) (by decide))
theorem kb10 {R : Rf} (h : Bd R) : Bd (kr10 R) := (Bd.wr h (by decide))
theorem kc10 {L : Nat} {R : Rf} {μ : Mem} (hz : Zr 11 R μ) : Mx 63 [.ref 10, .int 112] (pm L 11 R μ) (pm L 12 (kr10 R) μ, none) := by
  refine Mx_of (gML_all 63 (by decide) (by decide) (by decide)) (by decide +kernel) ?_
  show Sx 63 0 [(0, .ref 10), (1, .int 112)] [] 0 0 (pm L 11 R μ) _
  unfold kr10
  have hz0 := hz
  refine sx_aload_n (i := 0) y63_0 rfl rfl ?_
  refine p_obj y63_1 yo_63 yj_2_1 (by decide) (by decide +kernel) (by decide +kernel) ?_
  refine sx_aload_n (i := 0) y63_4 rfl rfl ?_
  refine sx_iload_n (i := 1) y63_5 rfl rfl ?_
  refine sx_iconst (v := 0) y63_6 (by decide) ?_
  refine p_max (z := 112) y63_7 yo_63 yx_2_7 (by decide) (by decide +kernel) (by decide +kernel) (by decide +kernel) (by decide +kernel) (by decide) ?_
  refine p_newarr (N := 112) (nc2 := 1) (ns2 := 112) y63_10 (Or.inr (Or.inl ⟨rfl, rfl⟩)) (by decide) (by decide) (by decide) hz (by decide) rfl rfl rfl (by decide +kernel) (by decide +kernel) (fun hz => ?_)
  refine p_putR (k := 0) y63_12 yo_63 yf_2_13 (by decide) hz (by decide) rfl yn_63_1_0 (Or.inr ⟨_, rfl⟩) (fun hz => ?_)
  exact p_ret y63_15 yr_63 (by decide +kernel) (by decide +kernel)
def kr9 (R : Rf) : Rf := (wr (kr10 R) 9 0 10)
def ku9 (μ : Mem) : Mem := (setI μ 9 16 16)
theorem kz9 {R : Rf} {μ : Mem} (hz : Zr 10 R μ) : Zr 12 (kr9 R) (ku9 μ) := (Zr.sI (Zr.wr (kz10 (Zr.up (m := 11) hz (by decide))) (by decide)) (by decide))
theorem kb9 {R : Rf} (h : Bd R) : Bd (kr9 R) := (Bd.wr (kb10 h) (by decide))
theorem kc9 {L : Nat} {R : Rf} {μ : Mem} (hz : Zr 10 R μ) : Mx 180 [.ref 9] (pm L 10 R μ) (pm L 12 (kr9 R) (ku9 μ), none) := by
  refine Mx_of (gML_all 180 (by decide) (by decide) (by decide)) (by decide +kernel) ?_
  show Sx 180 0 [(0, .ref 9)] [] 0 0 (pm L 10 R μ) _
  unfold kr9 ku9
  have hz0 := hz
  refine sx_aload_n (i := 0) y180_0 rfl rfl ?_
  refine p_obj y180_1 yo_180 yj_10_1 (by decide) (by decide +kernel) (by decide +kernel) ?_
  refine sx_aload_n (i := 0) y180_4 rfl rfl ?_
  refine p_new (nc2 := 1) (ns2 := 2) y180_5 yo_180 yw_10_7 (by decide) hz (by decide) rfl yg_1 rfl rfl (by decide +kernel) (by decide +kernel) (fun hz => ?_)
  refine sx_dup y180_8 rfl ?_
  refine sx_bipush (v := 112) y180_9 (by decide) ?_
  refine p_callI (vs := [.int 112]) (nc2 := 2) (ns2 := 1026) y180_11 yo_180 yl_10_11 (by decide) (gML_all 63 (by decide) (by decide) (by decide)) gcw_63 yr_63 (by decide) (kc10 hz) rfl rfl yc_63 ys_63 rfl ⟨by decide +kernel, by decide +kernel, by decide +kernel, by decide +kernel, by decide⟩ rfl rfl ?_
  replace hz := kz10 hz
  refine p_putR (k := 0) y180_14 yo_180 yf_10_14 (by decide) hz (by decide) rfl yn_180_9_0 (Or.inl ⟨_, rfl⟩) (fun hz => ?_)
  refine sx_aload_n (i := 0) y180_17 rfl rfl ?_
  refine sx_bipush (v := 16) y180_18 (by decide) ?_
  refine p_putI (k := 16) (y := 16) y180_20 yo_180 yf_10_20 (by decide) hz (by decide) rfl yn_180_9_16 rfl (by decide) (fun hz => ?_)
  exact p_ret y180_23 yr_180 (by decide +kernel) (by decide +kernel)
def kr13 (R : Rf) : Rf := (wr R 13 0 14)
theorem kz13 {R : Rf} {μ : Mem} (hz : Zr 14 R μ) : Zr 15 (kr13 R) μ := (Zr.wr (Zr.up (m := 15) hz (by decide)) (by decide))
theorem kb13 {R : Rf} (h : Bd R) : Bd (kr13 R) := (Bd.wr h (by decide))
theorem kc13 {L : Nat} {R : Rf} {μ : Mem} (hz : Zr 14 R μ) : Mx 63 [.ref 13, .int 100] (pm L 14 R μ) (pm L 15 (kr13 R) μ, none) := by
  refine Mx_of (gML_all 63 (by decide) (by decide) (by decide)) (by decide +kernel) ?_
  show Sx 63 0 [(0, .ref 13), (1, .int 100)] [] 0 0 (pm L 14 R μ) _
  unfold kr13
  have hz0 := hz
  refine sx_aload_n (i := 0) y63_0 rfl rfl ?_
  refine p_obj y63_1 yo_63 yj_2_1 (by decide) (by decide +kernel) (by decide +kernel) ?_
  refine sx_aload_n (i := 0) y63_4 rfl rfl ?_
  refine sx_iload_n (i := 1) y63_5 rfl rfl ?_
  refine sx_iconst (v := 0) y63_6 (by decide) ?_
  refine p_max (z := 100) y63_7 yo_63 yx_2_7 (by decide) (by decide +kernel) (by decide +kernel) (by decide +kernel) (by decide +kernel) (by decide) ?_
  refine p_newarr (N := 100) (nc2 := 1) (ns2 := 100) y63_10 (Or.inr (Or.inl ⟨rfl, rfl⟩)) (by decide) (by decide) (by decide) hz (by decide) rfl rfl rfl (by decide +kernel) (by decide +kernel) (fun hz => ?_)
  refine p_putR (k := 0) y63_12 yo_63 yf_2_13 (by decide) hz (by decide) rfl yn_63_1_0 (Or.inr ⟨_, rfl⟩) (fun hz => ?_)
  exact p_ret y63_15 yr_63 (by decide +kernel) (by decide +kernel)
def kr15 (R : Rf) : Rf := (wr (wr (wr (wr (wr R 15 0 16) 15 1 17) 15 2 18) 15 3 19) 15 4 20)
theorem kz15 {R : Rf} {μ : Mem} (hz : Zr 16 R μ) : Zr 21 (kr15 R) μ := (Zr.wr (Zr.up (m := 21) (Zr.wr (Zr.up (m := 20) (Zr.wr (Zr.up (m := 19) (Zr.wr (Zr.up (m := 18) (Zr.wr (Zr.up (m := 17) hz (by decide)) (by decide)) (by decide)) (by decide)) (by decide)) (by decide)) (by decide)) (by decide)) (by decide)) (by decide))
theorem kb15 {R : Rf} (h : Bd R) : Bd (kr15 R) := (Bd.wr (Bd.wr (Bd.wr (Bd.wr (Bd.wr h (by decide)) (by decide)) (by decide)) (by decide)) (by decide))
theorem kc15 {L : Nat} {R : Rf} {μ : Mem} (hz : Zr 16 R μ) : Mx 157 [.ref 15, .int 40, .int 4800] (pm L 16 R μ) (pm L 21 (kr15 R) μ, none) := by
  refine Mx_of (gML_all 157 (by decide) (by decide) (by decide)) (by decide +kernel) ?_
  show Sx 157 0 [(0, .ref 15), (1, .int 40), (2, .int 4800)] [] 0 0 (pm L 16 R μ) _
  unfold kr15
  have hz0 := hz
  refine sx_aload_n (i := 0) y157_0 rfl rfl ?_
  refine p_obj y157_1 yo_157 yj_8_1 (by decide) (by decide +kernel) (by decide +kernel) ?_
  refine sx_iload_n (i := 1) y157_4 rfl rfl ?_
  refine sx_iconst (v := 0) y157_5 (by decide) ?_
  refine p_max (z := 40) y157_6 yo_157 yx_8_7 (by decide) (by decide +kernel) (by decide +kernel) (by decide +kernel) (by decide +kernel) (by decide) ?_
  refine y_istore_n (lo2 := [(3, .int 40), (0, .ref 15), (1, .int 40), (2, .int 4800)]) y157_9 rfl (by decide +kernel) rfl ?_
  refine sx_aload_n (i := 0) y157_10 rfl rfl ?_
  refine sx_iload_n (i := 2) y157_11 rfl rfl ?_
  refine sx_iconst (v := 0) y157_12 (by decide) ?_
  refine p_max (z := 4800) y157_13 yo_157 yx_8_7 (by decide) (by decide +kernel) (by decide +kernel) (by decide +kernel) (by decide +kernel) (by decide) ?_
  refine p_newarr (N := 4800) (nc2 := 1) (ns2 := 4800) y157_16 (Or.inr (Or.inl ⟨rfl, rfl⟩)) (by decide) (by decide) (by decide) hz (by decide) rfl rfl rfl (by decide +kernel) (by decide +kernel) (fun hz => ?_)
  refine p_putR (k := 0) y157_18 yo_157 yf_8_13 (by decide) hz (by decide) rfl yn_157_7_0 (Or.inr ⟨_, rfl⟩) (fun hz => ?_)
  refine sx_aload_n (i := 0) y157_21 rfl rfl ?_
  refine sx_iload_n (i := 3) y157_22 rfl rfl ?_
  refine p_newarr (N := 40) (nc2 := 2) (ns2 := 4840) y157_23 (Or.inl ⟨rfl, rfl⟩) (by decide) (by decide) (by decide) hz (by decide) rfl rfl rfl (by decide +kernel) (by decide +kernel) (fun hz => ?_)
  refine p_putR (k := 1) y157_25 yo_157 yf_8_19 (by decide) hz (by decide) rfl yn_157_7_1 (Or.inr ⟨_, rfl⟩) (fun hz => ?_)
  refine sx_aload_n (i := 0) y157_28 rfl rfl ?_
  refine sx_iload_n (i := 3) y157_29 rfl rfl ?_
  refine p_newarr (N := 40) (nc2 := 3) (ns2 := 4880) y157_30 (Or.inl ⟨rfl, rfl⟩) (by decide) (by decide) (by decide) hz (by decide) rfl rfl rfl (by decide +kernel) (by decide +kernel) (fun hz => ?_)
  refine p_putR (k := 2) y157_32 yo_157 yf_8_23 (by decide) hz (by decide) rfl yn_157_7_2 (Or.inr ⟨_, rfl⟩) (fun hz => ?_)
  refine sx_aload_n (i := 0) y157_35 rfl rfl ?_
  refine sx_iload_n (i := 3) y157_36 rfl rfl ?_
  refine p_newarr (N := 40) (nc2 := 4) (ns2 := 4920) y157_37 (Or.inl ⟨rfl, rfl⟩) (by decide) (by decide) (by decide) hz (by decide) rfl rfl rfl (by decide +kernel) (by decide +kernel) (fun hz => ?_)
  refine p_putR (k := 3) y157_39 yo_157 yf_8_26 (by decide) hz (by decide) rfl yn_157_7_3 (Or.inr ⟨_, rfl⟩) (fun hz => ?_)
  refine sx_aload_n (i := 0) y157_42 rfl rfl ?_
  refine sx_iload_n (i := 3) y157_43 rfl rfl ?_
  refine p_newarr (N := 40) (nc2 := 5) (ns2 := 4960) y157_44 (Or.inl ⟨rfl, rfl⟩) (by decide) (by decide) (by decide) hz (by decide) rfl rfl rfl (by decide +kernel) (by decide +kernel) (fun hz => ?_)
  refine p_putR (k := 4) y157_46 yo_157 yf_8_29 (by decide) hz (by decide) rfl yn_157_7_4 (Or.inr ⟨_, rfl⟩) (fun hz => ?_)
  exact p_ret y157_49 yr_157 (by decide +kernel) (by decide +kernel)
def kr12 (R : Rf) : Rf := (wr (wr (wr (wr (wr (wr (wr (kr15 (wr (kr13 R) 12 0 13)) 12 1 15) 12 2 21) 12 3 22) 12 4 23) 12 5 24) 12 6 25) 12 7 26)
def ku12 (μ : Mem) : Mem := (setI μ 12 12 (-1))
theorem kz12 {R : Rf} {μ : Mem} (hz : Zr 13 R μ) : Zr 27 (kr12 R) (ku12 μ) := (Zr.sI (Zr.wr (Zr.up (m := 27) (Zr.wr (Zr.up (m := 26) (Zr.wr (Zr.up (m := 25) (Zr.wr (Zr.up (m := 24) (Zr.wr (Zr.up (m := 23) (Zr.wr (Zr.up (m := 22) (Zr.wr (kz15 (Zr.up (m := 16) (Zr.wr (kz13 (Zr.up (m := 14) hz (by decide))) (by decide)) (by decide))) (by decide)) (by decide)) (by decide)) (by decide)) (by decide)) (by decide)) (by decide)) (by decide)) (by decide)) (by decide)) (by decide)) (by decide)) (by decide)) (by decide))
theorem kb12 {R : Rf} (h : Bd R) : Bd (kr12 R) := (Bd.wr (Bd.wr (Bd.wr (Bd.wr (Bd.wr (Bd.wr (Bd.wr (kb15 (Bd.wr (kb13 h) (by decide))) (by decide)) (by decide)) (by decide)) (by decide)) (by decide)) (by decide)) (by decide))
theorem kc12 {L : Nat} {R : Rf} {μ : Mem} (hz : Zr 13 R μ) : Mx 79 [.ref 12] (pm L 13 R μ) (pm L 27 (kr12 R) (ku12 μ), none) := by
  refine Mx_of (gML_all 79 (by decide) (by decide) (by decide)) (by decide +kernel) ?_
  show Sx 79 0 [(0, .ref 12)] [] 0 0 (pm L 13 R μ) _
  unfold kr12 ku12
  have hz0 := hz
  refine sx_aload_n (i := 0) y79_0 rfl rfl ?_
  refine p_obj y79_1 yo_79 yj_3_1 (by decide) (by decide +kernel) (by decide +kernel) ?_
  refine sx_aload_n (i := 0) y79_4 rfl rfl ?_
  refine p_new (nc2 := 1) (ns2 := 2) y79_5 yo_79 yw_3_7 (by decide) hz (by decide) rfl yg_1 rfl rfl (by decide +kernel) (by decide +kernel) (fun hz => ?_)
  refine sx_dup y79_8 rfl ?_
  refine sx_bipush (v := 100) y79_9 (by decide) ?_
  refine p_callI (vs := [.int 100]) (nc2 := 2) (ns2 := 1026) y79_11 yo_79 yl_3_9 (by decide) (gML_all 63 (by decide) (by decide) (by decide)) gcw_63 yr_63 (by decide) (kc13 hz) rfl rfl yc_63 ys_63 rfl ⟨by decide +kernel, by decide +kernel, by decide +kernel, by decide +kernel, by decide⟩ rfl rfl ?_
  replace hz := kz13 hz
  refine p_putR (k := 0) y79_14 yo_79 yf_3_12 (by decide) hz (by decide) rfl yn_79_2_0 (Or.inl ⟨_, rfl⟩) (fun hz => ?_)
  refine sx_aload_n (i := 0) y79_17 rfl rfl ?_
  refine p_new (nc2 := 3) (ns2 := 1033) y79_18 yo_79 yw_3_18 (by decide) hz (by decide) rfl yg_7 rfl rfl (by decide +kernel) (by decide +kernel) (fun hz => ?_)
  refine sx_dup y79_21 rfl ?_
  refine sx_bipush (v := 40) y79_22 (by decide) ?_
  refine sx_sipush (v := 4800) y79_24 (by decide) ?_
  refine p_callI (vs := [.int 40, .int 4800]) (nc2 := 8) (ns2 := 6153) y79_27 yo_79 yl_3_20 (by decide) (gML_all 157 (by decide) (by decide) (by decide)) gcw_157 yr_157 (by decide) (kc15 hz) rfl rfl yc_157 ys_157 rfl ⟨by decide +kernel, by decide +kernel, by decide +kernel, by decide +kernel, by decide⟩ rfl rfl ?_
  replace hz := kz15 hz
  refine p_putR (k := 1) y79_30 yo_79 yf_3_23 (by decide) hz (by decide) rfl yn_79_2_1 (Or.inl ⟨_, rfl⟩) (fun hz => ?_)
  refine sx_aload_n (i := 0) y79_33 rfl rfl ?_
  refine sx_bipush (v := 24) y79_34 (by decide) ?_
  refine p_newarr (N := 24) (nc2 := 9) (ns2 := 6177) y79_36 (Or.inl ⟨rfl, rfl⟩) (by decide) (by decide) (by decide) hz (by decide) rfl rfl rfl (by decide +kernel) (by decide +kernel) (fun hz => ?_)
  refine p_putR (k := 2) y79_38 yo_79 yf_3_29 (by decide) hz (by decide) rfl yn_79_2_2 (Or.inr ⟨_, rfl⟩) (fun hz => ?_)
  refine sx_aload_n (i := 0) y79_41 rfl rfl ?_
  refine sx_bipush (v := 24) y79_42 (by decide) ?_
  refine p_newarr (N := 24) (nc2 := 10) (ns2 := 6201) y79_44 (Or.inl ⟨rfl, rfl⟩) (by decide) (by decide) (by decide) hz (by decide) rfl rfl rfl (by decide +kernel) (by decide +kernel) (fun hz => ?_)
  refine p_putR (k := 3) y79_46 yo_79 yf_3_33 (by decide) hz (by decide) rfl yn_79_2_3 (Or.inr ⟨_, rfl⟩) (fun hz => ?_)
  refine sx_aload_n (i := 0) y79_49 rfl rfl ?_
  refine sx_bipush (v := 24) y79_50 (by decide) ?_
  refine p_newarr (N := 24) (nc2 := 11) (ns2 := 6225) y79_52 (Or.inl ⟨rfl, rfl⟩) (by decide) (by decide) (by decide) hz (by decide) rfl rfl rfl (by decide +kernel) (by decide +kernel) (fun hz => ?_)
  refine p_putR (k := 4) y79_54 yo_79 yf_3_36 (by decide) hz (by decide) rfl yn_79_2_4 (Or.inr ⟨_, rfl⟩) (fun hz => ?_)
  refine sx_aload_n (i := 0) y79_57 rfl rfl ?_
  refine sx_bipush (v := 64) y79_58 (by decide) ?_
  refine p_newarr (N := 64) (nc2 := 12) (ns2 := 6289) y79_60 (Or.inl ⟨rfl, rfl⟩) (by decide) (by decide) (by decide) hz (by decide) rfl rfl rfl (by decide +kernel) (by decide +kernel) (fun hz => ?_)
  refine p_putR (k := 5) y79_62 yo_79 yf_3_39 (by decide) hz (by decide) rfl yn_79_2_5 (Or.inr ⟨_, rfl⟩) (fun hz => ?_)
  refine sx_aload_n (i := 0) y79_65 rfl rfl ?_
  refine sx_bipush (v := 64) y79_66 (by decide) ?_
  refine p_newarr (N := 64) (nc2 := 13) (ns2 := 6353) y79_68 (Or.inl ⟨rfl, rfl⟩) (by decide) (by decide) (by decide) hz (by decide) rfl rfl rfl (by decide +kernel) (by decide +kernel) (fun hz => ?_)
  refine p_putR (k := 6) y79_70 yo_79 yf_3_42 (by decide) hz (by decide) rfl yn_79_2_6 (Or.inr ⟨_, rfl⟩) (fun hz => ?_)
  refine sx_aload_n (i := 0) y79_73 rfl rfl ?_
  refine sx_bipush (v := 64) y79_74 (by decide) ?_
  refine p_newarr (N := 64) (nc2 := 14) (ns2 := 6417) y79_76 (Or.inl ⟨rfl, rfl⟩) (by decide) (by decide) (by decide) hz (by decide) rfl rfl rfl (by decide +kernel) (by decide +kernel) (fun hz => ?_)
  refine p_putR (k := 7) y79_78 yo_79 yf_3_45 (by decide) hz (by decide) rfl yn_79_2_7 (Or.inr ⟨_, rfl⟩) (fun hz => ?_)
  refine sx_aload_n (i := 0) y79_81 rfl rfl ?_
  refine sx_iconst (v := (-1)) y79_82 (by decide) ?_
  refine p_putI (k := 12) (y := (-1)) y79_83 yo_79 yf_3_48 (by decide) hz (by decide) rfl yn_79_2_12 rfl (by decide) (fun hz => ?_)
  exact p_ret y79_86 yr_79 (by decide +kernel) (by decide +kernel)
def kr29 (R : Rf) : Rf := (wr (wr (wr (wr (wr R 29 0 30) 29 1 31) 29 2 32) 29 3 33) 29 4 34)
theorem kz29 {R : Rf} {μ : Mem} (hz : Zr 30 R μ) : Zr 35 (kr29 R) μ := (Zr.wr (Zr.up (m := 35) (Zr.wr (Zr.up (m := 34) (Zr.wr (Zr.up (m := 33) (Zr.wr (Zr.up (m := 32) (Zr.wr (Zr.up (m := 31) hz (by decide)) (by decide)) (by decide)) (by decide)) (by decide)) (by decide)) (by decide)) (by decide)) (by decide)) (by decide))
theorem kb29 {R : Rf} (h : Bd R) : Bd (kr29 R) := (Bd.wr (Bd.wr (Bd.wr (Bd.wr (Bd.wr h (by decide)) (by decide)) (by decide)) (by decide)) (by decide))
theorem kc29 {L : Nat} {R : Rf} {μ : Mem} (hz : Zr 30 R μ) : Mx 157 [.ref 29, .int 32, .int 1920] (pm L 30 R μ) (pm L 35 (kr29 R) μ, none) := by
  refine Mx_of (gML_all 157 (by decide) (by decide) (by decide)) (by decide +kernel) ?_
  show Sx 157 0 [(0, .ref 29), (1, .int 32), (2, .int 1920)] [] 0 0 (pm L 30 R μ) _
  unfold kr29
  have hz0 := hz
  refine sx_aload_n (i := 0) y157_0 rfl rfl ?_
  refine p_obj y157_1 yo_157 yj_8_1 (by decide) (by decide +kernel) (by decide +kernel) ?_
  refine sx_iload_n (i := 1) y157_4 rfl rfl ?_
  refine sx_iconst (v := 0) y157_5 (by decide) ?_
  refine p_max (z := 32) y157_6 yo_157 yx_8_7 (by decide) (by decide +kernel) (by decide +kernel) (by decide +kernel) (by decide +kernel) (by decide) ?_
  refine y_istore_n (lo2 := [(3, .int 32), (0, .ref 29), (1, .int 32), (2, .int 1920)]) y157_9 rfl (by decide +kernel) rfl ?_
  refine sx_aload_n (i := 0) y157_10 rfl rfl ?_
  refine sx_iload_n (i := 2) y157_11 rfl rfl ?_
  refine sx_iconst (v := 0) y157_12 (by decide) ?_
  refine p_max (z := 1920) y157_13 yo_157 yx_8_7 (by decide) (by decide +kernel) (by decide +kernel) (by decide +kernel) (by decide +kernel) (by decide) ?_
  refine p_newarr (N := 1920) (nc2 := 1) (ns2 := 1920) y157_16 (Or.inr (Or.inl ⟨rfl, rfl⟩)) (by decide) (by decide) (by decide) hz (by decide) rfl rfl rfl (by decide +kernel) (by decide +kernel) (fun hz => ?_)
  refine p_putR (k := 0) y157_18 yo_157 yf_8_13 (by decide) hz (by decide) rfl yn_157_7_0 (Or.inr ⟨_, rfl⟩) (fun hz => ?_)
  refine sx_aload_n (i := 0) y157_21 rfl rfl ?_
  refine sx_iload_n (i := 3) y157_22 rfl rfl ?_
  refine p_newarr (N := 32) (nc2 := 2) (ns2 := 1952) y157_23 (Or.inl ⟨rfl, rfl⟩) (by decide) (by decide) (by decide) hz (by decide) rfl rfl rfl (by decide +kernel) (by decide +kernel) (fun hz => ?_)
  refine p_putR (k := 1) y157_25 yo_157 yf_8_19 (by decide) hz (by decide) rfl yn_157_7_1 (Or.inr ⟨_, rfl⟩) (fun hz => ?_)
  refine sx_aload_n (i := 0) y157_28 rfl rfl ?_
  refine sx_iload_n (i := 3) y157_29 rfl rfl ?_
  refine p_newarr (N := 32) (nc2 := 3) (ns2 := 1984) y157_30 (Or.inl ⟨rfl, rfl⟩) (by decide) (by decide) (by decide) hz (by decide) rfl rfl rfl (by decide +kernel) (by decide +kernel) (fun hz => ?_)
  refine p_putR (k := 2) y157_32 yo_157 yf_8_23 (by decide) hz (by decide) rfl yn_157_7_2 (Or.inr ⟨_, rfl⟩) (fun hz => ?_)
  refine sx_aload_n (i := 0) y157_35 rfl rfl ?_
  refine sx_iload_n (i := 3) y157_36 rfl rfl ?_
  refine p_newarr (N := 32) (nc2 := 4) (ns2 := 2016) y157_37 (Or.inl ⟨rfl, rfl⟩) (by decide) (by decide) (by decide) hz (by decide) rfl rfl rfl (by decide +kernel) (by decide +kernel) (fun hz => ?_)
  refine p_putR (k := 3) y157_39 yo_157 yf_8_26 (by decide) hz (by decide) rfl yn_157_7_3 (Or.inr ⟨_, rfl⟩) (fun hz => ?_)
  refine sx_aload_n (i := 0) y157_42 rfl rfl ?_
  refine sx_iload_n (i := 3) y157_43 rfl rfl ?_
  refine p_newarr (N := 32) (nc2 := 5) (ns2 := 2048) y157_44 (Or.inl ⟨rfl, rfl⟩) (by decide) (by decide) (by decide) hz (by decide) rfl rfl rfl (by decide +kernel) (by decide +kernel) (fun hz => ?_)
  refine p_putR (k := 4) y157_46 yo_157 yf_8_29 (by decide) hz (by decide) rfl yn_157_7_4 (Or.inr ⟨_, rfl⟩) (fun hz => ?_)
  exact p_ret y157_49 yr_157 (by decide +kernel) (by decide +kernel)
def kr35 (R : Rf) : Rf := (wr (wr (wr (wr (wr R 35 0 36) 35 1 37) 35 2 38) 35 3 39) 35 4 40)
theorem kz35 {R : Rf} {μ : Mem} (hz : Zr 36 R μ) : Zr 41 (kr35 R) μ := (Zr.wr (Zr.up (m := 41) (Zr.wr (Zr.up (m := 40) (Zr.wr (Zr.up (m := 39) (Zr.wr (Zr.up (m := 38) (Zr.wr (Zr.up (m := 37) hz (by decide)) (by decide)) (by decide)) (by decide)) (by decide)) (by decide)) (by decide)) (by decide)) (by decide)) (by decide))
theorem kb35 {R : Rf} (h : Bd R) : Bd (kr35 R) := (Bd.wr (Bd.wr (Bd.wr (Bd.wr (Bd.wr h (by decide)) (by decide)) (by decide)) (by decide)) (by decide))
theorem kc35 {L : Nat} {R : Rf} {μ : Mem} (hz : Zr 36 R μ) : Mx 157 [.ref 35, .int 32, .int 1920] (pm L 36 R μ) (pm L 41 (kr35 R) μ, none) := by
  refine Mx_of (gML_all 157 (by decide) (by decide) (by decide)) (by decide +kernel) ?_
  show Sx 157 0 [(0, .ref 35), (1, .int 32), (2, .int 1920)] [] 0 0 (pm L 36 R μ) _
  unfold kr35
  have hz0 := hz
  refine sx_aload_n (i := 0) y157_0 rfl rfl ?_
  refine p_obj y157_1 yo_157 yj_8_1 (by decide) (by decide +kernel) (by decide +kernel) ?_
  refine sx_iload_n (i := 1) y157_4 rfl rfl ?_
  refine sx_iconst (v := 0) y157_5 (by decide) ?_
  refine p_max (z := 32) y157_6 yo_157 yx_8_7 (by decide) (by decide +kernel) (by decide +kernel) (by decide +kernel) (by decide +kernel) (by decide) ?_
  refine y_istore_n (lo2 := [(3, .int 32), (0, .ref 35), (1, .int 32), (2, .int 1920)]) y157_9 rfl (by decide +kernel) rfl ?_
  refine sx_aload_n (i := 0) y157_10 rfl rfl ?_
  refine sx_iload_n (i := 2) y157_11 rfl rfl ?_
  refine sx_iconst (v := 0) y157_12 (by decide) ?_
  refine p_max (z := 1920) y157_13 yo_157 yx_8_7 (by decide) (by decide +kernel) (by decide +kernel) (by decide +kernel) (by decide +kernel) (by decide) ?_
  refine p_newarr (N := 1920) (nc2 := 1) (ns2 := 1920) y157_16 (Or.inr (Or.inl ⟨rfl, rfl⟩)) (by decide) (by decide) (by decide) hz (by decide) rfl rfl rfl (by decide +kernel) (by decide +kernel) (fun hz => ?_)
  refine p_putR (k := 0) y157_18 yo_157 yf_8_13 (by decide) hz (by decide) rfl yn_157_7_0 (Or.inr ⟨_, rfl⟩) (fun hz => ?_)
  refine sx_aload_n (i := 0) y157_21 rfl rfl ?_
  refine sx_iload_n (i := 3) y157_22 rfl rfl ?_
  refine p_newarr (N := 32) (nc2 := 2) (ns2 := 1952) y157_23 (Or.inl ⟨rfl, rfl⟩) (by decide) (by decide) (by decide) hz (by decide) rfl rfl rfl (by decide +kernel) (by decide +kernel) (fun hz => ?_)
  refine p_putR (k := 1) y157_25 yo_157 yf_8_19 (by decide) hz (by decide) rfl yn_157_7_1 (Or.inr ⟨_, rfl⟩) (fun hz => ?_)
  refine sx_aload_n (i := 0) y157_28 rfl rfl ?_
  refine sx_iload_n (i := 3) y157_29 rfl rfl ?_
  refine p_newarr (N := 32) (nc2 := 3) (ns2 := 1984) y157_30 (Or.inl ⟨rfl, rfl⟩) (by decide) (by decide) (by decide) hz (by decide) rfl rfl rfl (by decide +kernel) (by decide +kernel) (fun hz => ?_)
  refine p_putR (k := 2) y157_32 yo_157 yf_8_23 (by decide) hz (by decide) rfl yn_157_7_2 (Or.inr ⟨_, rfl⟩) (fun hz => ?_)
  refine sx_aload_n (i := 0) y157_35 rfl rfl ?_
  refine sx_iload_n (i := 3) y157_36 rfl rfl ?_
  refine p_newarr (N := 32) (nc2 := 4) (ns2 := 2016) y157_37 (Or.inl ⟨rfl, rfl⟩) (by decide) (by decide) (by decide) hz (by decide) rfl rfl rfl (by decide +kernel) (by decide +kernel) (fun hz => ?_)
  refine p_putR (k := 3) y157_39 yo_157 yf_8_26 (by decide) hz (by decide) rfl yn_157_7_3 (Or.inr ⟨_, rfl⟩) (fun hz => ?_)
  refine sx_aload_n (i := 0) y157_42 rfl rfl ?_
  refine sx_iload_n (i := 3) y157_43 rfl rfl ?_
  refine p_newarr (N := 32) (nc2 := 5) (ns2 := 2048) y157_44 (Or.inl ⟨rfl, rfl⟩) (by decide) (by decide) (by decide) hz (by decide) rfl rfl rfl (by decide +kernel) (by decide +kernel) (fun hz => ?_)
  refine p_putR (k := 4) y157_46 yo_157 yf_8_29 (by decide) hz (by decide) rfl yn_157_7_4 (Or.inr ⟨_, rfl⟩) (fun hz => ?_)
  exact p_ret y157_49 yr_157 (by decide +kernel) (by decide +kernel)
def kr41 (R : Rf) : Rf := (wr R 41 0 42)
theorem kz41 {R : Rf} {μ : Mem} (hz : Zr 42 R μ) : Zr 43 (kr41 R) μ := (Zr.wr (Zr.up (m := 43) hz (by decide)) (by decide))
theorem kb41 {R : Rf} (h : Bd R) : Bd (kr41 R) := (Bd.wr h (by decide))
theorem kc41 {L : Nat} {R : Rf} {μ : Mem} (hz : Zr 42 R μ) : Mx 63 [.ref 41, .int 3] (pm L 42 R μ) (pm L 43 (kr41 R) μ, none) := by
  refine Mx_of (gML_all 63 (by decide) (by decide) (by decide)) (by decide +kernel) ?_
  show Sx 63 0 [(0, .ref 41), (1, .int 3)] [] 0 0 (pm L 42 R μ) _
  unfold kr41
  have hz0 := hz
  refine sx_aload_n (i := 0) y63_0 rfl rfl ?_
  refine p_obj y63_1 yo_63 yj_2_1 (by decide) (by decide +kernel) (by decide +kernel) ?_
  refine sx_aload_n (i := 0) y63_4 rfl rfl ?_
  refine sx_iload_n (i := 1) y63_5 rfl rfl ?_
  refine sx_iconst (v := 0) y63_6 (by decide) ?_
  refine p_max (z := 3) y63_7 yo_63 yx_2_7 (by decide) (by decide +kernel) (by decide +kernel) (by decide +kernel) (by decide +kernel) (by decide) ?_
  refine p_newarr (N := 3) (nc2 := 1) (ns2 := 3) y63_10 (Or.inr (Or.inl ⟨rfl, rfl⟩)) (by decide) (by decide) (by decide) hz (by decide) rfl rfl rfl (by decide +kernel) (by decide +kernel) (fun hz => ?_)
  refine p_putR (k := 0) y63_12 yo_63 yf_2_13 (by decide) hz (by decide) rfl yn_63_1_0 (Or.inr ⟨_, rfl⟩) (fun hz => ?_)
  exact p_ret y63_15 yr_63 (by decide +kernel) (by decide +kernel)
def kr43 (R : Rf) : Rf := (wr R 43 0 44)
theorem kz43 {R : Rf} {μ : Mem} (hz : Zr 44 R μ) : Zr 45 (kr43 R) μ := (Zr.wr (Zr.up (m := 45) hz (by decide)) (by decide))
theorem kb43 {R : Rf} (h : Bd R) : Bd (kr43 R) := (Bd.wr h (by decide))
theorem kc43 {L : Nat} {R : Rf} {μ : Mem} (hz : Zr 44 R μ) : Mx 63 [.ref 43, .int 60] (pm L 44 R μ) (pm L 45 (kr43 R) μ, none) := by
  refine Mx_of (gML_all 63 (by decide) (by decide) (by decide)) (by decide +kernel) ?_
  show Sx 63 0 [(0, .ref 43), (1, .int 60)] [] 0 0 (pm L 44 R μ) _
  unfold kr43
  have hz0 := hz
  refine sx_aload_n (i := 0) y63_0 rfl rfl ?_
  refine p_obj y63_1 yo_63 yj_2_1 (by decide) (by decide +kernel) (by decide +kernel) ?_
  refine sx_aload_n (i := 0) y63_4 rfl rfl ?_
  refine sx_iload_n (i := 1) y63_5 rfl rfl ?_
  refine sx_iconst (v := 0) y63_6 (by decide) ?_
  refine p_max (z := 60) y63_7 yo_63 yx_2_7 (by decide) (by decide +kernel) (by decide +kernel) (by decide +kernel) (by decide +kernel) (by decide) ?_
  refine p_newarr (N := 60) (nc2 := 1) (ns2 := 60) y63_10 (Or.inr (Or.inl ⟨rfl, rfl⟩)) (by decide) (by decide) (by decide) hz (by decide) rfl rfl rfl (by decide +kernel) (by decide +kernel) (fun hz => ?_)
  refine p_putR (k := 0) y63_12 yo_63 yf_2_13 (by decide) hz (by decide) rfl yn_63_1_0 (Or.inr ⟨_, rfl⟩) (fun hz => ?_)
  exact p_ret y63_15 yr_63 (by decide +kernel) (by decide +kernel)
def kr45 (R : Rf) : Rf := (wr R 45 0 46)
theorem kz45 {R : Rf} {μ : Mem} (hz : Zr 46 R μ) : Zr 47 (kr45 R) μ := (Zr.wr (Zr.up (m := 47) hz (by decide)) (by decide))
theorem kb45 {R : Rf} (h : Bd R) : Bd (kr45 R) := (Bd.wr h (by decide))
theorem kc45 {L : Nat} {R : Rf} {μ : Mem} (hz : Zr 46 R μ) : Mx 63 [.ref 45, .int 67] (pm L 46 R μ) (pm L 47 (kr45 R) μ, none) := by
  refine Mx_of (gML_all 63 (by decide) (by decide) (by decide)) (by decide +kernel) ?_
  show Sx 63 0 [(0, .ref 45), (1, .int 67)] [] 0 0 (pm L 46 R μ) _
  unfold kr45
  have hz0 := hz
  refine sx_aload_n (i := 0) y63_0 rfl rfl ?_
  refine p_obj y63_1 yo_63 yj_2_1 (by decide) (by decide +kernel) (by decide +kernel) ?_
  refine sx_aload_n (i := 0) y63_4 rfl rfl ?_
  refine sx_iload_n (i := 1) y63_5 rfl rfl ?_
  refine sx_iconst (v := 0) y63_6 (by decide) ?_
  refine p_max (z := 67) y63_7 yo_63 yx_2_7 (by decide) (by decide +kernel) (by decide +kernel) (by decide +kernel) (by decide +kernel) (by decide) ?_
  refine p_newarr (N := 67) (nc2 := 1) (ns2 := 67) y63_10 (Or.inr (Or.inl ⟨rfl, rfl⟩)) (by decide) (by decide) (by decide) hz (by decide) rfl rfl rfl (by decide +kernel) (by decide +kernel) (fun hz => ?_)
  refine p_putR (k := 0) y63_12 yo_63 yf_2_13 (by decide) hz (by decide) rfl yn_63_1_0 (Or.inr ⟨_, rfl⟩) (fun hz => ?_)
  exact p_ret y63_15 yr_63 (by decide +kernel) (by decide +kernel)
def kr47 (R : Rf) : Rf := (wr R 47 0 48)
theorem kz47 {R : Rf} {μ : Mem} (hz : Zr 48 R μ) : Zr 49 (kr47 R) μ := (Zr.wr (Zr.up (m := 49) hz (by decide)) (by decide))
theorem kb47 {R : Rf} (h : Bd R) : Bd (kr47 R) := (Bd.wr h (by decide))
theorem kc47 {L : Nat} {R : Rf} {μ : Mem} (hz : Zr 48 R μ) : Mx 63 [.ref 47, .int 138] (pm L 48 R μ) (pm L 49 (kr47 R) μ, none) := by
  refine Mx_of (gML_all 63 (by decide) (by decide) (by decide)) (by decide +kernel) ?_
  show Sx 63 0 [(0, .ref 47), (1, .int 138)] [] 0 0 (pm L 48 R μ) _
  unfold kr47
  have hz0 := hz
  refine sx_aload_n (i := 0) y63_0 rfl rfl ?_
  refine p_obj y63_1 yo_63 yj_2_1 (by decide) (by decide +kernel) (by decide +kernel) ?_
  refine sx_aload_n (i := 0) y63_4 rfl rfl ?_
  refine sx_iload_n (i := 1) y63_5 rfl rfl ?_
  refine sx_iconst (v := 0) y63_6 (by decide) ?_
  refine p_max (z := 138) y63_7 yo_63 yx_2_7 (by decide) (by decide +kernel) (by decide +kernel) (by decide +kernel) (by decide +kernel) (by decide) ?_
  refine p_newarr (N := 138) (nc2 := 1) (ns2 := 138) y63_10 (Or.inr (Or.inl ⟨rfl, rfl⟩)) (by decide) (by decide) (by decide) hz (by decide) rfl rfl rfl (by decide +kernel) (by decide +kernel) (fun hz => ?_)
  refine p_putR (k := 0) y63_12 yo_63 yf_2_13 (by decide) hz (by decide) rfl yn_63_1_0 (Or.inr ⟨_, rfl⟩) (fun hz => ?_)
  exact p_ret y63_15 yr_63 (by decide +kernel) (by decide +kernel)
def kr28 (R : Rf) : Rf := (wr (wr (wr (kr47 (wr (kr45 (wr (kr43 (wr (kr41 (wr (kr35 (wr (kr29 R) 28 2 29)) 28 3 35)) 28 4 41)) 28 5 43)) 28 6 45)) 28 7 47) 28 0 5) 28 1 12)
def ku28 (μ : Mem) : Mem := (setI (setI (setI (setI (setI μ 28 8 6) 28 11 1) 28 12 3) 28 13 8) 28 15 20)
theorem kz28 {R : Rf} {μ : Mem} (hz : Zr 29 R μ) : Zr 49 (kr28 R) (ku28 μ) := (Zr.wr (Zr.wr (Zr.sI (Zr.sI (Zr.sI (Zr.sI (Zr.sI (Zr.wr (kz47 (Zr.up (m := 48) (Zr.wr (kz45 (Zr.up (m := 46) (Zr.wr (kz43 (Zr.up (m := 44) (Zr.wr (kz41 (Zr.up (m := 42) (Zr.wr (kz35 (Zr.up (m := 36) (Zr.wr (kz29 (Zr.up (m := 30) hz (by decide))) (by decide)) (by decide))) (by decide)) (by decide))) (by decide)) (by decide))) (by decide)) (by decide))) (by decide)) (by decide))) (by decide)) (by decide)) (by decide)) (by decide)) (by decide)) (by decide)) (by decide)) (by decide))
theorem kb28 {R : Rf} (h : Bd R) : Bd (kr28 R) := (Bd.wr (Bd.wr (Bd.wr (kb47 (Bd.wr (kb45 (Bd.wr (kb43 (Bd.wr (kb41 (Bd.wr (kb35 (Bd.wr (kb29 h) (by decide))) (by decide))) (by decide))) (by decide))) (by decide))) (by decide)) (by decide)) (by decide))
theorem kc28 {L : Nat} {R : Rf} {μ : Mem} (hz : Zr 29 R μ) : Mx 128 [.ref 28, .ref 5, .ref 12] (pm L 29 R μ) (pm L 49 (kr28 R) (ku28 μ), none) := by
  refine Mx_of (gML_all 128 (by decide) (by decide) (by decide)) (by decide +kernel) ?_
  show Sx 128 0 [(0, .ref 28), (1, .ref 5), (2, .ref 12)] [] 0 0 (pm L 29 R μ) _
  unfold kr28 ku28
  have hz0 := hz
  refine sx_aload_n (i := 0) y128_0 rfl rfl ?_
  refine p_obj y128_1 yo_128 yj_7_3 (by decide) (by decide +kernel) (by decide +kernel) ?_
  refine sx_aload_n (i := 0) y128_4 rfl rfl ?_
  refine p_new (nc2 := 1) (ns2 := 7) y128_5 yo_128 yw_7_9 (by decide) hz (by decide) rfl yg_7 rfl rfl (by decide +kernel) (by decide +kernel) (fun hz => ?_)
  refine sx_dup y128_8 rfl ?_
  refine sx_bipush (v := 32) y128_9 (by decide) ?_
  refine sx_sipush (v := 1920) y128_11 (by decide) ?_
  refine p_callI (vs := [.int 32, .int 1920]) (nc2 := 6) (ns2 := 5127) y128_14 yo_128 yl_7_13 (by decide) (gML_all 157 (by decide) (by decide) (by decide)) gcw_157 yr_157 (by decide) (kc29 hz) rfl rfl yc_157 ys_157 rfl ⟨by decide +kernel, by decide +kernel, by decide +kernel, by decide +kernel, by decide⟩ rfl rfl ?_
  replace hz := kz29 hz
  refine p_putR (k := 2) y128_17 yo_128 yf_7_16 (by decide) hz (by decide) rfl yn_128_6_2 (Or.inl ⟨_, rfl⟩) (fun hz => ?_)
  refine sx_aload_n (i := 0) y128_20 rfl rfl ?_
  refine p_new (nc2 := 7) (ns2 := 5134) y128_21 yo_128 yw_7_9 (by decide) hz (by decide) rfl yg_7 rfl rfl (by decide +kernel) (by decide +kernel) (fun hz => ?_)
  refine sx_dup y128_24 rfl ?_
  refine sx_bipush (v := 32) y128_25 (by decide) ?_
  refine sx_sipush (v := 1920) y128_27 (by decide) ?_
  refine p_callI (vs := [.int 32, .int 1920]) (nc2 := 12) (ns2 := 10254) y128_30 yo_128 yl_7_13 (by decide) (gML_all 157 (by decide) (by decide) (by decide)) gcw_157 yr_157 (by decide) (kc35 hz) rfl rfl yc_157 ys_157 rfl ⟨by decide +kernel, by decide +kernel, by decide +kernel, by decide +kernel, by decide⟩ rfl rfl ?_
  replace hz := kz35 hz
  refine p_putR (k := 3) y128_33 yo_128 yf_7_20 (by decide) hz (by decide) rfl yn_128_6_3 (Or.inl ⟨_, rfl⟩) (fun hz => ?_)
  refine sx_aload_n (i := 0) y128_36 rfl rfl ?_
  refine p_new (nc2 := 13) (ns2 := 10256) y128_37 yo_128 yw_7_23 (by decide) hz (by decide) rfl yg_1 rfl rfl (by decide +kernel) (by decide +kernel) (fun hz => ?_)
  refine sx_dup y128_40 rfl ?_
  refine sx_iconst (v := 3) y128_41 (by decide) ?_
  refine p_callI (vs := [.int 3]) (nc2 := 14) (ns2 := 11280) y128_42 yo_128 yl_7_25 (by decide) (gML_all 63 (by decide) (by decide) (by decide)) gcw_63 yr_63 (by decide) (kc41 hz) rfl rfl yc_63 ys_63 rfl ⟨by decide +kernel, by decide +kernel, by decide +kernel, by decide +kernel, by decide⟩ rfl rfl ?_
  replace hz := kz41 hz
  refine p_putR (k := 4) y128_45 yo_128 yf_7_28 (by decide) hz (by decide) rfl yn_128_6_4 (Or.inl ⟨_, rfl⟩) (fun hz => ?_)
  refine sx_aload_n (i := 0) y128_48 rfl rfl ?_
  refine p_new (nc2 := 15) (ns2 := 11282) y128_49 yo_128 yw_7_23 (by decide) hz (by decide) rfl yg_1 rfl rfl (by decide +kernel) (by decide +kernel) (fun hz => ?_)
  refine sx_dup y128_52 rfl ?_
  refine sx_bipush (v := 60) y128_53 (by decide) ?_
  refine p_callI (vs := [.int 60]) (nc2 := 16) (ns2 := 12306) y128_55 yo_128 yl_7_25 (by decide) (gML_all 63 (by decide) (by decide) (by decide)) gcw_63 yr_63 (by decide) (kc43 hz) rfl rfl yc_63 ys_63 rfl ⟨by decide +kernel, by decide +kernel, by decide +kernel, by decide +kernel, by decide⟩ rfl rfl ?_
  replace hz := kz43 hz
  refine p_putR (k := 5) y128_58 yo_128 yf_7_32 (by decide) hz (by decide) rfl yn_128_6_5 (Or.inl ⟨_, rfl⟩) (fun hz => ?_)
  refine sx_aload_n (i := 0) y128_61 rfl rfl ?_
  refine p_new (nc2 := 17) (ns2 := 12308) y128_62 yo_128 yw_7_23 (by decide) hz (by decide) rfl yg_1 rfl rfl (by decide +kernel) (by decide +kernel) (fun hz => ?_)
  refine sx_dup y128_65 rfl ?_
  refine sx_bipush (v := 67) y128_66 (by decide) ?_
  refine p_callI (vs := [.int 67]) (nc2 := 18) (ns2 := 13332) y128_68 yo_128 yl_7_25 (by decide) (gML_all 63 (by decide) (by decide) (by decide)) gcw_63 yr_63 (by decide) (kc45 hz) rfl rfl yc_63 ys_63 rfl ⟨by decide +kernel, by decide +kernel, by decide +kernel, by decide +kernel, by decide⟩ rfl rfl ?_
  replace hz := kz45 hz
  refine p_putR (k := 6) y128_71 yo_128 yf_7_35 (by decide) hz (by decide) rfl yn_128_6_6 (Or.inl ⟨_, rfl⟩) (fun hz => ?_)
  refine sx_aload_n (i := 0) y128_74 rfl rfl ?_
  refine p_new (nc2 := 19) (ns2 := 13334) y128_75 yo_128 yw_7_23 (by decide) hz (by decide) rfl yg_1 rfl rfl (by decide +kernel) (by decide +kernel) (fun hz => ?_)
  refine sx_dup y128_78 rfl ?_
  refine sx_sipush (v := 138) y128_79 (by decide) ?_
  refine p_callI (vs := [.int 138]) (nc2 := 20) (ns2 := 14358) y128_82 yo_128 yl_7_25 (by decide) (gML_all 63 (by decide) (by decide) (by decide)) gcw_63 yr_63 (by decide) (kc47 hz) rfl rfl yc_63 ys_63 rfl ⟨by decide +kernel, by decide +kernel, by decide +kernel, by decide +kernel, by decide⟩ rfl rfl ?_
  replace hz := kz47 hz
  refine p_putR (k := 7) y128_85 yo_128 yf_7_40 (by decide) hz (by decide) rfl yn_128_6_7 (Or.inl ⟨_, rfl⟩) (fun hz => ?_)
  refine sx_aload_n (i := 0) y128_88 rfl rfl ?_
  refine sx_bipush (v := 6) y128_89 (by decide) ?_
  refine p_putI (k := 8) (y := 6) y128_91 yo_128 yf_7_43 (by decide) hz (by decide) rfl yn_128_6_8 rfl (by decide) (fun hz => ?_)
  refine sx_aload_n (i := 0) y128_94 rfl rfl ?_
  refine sx_iconst (v := 1) y128_95 (by decide) ?_
  refine p_putI (k := 11) (y := 1) y128_96 yo_128 yf_7_47 (by decide) hz (by decide) rfl yn_128_6_11 rfl (by decide) (fun hz => ?_)
  refine sx_aload_n (i := 0) y128_99 rfl rfl ?_
  refine sx_iconst (v := 3) y128_100 (by decide) ?_
  refine p_putI (k := 12) (y := 3) y128_101 yo_128 yf_7_50 (by decide) hz (by decide) rfl yn_128_6_12 rfl (by decide) (fun hz => ?_)
  refine sx_aload_n (i := 0) y128_104 rfl rfl ?_
  refine sx_bipush (v := 8) y128_105 (by decide) ?_
  refine p_putI (k := 13) (y := 8) y128_107 yo_128 yf_7_53 (by decide) hz (by decide) rfl yn_128_6_13 rfl (by decide) (fun hz => ?_)
  refine sx_aload_n (i := 0) y128_110 rfl rfl ?_
  refine sx_bipush (v := 20) y128_111 (by decide) ?_
  refine p_putI (k := 15) (y := 20) y128_113 yo_128 yf_7_56 (by decide) hz (by decide) rfl yn_128_6_15 rfl (by decide) (fun hz => ?_)
  refine sx_aload_n (i := 0) y128_116 rfl rfl ?_
  refine sx_aload_n (i := 1) y128_117 rfl rfl ?_
  refine p_putR (k := 0) y128_118 yo_128 yf_7_59 (by decide) hz (by decide) rfl yn_128_6_0 (Or.inl ⟨_, rfl⟩) (fun hz => ?_)
  refine sx_aload_n (i := 0) y128_121 rfl rfl ?_
  refine sx_aload_n (i := 2) y128_122 rfl rfl ?_
  refine p_putR (k := 1) y128_123 yo_128 yf_7_63 (by decide) hz (by decide) rfl yn_128_6_1 (Or.inl ⟨_, rfl⟩) (fun hz => ?_)
  exact p_ret y128_126 yr_128 (by decide +kernel) (by decide +kernel)
def kr50 (R : Rf) : Rf := (wr R 50 0 51)
theorem kz50 {R : Rf} {μ : Mem} (hz : Zr 51 R μ) : Zr 52 (kr50 R) μ := (Zr.wr (Zr.up (m := 52) hz (by decide)) (by decide))
theorem kb50 {R : Rf} (h : Bd R) : Bd (kr50 R) := (Bd.wr h (by decide))
theorem kc50 {L : Nat} {R : Rf} {μ : Mem} (hz : Zr 51 R μ) : Mx 63 [.ref 50, .int 64] (pm L 51 R μ) (pm L 52 (kr50 R) μ, none) := by
  refine Mx_of (gML_all 63 (by decide) (by decide) (by decide)) (by decide +kernel) ?_
  show Sx 63 0 [(0, .ref 50), (1, .int 64)] [] 0 0 (pm L 51 R μ) _
  unfold kr50
  have hz0 := hz
  refine sx_aload_n (i := 0) y63_0 rfl rfl ?_
  refine p_obj y63_1 yo_63 yj_2_1 (by decide) (by decide +kernel) (by decide +kernel) ?_
  refine sx_aload_n (i := 0) y63_4 rfl rfl ?_
  refine sx_iload_n (i := 1) y63_5 rfl rfl ?_
  refine sx_iconst (v := 0) y63_6 (by decide) ?_
  refine p_max (z := 64) y63_7 yo_63 yx_2_7 (by decide) (by decide +kernel) (by decide +kernel) (by decide +kernel) (by decide +kernel) (by decide) ?_
  refine p_newarr (N := 64) (nc2 := 1) (ns2 := 64) y63_10 (Or.inr (Or.inl ⟨rfl, rfl⟩)) (by decide) (by decide) (by decide) hz (by decide) rfl rfl rfl (by decide +kernel) (by decide +kernel) (fun hz => ?_)
  refine p_putR (k := 0) y63_12 yo_63 yf_2_13 (by decide) hz (by decide) rfl yn_63_1_0 (Or.inr ⟨_, rfl⟩) (fun hz => ?_)
  exact p_ret y63_15 yr_63 (by decide +kernel) (by decide +kernel)
def kr52 (R : Rf) : Rf := (wr R 52 0 53)
theorem kz52 {R : Rf} {μ : Mem} (hz : Zr 53 R μ) : Zr 54 (kr52 R) μ := (Zr.wr (Zr.up (m := 54) hz (by decide)) (by decide))
theorem kb52 {R : Rf} (h : Bd R) : Bd (kr52 R) := (Bd.wr h (by decide))
theorem kc52 {L : Nat} {R : Rf} {μ : Mem} (hz : Zr 53 R μ) : Mx 63 [.ref 52, .int 200] (pm L 53 R μ) (pm L 54 (kr52 R) μ, none) := by
  refine Mx_of (gML_all 63 (by decide) (by decide) (by decide)) (by decide +kernel) ?_
  show Sx 63 0 [(0, .ref 52), (1, .int 200)] [] 0 0 (pm L 53 R μ) _
  unfold kr52
  have hz0 := hz
  refine sx_aload_n (i := 0) y63_0 rfl rfl ?_
  refine p_obj y63_1 yo_63 yj_2_1 (by decide) (by decide +kernel) (by decide +kernel) ?_
  refine sx_aload_n (i := 0) y63_4 rfl rfl ?_
  refine sx_iload_n (i := 1) y63_5 rfl rfl ?_
  refine sx_iconst (v := 0) y63_6 (by decide) ?_
  refine p_max (z := 200) y63_7 yo_63 yx_2_7 (by decide) (by decide +kernel) (by decide +kernel) (by decide +kernel) (by decide +kernel) (by decide) ?_
  refine p_newarr (N := 200) (nc2 := 1) (ns2 := 200) y63_10 (Or.inr (Or.inl ⟨rfl, rfl⟩)) (by decide) (by decide) (by decide) hz (by decide) rfl rfl rfl (by decide +kernel) (by decide +kernel) (fun hz => ?_)
  refine p_putR (k := 0) y63_12 yo_63 yf_2_13 (by decide) hz (by decide) rfl yn_63_1_0 (Or.inr ⟨_, rfl⟩) (fun hz => ?_)
  exact p_ret y63_15 yr_63 (by decide +kernel) (by decide +kernel)
def kr54 (R : Rf) : Rf := (wr R 54 0 55)
theorem kz54 {R : Rf} {μ : Mem} (hz : Zr 55 R μ) : Zr 56 (kr54 R) μ := (Zr.wr (Zr.up (m := 56) hz (by decide)) (by decide))
theorem kb54 {R : Rf} (h : Bd R) : Bd (kr54 R) := (Bd.wr h (by decide))
theorem kc54 {L : Nat} {R : Rf} {μ : Mem} (hz : Zr 55 R μ) : Mx 63 [.ref 54, .int 200] (pm L 55 R μ) (pm L 56 (kr54 R) μ, none) := by
  refine Mx_of (gML_all 63 (by decide) (by decide) (by decide)) (by decide +kernel) ?_
  show Sx 63 0 [(0, .ref 54), (1, .int 200)] [] 0 0 (pm L 55 R μ) _
  unfold kr54
  have hz0 := hz
  refine sx_aload_n (i := 0) y63_0 rfl rfl ?_
  refine p_obj y63_1 yo_63 yj_2_1 (by decide) (by decide +kernel) (by decide +kernel) ?_
  refine sx_aload_n (i := 0) y63_4 rfl rfl ?_
  refine sx_iload_n (i := 1) y63_5 rfl rfl ?_
  refine sx_iconst (v := 0) y63_6 (by decide) ?_
  refine p_max (z := 200) y63_7 yo_63 yx_2_7 (by decide) (by decide +kernel) (by decide +kernel) (by decide +kernel) (by decide +kernel) (by decide) ?_
  refine p_newarr (N := 200) (nc2 := 1) (ns2 := 200) y63_10 (Or.inr (Or.inl ⟨rfl, rfl⟩)) (by decide) (by decide) (by decide) hz (by decide) rfl rfl rfl (by decide +kernel) (by decide +kernel) (fun hz => ?_)
  refine p_putR (k := 0) y63_12 yo_63 yf_2_13 (by decide) hz (by decide) rfl yn_63_1_0 (Or.inr ⟨_, rfl⟩) (fun hz => ?_)
  exact p_ret y63_15 yr_63 (by decide +kernel) (by decide +kernel)
def kr49 (R : Rf) : Rf := (wr (wr (wr (wr (kr54 (wr (kr52 (wr (kr50 R) 49 2 50)) 49 3 52)) 49 4 54) 49 5 56) 49 0 12) 49 1 27)
def ku49 (μ : Mem) : Mem := (setI (setI μ 56 0 (-1)) 56 1 (-1))
theorem kz49 {R : Rf} {μ : Mem} (hz : Zr 50 R μ) : Zr 57 (kr49 R) (ku49 μ) := (Zr.wr (Zr.wr (Zr.wr (Zr.sI (Zr.sI (Zr.up (m := 57) (Zr.wr (kz54 (Zr.up (m := 55) (Zr.wr (kz52 (Zr.up (m := 53) (Zr.wr (kz50 (Zr.up (m := 51) hz (by decide))) (by decide)) (by decide))) (by decide)) (by decide))) (by decide)) (by decide)) (by decide)) (by decide)) (by decide)) (by decide)) (by decide))
theorem kb49 {R : Rf} (h : Bd R) : Bd (kr49 R) := (Bd.wr (Bd.wr (Bd.wr (Bd.wr (kb54 (Bd.wr (kb52 (Bd.wr (kb50 h) (by decide))) (by decide))) (by decide)) (by decide)) (by decide)) (by decide))
theorem kc49 {L : Nat} {R : Rf} {μ : Mem} (hz : Zr 50 R μ) : Mx 95 [.ref 49, .ref 12, .ref 27] (pm L 50 R μ) (pm L 57 (kr49 R) (ku49 μ), none) := by
  refine Mx_of (gML_all 95 (by decide) (by decide) (by decide)) (by decide +kernel) ?_
  show Sx 95 0 [(0, .ref 49), (1, .ref 12), (2, .ref 27)] [] 0 0 (pm L 50 R μ) _
  unfold kr49 ku49
  have hz0 := hz
  refine sx_aload_n (i := 0) y95_0 rfl rfl ?_
  refine p_obj y95_1 yo_95 yj_4_1 (by decide) (by decide +kernel) (by decide +kernel) ?_
  refine sx_aload_n (i := 0) y95_4 rfl rfl ?_
  refine p_new (nc2 := 1) (ns2 := 2) y95_5 yo_95 yw_4_7 (by decide) hz (by decide) rfl yg_1 rfl rfl (by decide +kernel) (by decide +kernel) (fun hz => ?_)
  refine sx_dup y95_8 rfl ?_
  refine sx_bipush (v := 64) y95_9 (by decide) ?_
  refine p_callI (vs := [.int 64]) (nc2 := 2) (ns2 := 1026) y95_11 yo_95 yl_4_11 (by decide) (gML_all 63 (by decide) (by decide) (by decide)) gcw_63 yr_63 (by decide) (kc50 hz) rfl rfl yc_63 ys_63 rfl ⟨by decide +kernel, by decide +kernel, by decide +kernel, by decide +kernel, by decide⟩ rfl rfl ?_
  replace hz := kz50 hz
  refine p_putR (k := 2) y95_14 yo_95 yf_4_14 (by decide) hz (by decide) rfl yn_95_3_2 (Or.inl ⟨_, rfl⟩) (fun hz => ?_)
  refine sx_aload_n (i := 0) y95_17 rfl rfl ?_
  refine p_new (nc2 := 3) (ns2 := 1028) y95_18 yo_95 yw_4_7 (by decide) hz (by decide) rfl yg_1 rfl rfl (by decide +kernel) (by decide +kernel) (fun hz => ?_)
  refine sx_dup y95_21 rfl ?_
  refine sx_sipush (v := 200) y95_22 (by decide) ?_
  refine p_callI (vs := [.int 200]) (nc2 := 4) (ns2 := 2052) y95_25 yo_95 yl_4_11 (by decide) (gML_all 63 (by decide) (by decide) (by decide)) gcw_63 yr_63 (by decide) (kc52 hz) rfl rfl yc_63 ys_63 rfl ⟨by decide +kernel, by decide +kernel, by decide +kernel, by decide +kernel, by decide⟩ rfl rfl ?_
  replace hz := kz52 hz
  refine p_putR (k := 3) y95_28 yo_95 yf_4_20 (by decide) hz (by decide) rfl yn_95_3_3 (Or.inl ⟨_, rfl⟩) (fun hz => ?_)
  refine sx_aload_n (i := 0) y95_31 rfl rfl ?_
  refine p_new (nc2 := 5) (ns2 := 2054) y95_32 yo_95 yw_4_7 (by decide) hz (by decide) rfl yg_1 rfl rfl (by decide +kernel) (by decide +kernel) (fun hz => ?_)
  refine sx_dup y95_35 rfl ?_
  refine sx_sipush (v := 200) y95_36 (by decide) ?_
  refine p_callI (vs := [.int 200]) (nc2 := 6) (ns2 := 3078) y95_39 yo_95 yl_4_11 (by decide) (gML_all 63 (by decide) (by decide) (by decide)) gcw_63 yr_63 (by decide) (kc54 hz) rfl rfl yc_63 ys_63 rfl ⟨by decide +kernel, by decide +kernel, by decide +kernel, by decide +kernel, by decide⟩ rfl rfl ?_
  replace hz := kz54 hz
  refine p_putR (k := 4) y95_42 yo_95 yf_4_23 (by decide) hz (by decide) rfl yn_95_3_4 (Or.inl ⟨_, rfl⟩) (fun hz => ?_)
  refine sx_aload_n (i := 0) y95_45 rfl rfl ?_
  refine sx_iconst (v := 2) y95_46 (by decide) ?_
  refine p_newarr (N := 2) (nc2 := 7) (ns2 := 3080) y95_47 (Or.inl ⟨rfl, rfl⟩) (by decide) (by decide) (by decide) hz (by decide) rfl rfl rfl (by decide +kernel) (by decide +kernel) (fun hz => ?_)
  refine sx_dup y95_49 rfl ?_
  refine sx_iconst (v := 0) y95_50 (by decide) ?_
  refine sx_iconst (v := (-1)) y95_51 (by decide) ?_
  refine p_iastore (k := 0) (y := (-1)) y95_52 hz (by decide) rfl ⟨by decide, by decide⟩ (by decide) (by decide) (fun hz => ?_)
  refine sx_dup y95_53 rfl ?_
  refine sx_iconst (v := 1) y95_54 (by decide) ?_
  refine sx_iconst (v := (-1)) y95_55 (by decide) ?_
  refine p_iastore (k := 1) (y := (-1)) y95_56 hz (by decide) rfl ⟨by decide, by decide⟩ (by decide) (by decide) (fun hz => ?_)
  refine p_putR (k := 5) y95_57 yo_95 yf_4_26 (by decide) hz (by decide) rfl yn_95_3_5 (Or.inr ⟨_, rfl⟩) (fun hz => ?_)
  refine sx_aload_n (i := 0) y95_60 rfl rfl ?_
  refine sx_aload_n (i := 1) y95_61 rfl rfl ?_
  refine p_putR (k := 0) y95_62 yo_95 yf_4_30 (by decide) hz (by decide) rfl yn_95_3_0 (Or.inl ⟨_, rfl⟩) (fun hz => ?_)
  refine sx_aload_n (i := 0) y95_65 rfl rfl ?_
  refine sx_aload_n (i := 2) y95_66 rfl rfl ?_
  refine p_putR (k := 1) y95_67 yo_95 yf_4_34 (by decide) hz (by decide) rfl yn_95_3_1 (Or.inr ⟨_, rfl⟩) (fun hz => ?_)
  exact p_ret y95_70 yr_95 (by decide +kernel) (by decide +kernel)
def kr60 (R : Rf) : Rf := (wr (wr (wr (wr (wr R 60 0 61) 60 1 62) 60 2 63) 60 3 64) 60 4 65)
theorem kz60 {R : Rf} {μ : Mem} (hz : Zr 61 R μ) : Zr 66 (kr60 R) μ := (Zr.wr (Zr.up (m := 66) (Zr.wr (Zr.up (m := 65) (Zr.wr (Zr.up (m := 64) (Zr.wr (Zr.up (m := 63) (Zr.wr (Zr.up (m := 62) hz (by decide)) (by decide)) (by decide)) (by decide)) (by decide)) (by decide)) (by decide)) (by decide)) (by decide)) (by decide))
theorem kb60 {R : Rf} (h : Bd R) : Bd (kr60 R) := (Bd.wr (Bd.wr (Bd.wr (Bd.wr (Bd.wr h (by decide)) (by decide)) (by decide)) (by decide)) (by decide))
theorem kc60 {L : Nat} {R : Rf} {μ : Mem} (hz : Zr 61 R μ) : Mx 157 [.ref 60, .int 80, .int 1200] (pm L 61 R μ) (pm L 66 (kr60 R) μ, none) := by
  refine Mx_of (gML_all 157 (by decide) (by decide) (by decide)) (by decide +kernel) ?_
  show Sx 157 0 [(0, .ref 60), (1, .int 80), (2, .int 1200)] [] 0 0 (pm L 61 R μ) _
  unfold kr60
  have hz0 := hz
  refine sx_aload_n (i := 0) y157_0 rfl rfl ?_
  refine p_obj y157_1 yo_157 yj_8_1 (by decide) (by decide +kernel) (by decide +kernel) ?_
  refine sx_iload_n (i := 1) y157_4 rfl rfl ?_
  refine sx_iconst (v := 0) y157_5 (by decide) ?_
  refine p_max (z := 80) y157_6 yo_157 yx_8_7 (by decide) (by decide +kernel) (by decide +kernel) (by decide +kernel) (by decide +kernel) (by decide) ?_
  refine y_istore_n (lo2 := [(3, .int 80), (0, .ref 60), (1, .int 80), (2, .int 1200)]) y157_9 rfl (by decide +kernel) rfl ?_
  refine sx_aload_n (i := 0) y157_10 rfl rfl ?_
  refine sx_iload_n (i := 2) y157_11 rfl rfl ?_
  refine sx_iconst (v := 0) y157_12 (by decide) ?_
  refine p_max (z := 1200) y157_13 yo_157 yx_8_7 (by decide) (by decide +kernel) (by decide +kernel) (by decide +kernel) (by decide +kernel) (by decide) ?_
  refine p_newarr (N := 1200) (nc2 := 1) (ns2 := 1200) y157_16 (Or.inr (Or.inl ⟨rfl, rfl⟩)) (by decide) (by decide) (by decide) hz (by decide) rfl rfl rfl (by decide +kernel) (by decide +kernel) (fun hz => ?_)
  refine p_putR (k := 0) y157_18 yo_157 yf_8_13 (by decide) hz (by decide) rfl yn_157_7_0 (Or.inr ⟨_, rfl⟩) (fun hz => ?_)
  refine sx_aload_n (i := 0) y157_21 rfl rfl ?_
  refine sx_iload_n (i := 3) y157_22 rfl rfl ?_
  refine p_newarr (N := 80) (nc2 := 2) (ns2 := 1280) y157_23 (Or.inl ⟨rfl, rfl⟩) (by decide) (by decide) (by decide) hz (by decide) rfl rfl rfl (by decide +kernel) (by decide +kernel) (fun hz => ?_)
  refine p_putR (k := 1) y157_25 yo_157 yf_8_19 (by decide) hz (by decide) rfl yn_157_7_1 (Or.inr ⟨_, rfl⟩) (fun hz => ?_)
  refine sx_aload_n (i := 0) y157_28 rfl rfl ?_
  refine sx_iload_n (i := 3) y157_29 rfl rfl ?_
  refine p_newarr (N := 80) (nc2 := 3) (ns2 := 1360) y157_30 (Or.inl ⟨rfl, rfl⟩) (by decide) (by decide) (by decide) hz (by decide) rfl rfl rfl (by decide +kernel) (by decide +kernel) (fun hz => ?_)
  refine p_putR (k := 2) y157_32 yo_157 yf_8_23 (by decide) hz (by decide) rfl yn_157_7_2 (Or.inr ⟨_, rfl⟩) (fun hz => ?_)
  refine sx_aload_n (i := 0) y157_35 rfl rfl ?_
  refine sx_iload_n (i := 3) y157_36 rfl rfl ?_
  refine p_newarr (N := 80) (nc2 := 4) (ns2 := 1440) y157_37 (Or.inl ⟨rfl, rfl⟩) (by decide) (by decide) (by decide) hz (by decide) rfl rfl rfl (by decide +kernel) (by decide +kernel) (fun hz => ?_)
  refine p_putR (k := 3) y157_39 yo_157 yf_8_26 (by decide) hz (by decide) rfl yn_157_7_3 (Or.inr ⟨_, rfl⟩) (fun hz => ?_)
  refine sx_aload_n (i := 0) y157_42 rfl rfl ?_
  refine sx_iload_n (i := 3) y157_43 rfl rfl ?_
  refine p_newarr (N := 80) (nc2 := 5) (ns2 := 1520) y157_44 (Or.inl ⟨rfl, rfl⟩) (by decide) (by decide) (by decide) hz (by decide) rfl rfl rfl (by decide +kernel) (by decide +kernel) (fun hz => ?_)
  refine p_putR (k := 4) y157_46 yo_157 yf_8_29 (by decide) hz (by decide) rfl yn_157_7_4 (Or.inr ⟨_, rfl⟩) (fun hz => ?_)
  exact p_ret y157_49 yr_157 (by decide +kernel) (by decide +kernel)
def kr59 (R : Rf) : Rf := (wr (wr (kr60 R) 59 0 60) 59 1 66)
theorem kz59 {R : Rf} {μ : Mem} (hz : Zr 60 R μ) : Zr 67 (kr59 R) μ := (Zr.wr (Zr.up (m := 67) (Zr.wr (kz60 (Zr.up (m := 61) hz (by decide))) (by decide)) (by decide)) (by decide))
theorem kb59 {R : Rf} (h : Bd R) : Bd (kr59 R) := (Bd.wr (Bd.wr (kb60 h) (by decide)) (by decide))
theorem kc59 {L : Nat} {R : Rf} {μ : Mem} (hz : Zr 60 R μ) : Mx 173 [.ref 59] (pm L 60 R μ) (pm L 67 (kr59 R) μ, none) := by
  refine Mx_of (gML_all 173 (by decide) (by decide) (by decide)) (by decide +kernel) ?_
  show Sx 173 0 [(0, .ref 59)] [] 0 0 (pm L 60 R μ) _
  unfold kr59
  have hz0 := hz
  refine sx_aload_n (i := 0) y173_0 rfl rfl ?_
  refine p_obj y173_1 yo_173 yj_9_1 (by decide) (by decide +kernel) (by decide +kernel) ?_
  refine sx_aload_n (i := 0) y173_4 rfl rfl ?_
  refine p_new (nc2 := 1) (ns2 := 7) y173_5 yo_173 yw_9_7 (by decide) hz (by decide) rfl yg_7 rfl rfl (by decide +kernel) (by decide +kernel) (fun hz => ?_)
  refine sx_dup y173_8 rfl ?_
  refine sx_bipush (v := 80) y173_9 (by decide) ?_
  refine sx_sipush (v := 1200) y173_11 (by decide) ?_
  refine p_callI (vs := [.int 80, .int 1200]) (nc2 := 6) (ns2 := 5127) y173_14 yo_173 yl_9_11 (by decide) (gML_all 157 (by decide) (by decide) (by decide)) gcw_157 yr_157 (by decide) (kc60 hz) rfl rfl yc_157 ys_157 rfl ⟨by decide +kernel, by decide +kernel, by decide +kernel, by decide +kernel, by decide⟩ rfl rfl ?_
  replace hz := kz60 hz
  refine p_putR (k := 0) y173_17 yo_173 yf_9_14 (by decide) hz (by decide) rfl yn_173_8_0 (Or.inl ⟨_, rfl⟩) (fun hz => ?_)
  refine sx_aload_n (i := 0) y173_20 rfl rfl ?_
  refine sx_bipush (v := 6) y173_21 (by decide) ?_
  refine p_newarr (N := 6) (nc2 := 7) (ns2 := 5133) y173_23 (Or.inl ⟨rfl, rfl⟩) (by decide) (by decide) (by decide) hz (by decide) rfl rfl rfl (by decide +kernel) (by decide +kernel) (fun hz => ?_)
  refine p_putR (k := 1) y173_25 yo_173 yf_9_18 (by decide) hz (by decide) rfl yn_173_8_1 (Or.inr ⟨_, rfl⟩) (fun hz => ?_)
  exact p_ret y173_28 yr_173 (by decide +kernel) (by decide +kernel)
def kr68 (R : Rf) : Rf := (wr (wr (wr (wr (wr R 68 0 69) 68 1 70) 68 2 71) 68 3 72) 68 4 73)
theorem kz68 {R : Rf} {μ : Mem} (hz : Zr 69 R μ) : Zr 74 (kr68 R) μ := (Zr.wr (Zr.up (m := 74) (Zr.wr (Zr.up (m := 73) (Zr.wr (Zr.up (m := 72) (Zr.wr (Zr.up (m := 71) (Zr.wr (Zr.up (m := 70) hz (by decide)) (by decide)) (by decide)) (by decide)) (by decide)) (by decide)) (by decide)) (by decide)) (by decide)) (by decide))
theorem kb68 {R : Rf} (h : Bd R) : Bd (kr68 R) := (Bd.wr (Bd.wr (Bd.wr (Bd.wr (Bd.wr h (by decide)) (by decide)) (by decide)) (by decide)) (by decide))
theorem kc68 {L : Nat} {R : Rf} {μ : Mem} (hz : Zr 69 R μ) : Mx 157 [.ref 68, .int 80, .int 1200] (pm L 69 R μ) (pm L 74 (kr68 R) μ, none) := by
  refine Mx_of (gML_all 157 (by decide) (by decide) (by decide)) (by decide +kernel) ?_
  show Sx 157 0 [(0, .ref 68), (1, .int 80), (2, .int 1200)] [] 0 0 (pm L 69 R μ) _
  unfold kr68
  have hz0 := hz
  refine sx_aload_n (i := 0) y157_0 rfl rfl ?_
  refine p_obj y157_1 yo_157 yj_8_1 (by decide) (by decide +kernel) (by decide +kernel) ?_
  refine sx_iload_n (i := 1) y157_4 rfl rfl ?_
  refine sx_iconst (v := 0) y157_5 (by decide) ?_
  refine p_max (z := 80) y157_6 yo_157 yx_8_7 (by decide) (by decide +kernel) (by decide +kernel) (by decide +kernel) (by decide +kernel) (by decide) ?_
  refine y_istore_n (lo2 := [(3, .int 80), (0, .ref 68), (1, .int 80), (2, .int 1200)]) y157_9 rfl (by decide +kernel) rfl ?_
  refine sx_aload_n (i := 0) y157_10 rfl rfl ?_
  refine sx_iload_n (i := 2) y157_11 rfl rfl ?_
  refine sx_iconst (v := 0) y157_12 (by decide) ?_
  refine p_max (z := 1200) y157_13 yo_157 yx_8_7 (by decide) (by decide +kernel) (by decide +kernel) (by decide +kernel) (by decide +kernel) (by decide) ?_
  refine p_newarr (N := 1200) (nc2 := 1) (ns2 := 1200) y157_16 (Or.inr (Or.inl ⟨rfl, rfl⟩)) (by decide) (by decide) (by decide) hz (by decide) rfl rfl rfl (by decide +kernel) (by decide +kernel) (fun hz => ?_)
  refine p_putR (k := 0) y157_18 yo_157 yf_8_13 (by decide) hz (by decide) rfl yn_157_7_0 (Or.inr ⟨_, rfl⟩) (fun hz => ?_)
  refine sx_aload_n (i := 0) y157_21 rfl rfl ?_
  refine sx_iload_n (i := 3) y157_22 rfl rfl ?_
  refine p_newarr (N := 80) (nc2 := 2) (ns2 := 1280) y157_23 (Or.inl ⟨rfl, rfl⟩) (by decide) (by decide) (by decide) hz (by decide) rfl rfl rfl (by decide +kernel) (by decide +kernel) (fun hz => ?_)
  refine p_putR (k := 1) y157_25 yo_157 yf_8_19 (by decide) hz (by decide) rfl yn_157_7_1 (Or.inr ⟨_, rfl⟩) (fun hz => ?_)
  refine sx_aload_n (i := 0) y157_28 rfl rfl ?_
  refine sx_iload_n (i := 3) y157_29 rfl rfl ?_
  refine p_newarr (N := 80) (nc2 := 3) (ns2 := 1360) y157_30 (Or.inl ⟨rfl, rfl⟩) (by decide) (by decide) (by decide) hz (by decide) rfl rfl rfl (by decide +kernel) (by decide +kernel) (fun hz => ?_)
  refine p_putR (k := 2) y157_32 yo_157 yf_8_23 (by decide) hz (by decide) rfl yn_157_7_2 (Or.inr ⟨_, rfl⟩) (fun hz => ?_)
  refine sx_aload_n (i := 0) y157_35 rfl rfl ?_
  refine sx_iload_n (i := 3) y157_36 rfl rfl ?_
  refine p_newarr (N := 80) (nc2 := 4) (ns2 := 1440) y157_37 (Or.inl ⟨rfl, rfl⟩) (by decide) (by decide) (by decide) hz (by decide) rfl rfl rfl (by decide +kernel) (by decide +kernel) (fun hz => ?_)
  refine p_putR (k := 3) y157_39 yo_157 yf_8_26 (by decide) hz (by decide) rfl yn_157_7_3 (Or.inr ⟨_, rfl⟩) (fun hz => ?_)
  refine sx_aload_n (i := 0) y157_42 rfl rfl ?_
  refine sx_iload_n (i := 3) y157_43 rfl rfl ?_
  refine p_newarr (N := 80) (nc2 := 5) (ns2 := 1520) y157_44 (Or.inl ⟨rfl, rfl⟩) (by decide) (by decide) (by decide) hz (by decide) rfl rfl rfl (by decide +kernel) (by decide +kernel) (fun hz => ?_)
  refine p_putR (k := 4) y157_46 yo_157 yf_8_29 (by decide) hz (by decide) rfl yn_157_7_4 (Or.inr ⟨_, rfl⟩) (fun hz => ?_)
  exact p_ret y157_49 yr_157 (by decide +kernel) (by decide +kernel)
def kr67 (R : Rf) : Rf := (wr (wr (kr68 R) 67 0 68) 67 1 74)
theorem kz67 {R : Rf} {μ : Mem} (hz : Zr 68 R μ) : Zr 75 (kr67 R) μ := (Zr.wr (Zr.up (m := 75) (Zr.wr (kz68 (Zr.up (m := 69) hz (by decide))) (by decide)) (by decide)) (by decide))
theorem kb67 {R : Rf} (h : Bd R) : Bd (kr67 R) := (Bd.wr (Bd.wr (kb68 h) (by decide)) (by decide))
theorem kc67 {L : Nat} {R : Rf} {μ : Mem} (hz : Zr 68 R μ) : Mx 173 [.ref 67] (pm L 68 R μ) (pm L 75 (kr67 R) μ, none) := by
  refine Mx_of (gML_all 173 (by decide) (by decide) (by decide)) (by decide +kernel) ?_
  show Sx 173 0 [(0, .ref 67)] [] 0 0 (pm L 68 R μ) _
  unfold kr67
  have hz0 := hz
  refine sx_aload_n (i := 0) y173_0 rfl rfl ?_
  refine p_obj y173_1 yo_173 yj_9_1 (by decide) (by decide +kernel) (by decide +kernel) ?_
  refine sx_aload_n (i := 0) y173_4 rfl rfl ?_
  refine p_new (nc2 := 1) (ns2 := 7) y173_5 yo_173 yw_9_7 (by decide) hz (by decide) rfl yg_7 rfl rfl (by decide +kernel) (by decide +kernel) (fun hz => ?_)
  refine sx_dup y173_8 rfl ?_
  refine sx_bipush (v := 80) y173_9 (by decide) ?_
  refine sx_sipush (v := 1200) y173_11 (by decide) ?_
  refine p_callI (vs := [.int 80, .int 1200]) (nc2 := 6) (ns2 := 5127) y173_14 yo_173 yl_9_11 (by decide) (gML_all 157 (by decide) (by decide) (by decide)) gcw_157 yr_157 (by decide) (kc68 hz) rfl rfl yc_157 ys_157 rfl ⟨by decide +kernel, by decide +kernel, by decide +kernel, by decide +kernel, by decide⟩ rfl rfl ?_
  replace hz := kz68 hz
  refine p_putR (k := 0) y173_17 yo_173 yf_9_14 (by decide) hz (by decide) rfl yn_173_8_0 (Or.inl ⟨_, rfl⟩) (fun hz => ?_)
  refine sx_aload_n (i := 0) y173_20 rfl rfl ?_
  refine sx_bipush (v := 6) y173_21 (by decide) ?_
  refine p_newarr (N := 6) (nc2 := 7) (ns2 := 5133) y173_23 (Or.inl ⟨rfl, rfl⟩) (by decide) (by decide) (by decide) hz (by decide) rfl rfl rfl (by decide +kernel) (by decide +kernel) (fun hz => ?_)
  refine p_putR (k := 1) y173_25 yo_173 yf_9_18 (by decide) hz (by decide) rfl yn_173_8_1 (Or.inr ⟨_, rfl⟩) (fun hz => ?_)
  exact p_ret y173_28 yr_173 (by decide +kernel) (by decide +kernel)
def kr75 (R : Rf) : Rf := (wr (wr (wr (wr (wr R 75 0 76) 75 1 77) 75 2 78) 75 3 79) 75 4 80)
theorem kz75 {R : Rf} {μ : Mem} (hz : Zr 76 R μ) : Zr 81 (kr75 R) μ := (Zr.wr (Zr.up (m := 81) (Zr.wr (Zr.up (m := 80) (Zr.wr (Zr.up (m := 79) (Zr.wr (Zr.up (m := 78) (Zr.wr (Zr.up (m := 77) hz (by decide)) (by decide)) (by decide)) (by decide)) (by decide)) (by decide)) (by decide)) (by decide)) (by decide)) (by decide))
theorem kb75 {R : Rf} (h : Bd R) : Bd (kr75 R) := (Bd.wr (Bd.wr (Bd.wr (Bd.wr (Bd.wr h (by decide)) (by decide)) (by decide)) (by decide)) (by decide))
theorem kc75 {L : Nat} {R : Rf} {μ : Mem} (hz : Zr 76 R μ) : Mx 157 [.ref 75, .int 24, .int 1968] (pm L 76 R μ) (pm L 81 (kr75 R) μ, none) := by
  refine Mx_of (gML_all 157 (by decide) (by decide) (by decide)) (by decide +kernel) ?_
  show Sx 157 0 [(0, .ref 75), (1, .int 24), (2, .int 1968)] [] 0 0 (pm L 76 R μ) _
  unfold kr75
  have hz0 := hz
  refine sx_aload_n (i := 0) y157_0 rfl rfl ?_
  refine p_obj y157_1 yo_157 yj_8_1 (by decide) (by decide +kernel) (by decide +kernel) ?_
  refine sx_iload_n (i := 1) y157_4 rfl rfl ?_
  refine sx_iconst (v := 0) y157_5 (by decide) ?_
  refine p_max (z := 24) y157_6 yo_157 yx_8_7 (by decide) (by decide +kernel) (by decide +kernel) (by decide +kernel) (by decide +kernel) (by decide) ?_
  refine y_istore_n (lo2 := [(3, .int 24), (0, .ref 75), (1, .int 24), (2, .int 1968)]) y157_9 rfl (by decide +kernel) rfl ?_
  refine sx_aload_n (i := 0) y157_10 rfl rfl ?_
  refine sx_iload_n (i := 2) y157_11 rfl rfl ?_
  refine sx_iconst (v := 0) y157_12 (by decide) ?_
  refine p_max (z := 1968) y157_13 yo_157 yx_8_7 (by decide) (by decide +kernel) (by decide +kernel) (by decide +kernel) (by decide +kernel) (by decide) ?_
  refine p_newarr (N := 1968) (nc2 := 1) (ns2 := 1968) y157_16 (Or.inr (Or.inl ⟨rfl, rfl⟩)) (by decide) (by decide) (by decide) hz (by decide) rfl rfl rfl (by decide +kernel) (by decide +kernel) (fun hz => ?_)
  refine p_putR (k := 0) y157_18 yo_157 yf_8_13 (by decide) hz (by decide) rfl yn_157_7_0 (Or.inr ⟨_, rfl⟩) (fun hz => ?_)
  refine sx_aload_n (i := 0) y157_21 rfl rfl ?_
  refine sx_iload_n (i := 3) y157_22 rfl rfl ?_
  refine p_newarr (N := 24) (nc2 := 2) (ns2 := 1992) y157_23 (Or.inl ⟨rfl, rfl⟩) (by decide) (by decide) (by decide) hz (by decide) rfl rfl rfl (by decide +kernel) (by decide +kernel) (fun hz => ?_)
  refine p_putR (k := 1) y157_25 yo_157 yf_8_19 (by decide) hz (by decide) rfl yn_157_7_1 (Or.inr ⟨_, rfl⟩) (fun hz => ?_)
  refine sx_aload_n (i := 0) y157_28 rfl rfl ?_
  refine sx_iload_n (i := 3) y157_29 rfl rfl ?_
  refine p_newarr (N := 24) (nc2 := 3) (ns2 := 2016) y157_30 (Or.inl ⟨rfl, rfl⟩) (by decide) (by decide) (by decide) hz (by decide) rfl rfl rfl (by decide +kernel) (by decide +kernel) (fun hz => ?_)
  refine p_putR (k := 2) y157_32 yo_157 yf_8_23 (by decide) hz (by decide) rfl yn_157_7_2 (Or.inr ⟨_, rfl⟩) (fun hz => ?_)
  refine sx_aload_n (i := 0) y157_35 rfl rfl ?_
  refine sx_iload_n (i := 3) y157_36 rfl rfl ?_
  refine p_newarr (N := 24) (nc2 := 4) (ns2 := 2040) y157_37 (Or.inl ⟨rfl, rfl⟩) (by decide) (by decide) (by decide) hz (by decide) rfl rfl rfl (by decide +kernel) (by decide +kernel) (fun hz => ?_)
  refine p_putR (k := 3) y157_39 yo_157 yf_8_26 (by decide) hz (by decide) rfl yn_157_7_3 (Or.inr ⟨_, rfl⟩) (fun hz => ?_)
  refine sx_aload_n (i := 0) y157_42 rfl rfl ?_
  refine sx_iload_n (i := 3) y157_43 rfl rfl ?_
  refine p_newarr (N := 24) (nc2 := 5) (ns2 := 2064) y157_44 (Or.inl ⟨rfl, rfl⟩) (by decide) (by decide) (by decide) hz (by decide) rfl rfl rfl (by decide +kernel) (by decide +kernel) (fun hz => ?_)
  refine p_putR (k := 4) y157_46 yo_157 yf_8_29 (by decide) hz (by decide) rfl yn_157_7_4 (Or.inr ⟨_, rfl⟩) (fun hz => ?_)
  exact p_ret y157_49 yr_157 (by decide +kernel) (by decide +kernel)
def kr81 (R : Rf) : Rf := (wr (wr (wr (wr (wr R 81 0 82) 81 1 83) 81 2 84) 81 3 85) 81 4 86)
theorem kz81 {R : Rf} {μ : Mem} (hz : Zr 82 R μ) : Zr 87 (kr81 R) μ := (Zr.wr (Zr.up (m := 87) (Zr.wr (Zr.up (m := 86) (Zr.wr (Zr.up (m := 85) (Zr.wr (Zr.up (m := 84) (Zr.wr (Zr.up (m := 83) hz (by decide)) (by decide)) (by decide)) (by decide)) (by decide)) (by decide)) (by decide)) (by decide)) (by decide)) (by decide))
theorem kb81 {R : Rf} (h : Bd R) : Bd (kr81 R) := (Bd.wr (Bd.wr (Bd.wr (Bd.wr (Bd.wr h (by decide)) (by decide)) (by decide)) (by decide)) (by decide))
theorem kc81 {L : Nat} {R : Rf} {μ : Mem} (hz : Zr 82 R μ) : Mx 157 [.ref 81, .int 40, .int 1200] (pm L 82 R μ) (pm L 87 (kr81 R) μ, none) := by
  refine Mx_of (gML_all 157 (by decide) (by decide) (by decide)) (by decide +kernel) ?_
  show Sx 157 0 [(0, .ref 81), (1, .int 40), (2, .int 1200)] [] 0 0 (pm L 82 R μ) _
  unfold kr81
  have hz0 := hz
  refine sx_aload_n (i := 0) y157_0 rfl rfl ?_
  refine p_obj y157_1 yo_157 yj_8_1 (by decide) (by decide +kernel) (by decide +kernel) ?_
  refine sx_iload_n (i := 1) y157_4 rfl rfl ?_
  refine sx_iconst (v := 0) y157_5 (by decide) ?_
  refine p_max (z := 40) y157_6 yo_157 yx_8_7 (by decide) (by decide +kernel) (by decide +kernel) (by decide +kernel) (by decide +kernel) (by decide) ?_
  refine y_istore_n (lo2 := [(3, .int 40), (0, .ref 81), (1, .int 40), (2, .int 1200)]) y157_9 rfl (by decide +kernel) rfl ?_
  refine sx_aload_n (i := 0) y157_10 rfl rfl ?_
  refine sx_iload_n (i := 2) y157_11 rfl rfl ?_
  refine sx_iconst (v := 0) y157_12 (by decide) ?_
  refine p_max (z := 1200) y157_13 yo_157 yx_8_7 (by decide) (by decide +kernel) (by decide +kernel) (by decide +kernel) (by decide +kernel) (by decide) ?_
  refine p_newarr (N := 1200) (nc2 := 1) (ns2 := 1200) y157_16 (Or.inr (Or.inl ⟨rfl, rfl⟩)) (by decide) (by decide) (by decide) hz (by decide) rfl rfl rfl (by decide +kernel) (by decide +kernel) (fun hz => ?_)
  refine p_putR (k := 0) y157_18 yo_157 yf_8_13 (by decide) hz (by decide) rfl yn_157_7_0 (Or.inr ⟨_, rfl⟩) (fun hz => ?_)
  refine sx_aload_n (i := 0) y157_21 rfl rfl ?_
  refine sx_iload_n (i := 3) y157_22 rfl rfl ?_
  refine p_newarr (N := 40) (nc2 := 2) (ns2 := 1240) y157_23 (Or.inl ⟨rfl, rfl⟩) (by decide) (by decide) (by decide) hz (by decide) rfl rfl rfl (by decide +kernel) (by decide +kernel) (fun hz => ?_)
  refine p_putR (k := 1) y157_25 yo_157 yf_8_19 (by decide) hz (by decide) rfl yn_157_7_1 (Or.inr ⟨_, rfl⟩) (fun hz => ?_)
  refine sx_aload_n (i := 0) y157_28 rfl rfl ?_
  refine sx_iload_n (i := 3) y157_29 rfl rfl ?_
  refine p_newarr (N := 40) (nc2 := 3) (ns2 := 1280) y157_30 (Or.inl ⟨rfl, rfl⟩) (by decide) (by decide) (by decide) hz (by decide) rfl rfl rfl (by decide +kernel) (by decide +kernel) (fun hz => ?_)
  refine p_putR (k := 2) y157_32 yo_157 yf_8_23 (by decide) hz (by decide) rfl yn_157_7_2 (Or.inr ⟨_, rfl⟩) (fun hz => ?_)
  refine sx_aload_n (i := 0) y157_35 rfl rfl ?_
  refine sx_iload_n (i := 3) y157_36 rfl rfl ?_
  refine p_newarr (N := 40) (nc2 := 4) (ns2 := 1320) y157_37 (Or.inl ⟨rfl, rfl⟩) (by decide) (by decide) (by decide) hz (by decide) rfl rfl rfl (by decide +kernel) (by decide +kernel) (fun hz => ?_)
  refine p_putR (k := 3) y157_39 yo_157 yf_8_26 (by decide) hz (by decide) rfl yn_157_7_3 (Or.inr ⟨_, rfl⟩) (fun hz => ?_)
  refine sx_aload_n (i := 0) y157_42 rfl rfl ?_
  refine sx_iload_n (i := 3) y157_43 rfl rfl ?_
  refine p_newarr (N := 40) (nc2 := 5) (ns2 := 1360) y157_44 (Or.inl ⟨rfl, rfl⟩) (by decide) (by decide) (by decide) hz (by decide) rfl rfl rfl (by decide +kernel) (by decide +kernel) (fun hz => ?_)
  refine p_putR (k := 4) y157_46 yo_157 yf_8_29 (by decide) hz (by decide) rfl yn_157_7_4 (Or.inr ⟨_, rfl⟩) (fun hz => ?_)
  exact p_ret y157_49 yr_157 (by decide +kernel) (by decide +kernel)
def kr87 (R : Rf) : Rf := (wr R 87 0 88)
theorem kz87 {R : Rf} {μ : Mem} (hz : Zr 88 R μ) : Zr 89 (kr87 R) μ := (Zr.wr (Zr.up (m := 89) hz (by decide)) (by decide))
theorem kb87 {R : Rf} (h : Bd R) : Bd (kr87 R) := (Bd.wr h (by decide))
theorem kc87 {L : Nat} {R : Rf} {μ : Mem} (hz : Zr 88 R μ) : Mx 63 [.ref 87, .int 82] (pm L 88 R μ) (pm L 89 (kr87 R) μ, none) := by
  refine Mx_of (gML_all 63 (by decide) (by decide) (by decide)) (by decide +kernel) ?_
  show Sx 63 0 [(0, .ref 87), (1, .int 82)] [] 0 0 (pm L 88 R μ) _
  unfold kr87
  have hz0 := hz
  refine sx_aload_n (i := 0) y63_0 rfl rfl ?_
  refine p_obj y63_1 yo_63 yj_2_1 (by decide) (by decide +kernel) (by decide +kernel) ?_
  refine sx_aload_n (i := 0) y63_4 rfl rfl ?_
  refine sx_iload_n (i := 1) y63_5 rfl rfl ?_
  refine sx_iconst (v := 0) y63_6 (by decide) ?_
  refine p_max (z := 82) y63_7 yo_63 yx_2_7 (by decide) (by decide +kernel) (by decide +kernel) (by decide +kernel) (by decide +kernel) (by decide) ?_
  refine p_newarr (N := 82) (nc2 := 1) (ns2 := 82) y63_10 (Or.inr (Or.inl ⟨rfl, rfl⟩)) (by decide) (by decide) (by decide) hz (by decide) rfl rfl rfl (by decide +kernel) (by decide +kernel) (fun hz => ?_)
  refine p_putR (k := 0) y63_12 yo_63 yf_2_13 (by decide) hz (by decide) rfl yn_63_1_0 (Or.inr ⟨_, rfl⟩) (fun hz => ?_)
  exact p_ret y63_15 yr_63 (by decide +kernel) (by decide +kernel)
def kr90 (R : Rf) : Rf := (wr R 90 0 91)
theorem kz90 {R : Rf} {μ : Mem} (hz : Zr 91 R μ) : Zr 92 (kr90 R) μ := (Zr.wr (Zr.up (m := 92) hz (by decide)) (by decide))
theorem kb90 {R : Rf} (h : Bd R) : Bd (kr90 R) := (Bd.wr h (by decide))
theorem kc90 {L : Nat} {R : Rf} {μ : Mem} (hz : Zr 91 R μ) : Mx 63 [.ref 90, .int 82] (pm L 91 R μ) (pm L 92 (kr90 R) μ, none) := by
  refine Mx_of (gML_all 63 (by decide) (by decide) (by decide)) (by decide +kernel) ?_
  show Sx 63 0 [(0, .ref 90), (1, .int 82)] [] 0 0 (pm L 91 R μ) _
  unfold kr90
  have hz0 := hz
  refine sx_aload_n (i := 0) y63_0 rfl rfl ?_
  refine p_obj y63_1 yo_63 yj_2_1 (by decide) (by decide +kernel) (by decide +kernel) ?_
  refine sx_aload_n (i := 0) y63_4 rfl rfl ?_
  refine sx_iload_n (i := 1) y63_5 rfl rfl ?_
  refine sx_iconst (v := 0) y63_6 (by decide) ?_
  refine p_max (z := 82) y63_7 yo_63 yx_2_7 (by decide) (by decide +kernel) (by decide +kernel) (by decide +kernel) (by decide +kernel) (by decide) ?_
  refine p_newarr (N := 82) (nc2 := 1) (ns2 := 82) y63_10 (Or.inr (Or.inl ⟨rfl, rfl⟩)) (by decide) (by decide) (by decide) hz (by decide) rfl rfl rfl (by decide +kernel) (by decide +kernel) (fun hz => ?_)
  refine p_putR (k := 0) y63_12 yo_63 yf_2_13 (by decide) hz (by decide) rfl yn_63_1_0 (Or.inr ⟨_, rfl⟩) (fun hz => ?_)
  exact p_ret y63_15 yr_63 (by decide +kernel) (by decide +kernel)
def kr92 (R : Rf) : Rf := (wr R 92 0 93)
theorem kz92 {R : Rf} {μ : Mem} (hz : Zr 93 R μ) : Zr 94 (kr92 R) μ := (Zr.wr (Zr.up (m := 94) hz (by decide)) (by decide))
theorem kb92 {R : Rf} (h : Bd R) : Bd (kr92 R) := (Bd.wr h (by decide))
theorem kc92 {L : Nat} {R : Rf} {μ : Mem} (hz : Zr 93 R μ) : Mx 63 [.ref 92, .int 82] (pm L 93 R μ) (pm L 94 (kr92 R) μ, none) := by
  refine Mx_of (gML_all 63 (by decide) (by decide) (by decide)) (by decide +kernel) ?_
  show Sx 63 0 [(0, .ref 92), (1, .int 82)] [] 0 0 (pm L 93 R μ) _
  unfold kr92
  have hz0 := hz
  refine sx_aload_n (i := 0) y63_0 rfl rfl ?_
  refine p_obj y63_1 yo_63 yj_2_1 (by decide) (by decide +kernel) (by decide +kernel) ?_
  refine sx_aload_n (i := 0) y63_4 rfl rfl ?_
  refine sx_iload_n (i := 1) y63_5 rfl rfl ?_
  refine sx_iconst (v := 0) y63_6 (by decide) ?_
  refine p_max (z := 82) y63_7 yo_63 yx_2_7 (by decide) (by decide +kernel) (by decide +kernel) (by decide +kernel) (by decide +kernel) (by decide) ?_
  refine p_newarr (N := 82) (nc2 := 1) (ns2 := 82) y63_10 (Or.inr (Or.inl ⟨rfl, rfl⟩)) (by decide) (by decide) (by decide) hz (by decide) rfl rfl rfl (by decide +kernel) (by decide +kernel) (fun hz => ?_)
  refine p_putR (k := 0) y63_12 yo_63 yf_2_13 (by decide) hz (by decide) rfl yn_63_1_0 (Or.inr ⟨_, rfl⟩) (fun hz => ?_)
  exact p_ret y63_15 yr_63 (by decide +kernel) (by decide +kernel)
def kr97 (R : Rf) : Rf := (wr R 97 0 98)
theorem kz97 {R : Rf} {μ : Mem} (hz : Zr 98 R μ) : Zr 99 (kr97 R) μ := (Zr.wr (Zr.up (m := 99) hz (by decide)) (by decide))
theorem kb97 {R : Rf} (h : Bd R) : Bd (kr97 R) := (Bd.wr h (by decide))
theorem kc97 {L : Nat} {R : Rf} {μ : Mem} (hz : Zr 98 R μ) : Mx 63 [.ref 97, .int 64] (pm L 98 R μ) (pm L 99 (kr97 R) μ, none) := by
  refine Mx_of (gML_all 63 (by decide) (by decide) (by decide)) (by decide +kernel) ?_
  show Sx 63 0 [(0, .ref 97), (1, .int 64)] [] 0 0 (pm L 98 R μ) _
  unfold kr97
  have hz0 := hz
  refine sx_aload_n (i := 0) y63_0 rfl rfl ?_
  refine p_obj y63_1 yo_63 yj_2_1 (by decide) (by decide +kernel) (by decide +kernel) ?_
  refine sx_aload_n (i := 0) y63_4 rfl rfl ?_
  refine sx_iload_n (i := 1) y63_5 rfl rfl ?_
  refine sx_iconst (v := 0) y63_6 (by decide) ?_
  refine p_max (z := 64) y63_7 yo_63 yx_2_7 (by decide) (by decide +kernel) (by decide +kernel) (by decide +kernel) (by decide +kernel) (by decide) ?_
  refine p_newarr (N := 64) (nc2 := 1) (ns2 := 64) y63_10 (Or.inr (Or.inl ⟨rfl, rfl⟩)) (by decide) (by decide) (by decide) hz (by decide) rfl rfl rfl (by decide +kernel) (by decide +kernel) (fun hz => ?_)
  refine p_putR (k := 0) y63_12 yo_63 yf_2_13 (by decide) hz (by decide) rfl yn_63_1_0 (Or.inr ⟨_, rfl⟩) (fun hz => ?_)
  exact p_ret y63_15 yr_63 (by decide +kernel) (by decide +kernel)
def kr99 (R : Rf) : Rf := (wr R 99 0 100)
theorem kz99 {R : Rf} {μ : Mem} (hz : Zr 100 R μ) : Zr 101 (kr99 R) μ := (Zr.wr (Zr.up (m := 101) hz (by decide)) (by decide))
theorem kb99 {R : Rf} (h : Bd R) : Bd (kr99 R) := (Bd.wr h (by decide))
theorem kc99 {L : Nat} {R : Rf} {μ : Mem} (hz : Zr 100 R μ) : Mx 63 [.ref 99, .int 68] (pm L 100 R μ) (pm L 101 (kr99 R) μ, none) := by
  refine Mx_of (gML_all 63 (by decide) (by decide) (by decide)) (by decide +kernel) ?_
  show Sx 63 0 [(0, .ref 99), (1, .int 68)] [] 0 0 (pm L 100 R μ) _
  unfold kr99
  have hz0 := hz
  refine sx_aload_n (i := 0) y63_0 rfl rfl ?_
  refine p_obj y63_1 yo_63 yj_2_1 (by decide) (by decide +kernel) (by decide +kernel) ?_
  refine sx_aload_n (i := 0) y63_4 rfl rfl ?_
  refine sx_iload_n (i := 1) y63_5 rfl rfl ?_
  refine sx_iconst (v := 0) y63_6 (by decide) ?_
  refine p_max (z := 68) y63_7 yo_63 yx_2_7 (by decide) (by decide +kernel) (by decide +kernel) (by decide +kernel) (by decide +kernel) (by decide) ?_
  refine p_newarr (N := 68) (nc2 := 1) (ns2 := 68) y63_10 (Or.inr (Or.inl ⟨rfl, rfl⟩)) (by decide) (by decide) (by decide) hz (by decide) rfl rfl rfl (by decide +kernel) (by decide +kernel) (fun hz => ?_)
  refine p_putR (k := 0) y63_12 yo_63 yf_2_13 (by decide) hz (by decide) rfl yn_63_1_0 (Or.inr ⟨_, rfl⟩) (fun hz => ?_)
  exact p_ret y63_15 yr_63 (by decide +kernel) (by decide +kernel)
def kr57 (R : Rf) : Rf := (wr (wr (wr (kr99 (wr (kr97 (wr (wr (wr (wr (wr (kr92 (wr (kr90 (wr (kr87 (wr (kr81 (wr (kr75 (wr (wr (kr67 (wr (kr59 R) 58 0 59)) 58 1 67) 57 2 58)) 57 3 75)) 57 4 81)) 57 5 87)) 89 0 90)) 89 1 92) 57 6 89) 57 7 94) 57 8 95) 57 9 96)) 57 10 97)) 57 11 99) 57 0 7) 57 1 27)
theorem kz57 {R : Rf} {μ : Mem} (hz : Zr 58 R μ) : Zr 101 (kr57 R) μ := (Zr.wr (Zr.wr (Zr.wr (kz99 (Zr.up (m := 100) (Zr.wr (kz97 (Zr.up (m := 98) (Zr.wr (Zr.up (m := 97) (Zr.wr (Zr.up (m := 96) (Zr.wr (Zr.up (m := 95) (Zr.wr (Zr.wr (kz92 (Zr.up (m := 93) (Zr.wr (kz90 (Zr.up (m := 91) (Zr.up (m := 90) (Zr.wr (kz87 (Zr.up (m := 88) (Zr.wr (kz81 (Zr.up (m := 82) (Zr.wr (kz75 (Zr.up (m := 76) (Zr.wr (Zr.wr (kz67 (Zr.up (m := 68) (Zr.wr (kz59 (Zr.up (m := 60) (Zr.up (m := 59) hz (by decide)) (by decide))) (by decide)) (by decide))) (by decide)) (by decide)) (by decide))) (by decide)) (by decide))) (by decide)) (by decide))) (by decide)) (by decide)) (by decide))) (by decide)) (by decide))) (by decide)) (by decide)) (by decide)) (by decide)) (by decide)) (by decide)) (by decide)) (by decide)) (by decide))) (by decide)) (by decide))) (by decide)) (by decide)) (by decide))
theorem kb57 {R : Rf} (h : Bd R) : Bd (kr57 R) := (Bd.wr (Bd.wr (Bd.wr (kb99 (Bd.wr (kb97 (Bd.wr (Bd.wr (Bd.wr (Bd.wr (Bd.wr (kb92 (Bd.wr (kb90 (Bd.wr (kb87 (Bd.wr (kb81 (Bd.wr (kb75 (Bd.wr (Bd.wr (kb67 (Bd.wr (kb59 h) (by decide))) (by decide)) (by decide))) (by decide))) (by decide))) (by decide))) (by decide))) (by decide)) (by decide)) (by decide)) (by decide)) (by decide))) (by decide))) (by decide)) (by decide)) (by decide))
theorem kc57 {L : Nat} {R : Rf} {μ : Mem} (hz : Zr 58 R μ) : Mx 116 [.ref 57, .ref 7, .ref 27] (pm L 58 R μ) (pm L 101 (kr57 R) μ, none) := by
  refine Mx_of (gML_all 116 (by decide) (by decide) (by decide)) (by decide +kernel) ?_
  show Sx 116 0 [(0, .ref 57), (1, .ref 7), (2, .ref 27)] [] 0 0 (pm L 58 R μ) _
  unfold kr57
  have hz0 := hz
  refine sx_aload_n (i := 0) y116_0 rfl rfl ?_
  refine p_obj y116_1 yo_116 yj_6_1 (by decide) (by decide +kernel) (by decide +kernel) ?_
  refine sx_aload_n (i := 0) y116_4 rfl rfl ?_
  refine sx_iconst (v := 2) y116_5 (by decide) ?_
  refine p_anew (t := 1) (N := 2) (nc2 := 1) (ns2 := 2) y116_6 yo_116 ya_6_7 (by decide) (by decide) (by decide) (by decide) hz (by decide) rfl rfl rfl (by decide +kernel) (by decide +kernel) (fun hz => ?_)
  refine sx_dup y116_9 rfl ?_
  refine sx_iconst (v := 0) y116_10 (by decide) ?_
  refine p_new (nc2 := 2) (ns2 := 8) y116_11 yo_116 yw_6_7 (by decide) hz (by decide) rfl yg_8 rfl rfl (by decide +kernel) (by decide +kernel) (fun hz => ?_)
  refine sx_dup y116_14 rfl ?_
  refine p_callN (vs := []) (nc2 := 9) (ns2 := 5141) y116_15 yo_116 yl_6_9 ye_6_9 (by decide) (gML_all 173 (by decide) (by decide) (by decide)) gcw_173 yr_173 (by decide) (kc59 hz) rfl rfl yc_173 ys_173 rfl ⟨by decide +kernel, by decide +kernel, by decide +kernel, by decide +kernel, by decide⟩ rfl rfl ?_
  replace hz := kz59 hz
  refine p_aastore (t := 1) (k := 0) y116_18 (by decide) hz (by decide) rfl (by decide) rfl ⟨by decide, by decide⟩ (by decide) (fun hz => ?_)
  refine sx_dup y116_19 rfl ?_
  refine sx_iconst (v := 1) y116_20 (by decide) ?_
  refine p_new (nc2 := 10) (ns2 := 5147) y116_21 yo_116 yw_6_7 (by decide) hz (by decide) rfl yg_8 rfl rfl (by decide +kernel) (by decide +kernel) (fun hz => ?_)
  refine sx_dup y116_24 rfl ?_
  refine p_callN (vs := []) (nc2 := 17) (ns2 := 10280) y116_25 yo_116 yl_6_9 ye_6_9 (by decide) (gML_all 173 (by decide) (by decide) (by decide)) gcw_173 yr_173 (by decide) (kc67 hz) rfl rfl yc_173 ys_173 rfl ⟨by decide +kernel, by decide +kernel, by decide +kernel, by decide +kernel, by decide⟩ rfl rfl ?_
  replace hz := kz67 hz
  refine p_aastore (t := 1) (k := 1) y116_28 (by decide) hz (by decide) rfl (by decide) rfl ⟨by decide, by decide⟩ (by decide) (fun hz => ?_)
  refine p_putR (k := 2) y116_29 yo_116 yf_6_10 (by decide) hz (by decide) rfl yn_116_5_2 (Or.inr ⟨_, rfl⟩) (fun hz => ?_)
  refine sx_aload_n (i := 0) y116_32 rfl rfl ?_
  refine p_new (nc2 := 18) (ns2 := 10287) y116_33 yo_116 yw_6_16 (by decide) hz (by decide) rfl yg_7 rfl rfl (by decide +kernel) (by decide +kernel) (fun hz => ?_)
  refine sx_dup y116_36 rfl ?_
  refine sx_bipush (v := 24) y116_37 (by decide) ?_
  refine sx_sipush (v := 1968) y116_39 (by decide) ?_
  refine p_callI (vs := [.int 24, .int 1968]) (nc2 := 23) (ns2 := 15407) y116_42 yo_116 yl_6_18 (by decide) (gML_all 157 (by decide) (by decide) (by decide)) gcw_157 yr_157 (by decide) (kc75 hz) rfl rfl yc_157 ys_157 rfl ⟨by decide +kernel, by decide +kernel, by decide +kernel, by decide +kernel, by decide⟩ rfl rfl ?_
  replace hz := kz75 hz
  refine p_putR (k := 3) y116_45 yo_116 yf_6_21 (by decide) hz (by decide) rfl yn_116_5_3 (Or.inl ⟨_, rfl⟩) (fun hz => ?_)
  refine sx_aload_n (i := 0) y116_48 rfl rfl ?_
  refine p_new (nc2 := 24) (ns2 := 15414) y116_49 yo_116 yw_6_16 (by decide) hz (by decide) rfl yg_7 rfl rfl (by decide +kernel) (by decide +kernel) (fun hz => ?_)
  refine sx_dup y116_52 rfl ?_
  refine sx_bipush (v := 40) y116_53 (by decide) ?_
  refine sx_sipush (v := 1200) y116_55 (by decide) ?_
  refine p_callI (vs := [.int 40, .int 1200]) (nc2 := 29) (ns2 := 20534) y116_58 yo_116 yl_6_18 (by decide) (gML_all 157 (by decide) (by decide) (by decide)) gcw_157 yr_157 (by decide) (kc81 hz) rfl rfl yc_157 ys_157 rfl ⟨by decide +kernel, by decide +kernel, by decide +kernel, by decide +kernel, by decide⟩ rfl rfl ?_
  replace hz := kz81 hz
  refine p_putR (k := 4) y116_61 yo_116 yf_6_25 (by decide) hz (by decide) rfl yn_116_5_4 (Or.inl ⟨_, rfl⟩) (fun hz => ?_)
  refine sx_aload_n (i := 0) y116_64 rfl rfl ?_
  refine p_new (nc2 := 30) (ns2 := 20536) y116_65 yo_116 yw_6_28 (by decide) hz (by decide) rfl yg_1 rfl rfl (by decide +kernel) (by decide +kernel) (fun hz => ?_)
  refine sx_dup y116_68 rfl ?_
  refine sx_bipush (v := 82) y116_69 (by decide) ?_
  refine p_callI (vs := [.int 82]) (nc2 := 31) (ns2 := 21560) y116_71 yo_116 yl_6_30 (by decide) (gML_all 63 (by decide) (by decide) (by decide)) gcw_63 yr_63 (by decide) (kc87 hz) rfl rfl yc_63 ys_63 rfl ⟨by decide +kernel, by decide +kernel, by decide +kernel, by decide +kernel, by decide⟩ rfl rfl ?_
  replace hz := kz87 hz
  refine p_putR (k := 5) y116_74 yo_116 yf_6_33 (by decide) hz (by decide) rfl yn_116_5_5 (Or.inl ⟨_, rfl⟩) (fun hz => ?_)
  refine sx_aload_n (i := 0) y116_77 rfl rfl ?_
  refine sx_iconst (v := 2) y116_78 (by decide) ?_
  refine p_anew (t := 0) (N := 2) (nc2 := 32) (ns2 := 21562) y116_79 yo_116 ya_6_28 (by decide) (by decide) (by decide) (by decide) hz (by decide) rfl rfl rfl (by decide +kernel) (by decide +kernel) (fun hz => ?_)
  refine sx_dup y116_82 rfl ?_
  refine sx_iconst (v := 0) y116_83 (by decide) ?_
  refine p_new (nc2 := 33) (ns2 := 21564) y116_84 yo_116 yw_6_28 (by decide) hz (by decide) rfl yg_1 rfl rfl (by decide +kernel) (by decide +kernel) (fun hz => ?_)
  refine sx_dup y116_87 rfl ?_
  refine sx_bipush (v := 82) y116_88 (by decide) ?_
  refine p_callI (vs := [.int 82]) (nc2 := 34) (ns2 := 22588) y116_90 yo_116 yl_6_30 (by decide) (gML_all 63 (by decide) (by decide) (by decide)) gcw_63 yr_63 (by decide) (kc90 hz) rfl rfl yc_63 ys_63 rfl ⟨by decide +kernel, by decide +kernel, by decide +kernel, by decide +kernel, by decide⟩ rfl rfl ?_
  replace hz := kz90 hz
  refine p_aastore (t := 0) (k := 0) y116_93 (by decide) hz (by decide) rfl (by decide) rfl ⟨by decide, by decide⟩ (by decide) (fun hz => ?_)
  refine sx_dup y116_94 rfl ?_
  refine sx_iconst (v := 1) y116_95 (by decide) ?_
  refine p_new (nc2 := 35) (ns2 := 22590) y116_96 yo_116 yw_6_28 (by decide) hz (by decide) rfl yg_1 rfl rfl (by decide +kernel) (by decide +kernel) (fun hz => ?_)
  refine sx_dup y116_99 rfl ?_
  refine sx_bipush (v := 82) y116_100 (by decide) ?_
  refine p_callI (vs := [.int 82]) (nc2 := 36) (ns2 := 23614) y116_102 yo_116 yl_6_30 (by decide) (gML_all 63 (by decide) (by decide) (by decide)) gcw_63 yr_63 (by decide) (kc92 hz) rfl rfl yc_63 ys_63 rfl ⟨by decide +kernel, by decide +kernel, by decide +kernel, by decide +kernel, by decide⟩ rfl rfl ?_
  replace hz := kz92 hz
  refine p_aastore (t := 0) (k := 1) y116_105 (by decide) hz (by decide) rfl (by decide) rfl ⟨by decide, by decide⟩ (by decide) (fun hz => ?_)
  refine p_putR (k := 6) y116_106 yo_116 yf_6_37 (by decide) hz (by decide) rfl yn_116_5_6 (Or.inr ⟨_, rfl⟩) (fun hz => ?_)
  refine sx_aload_n (i := 0) y116_109 rfl rfl ?_
  refine sx_iconst (v := 2) y116_110 (by decide) ?_
  refine p_newarr (N := 2) (nc2 := 37) (ns2 := 23616) y116_111 (Or.inl ⟨rfl, rfl⟩) (by decide) (by decide) (by decide) hz (by decide) rfl rfl rfl (by decide +kernel) (by decide +kernel) (fun hz => ?_)
  refine p_putR (k := 7) y116_113 yo_116 yf_6_41 (by decide) hz (by decide) rfl yn_116_5_7 (Or.inr ⟨_, rfl⟩) (fun hz => ?_)
  refine sx_aload_n (i := 0) y116_116 rfl rfl ?_
  refine sx_iconst (v := 2) y116_117 (by decide) ?_
  refine p_newarr (N := 2) (nc2 := 38) (ns2 := 23618) y116_118 (Or.inl ⟨rfl, rfl⟩) (by decide) (by decide) (by decide) hz (by decide) rfl rfl rfl (by decide +kernel) (by decide +kernel) (fun hz => ?_)
  refine p_putR (k := 8) y116_120 yo_116 yf_6_45 (by decide) hz (by decide) rfl yn_116_5_8 (Or.inr ⟨_, rfl⟩) (fun hz => ?_)
  refine sx_aload_n (i := 0) y116_123 rfl rfl ?_
  refine sx_bipush (v := 8) y116_124 (by decide) ?_
  refine p_newarr (N := 8) (nc2 := 39) (ns2 := 23626) y116_126 (Or.inl ⟨rfl, rfl⟩) (by decide) (by decide) (by decide) hz (by decide) rfl rfl rfl (by decide +kernel) (by decide +kernel) (fun hz => ?_)
  refine p_putR (k := 9) y116_128 yo_116 yf_6_48 (by decide) hz (by decide) rfl yn_116_5_9 (Or.inr ⟨_, rfl⟩) (fun hz => ?_)
  refine sx_aload_n (i := 0) y116_131 rfl rfl ?_
  refine p_new (nc2 := 40) (ns2 := 23628) y116_132 yo_116 yw_6_28 (by decide) hz (by decide) rfl yg_1 rfl rfl (by decide +kernel) (by decide +kernel) (fun hz => ?_)
  refine sx_dup y116_135 rfl ?_
  refine sx_bipush (v := 64) y116_136 (by decide) ?_
  refine p_callI (vs := [.int 64]) (nc2 := 41) (ns2 := 24652) y116_138 yo_116 yl_6_30 (by decide) (gML_all 63 (by decide) (by decide) (by decide)) gcw_63 yr_63 (by decide) (kc97 hz) rfl rfl yc_63 ys_63 rfl ⟨by decide +kernel, by decide +kernel, by decide +kernel, by decide +kernel, by decide⟩ rfl rfl ?_
  replace hz := kz97 hz
  refine p_putR (k := 10) y116_141 yo_116 yf_6_51 (by decide) hz (by decide) rfl yn_116_5_10 (Or.inl ⟨_, rfl⟩) (fun hz => ?_)
  refine sx_aload_n (i := 0) y116_144 rfl rfl ?_
  refine p_new (nc2 := 42) (ns2 := 24654) y116_145 yo_116 yw_6_28 (by decide) hz (by decide) rfl yg_1 rfl rfl (by decide +kernel) (by decide +kernel) (fun hz => ?_)
  refine sx_dup y116_148 rfl ?_
  refine sx_bipush (v := 68) y116_149 (by decide) ?_
  refine p_callI (vs := [.int 68]) (nc2 := 43) (ns2 := 25678) y116_151 yo_116 yl_6_30 (by decide) (gML_all 63 (by decide) (by decide) (by decide)) gcw_63 yr_63 (by decide) (kc99 hz) rfl rfl yc_63 ys_63 rfl ⟨by decide +kernel, by decide +kernel, by decide +kernel, by decide +kernel, by decide⟩ rfl rfl ?_
  replace hz := kz99 hz
  refine p_putR (k := 11) y116_154 yo_116 yf_6_54 (by decide) hz (by decide) rfl yn_116_5_11 (Or.inl ⟨_, rfl⟩) (fun hz => ?_)
  refine sx_aload_n (i := 0) y116_157 rfl rfl ?_
  refine sx_aload_n (i := 1) y116_158 rfl rfl ?_
  refine p_putR (k := 0) y116_159 yo_116 yf_6_57 (by decide) hz (by decide) rfl yn_116_5_0 (Or.inl ⟨_, rfl⟩) (fun hz => ?_)
  refine sx_aload_n (i := 0) y116_162 rfl rfl ?_
  refine sx_aload_n (i := 2) y116_163 rfl rfl ?_
  refine p_putR (k := 1) y116_164 yo_116 yf_6_61 (by decide) hz (by decide) rfl yn_116_5_1 (Or.inr ⟨_, rfl⟩) (fun hz => ?_)
  exact p_ret y116_167 yr_116 (by decide +kernel) (by decide +kernel)
def kr102 (R : Rf) : Rf := (wr (wr (wr (wr (wr R 102 0 103) 102 1 104) 102 2 105) 102 3 106) 102 4 107)
theorem kz102 {R : Rf} {μ : Mem} (hz : Zr 103 R μ) : Zr 108 (kr102 R) μ := (Zr.wr (Zr.up (m := 108) (Zr.wr (Zr.up (m := 107) (Zr.wr (Zr.up (m := 106) (Zr.wr (Zr.up (m := 105) (Zr.wr (Zr.up (m := 104) hz (by decide)) (by decide)) (by decide)) (by decide)) (by decide)) (by decide)) (by decide)) (by decide)) (by decide)) (by decide))
theorem kb102 {R : Rf} (h : Bd R) : Bd (kr102 R) := (Bd.wr (Bd.wr (Bd.wr (Bd.wr (Bd.wr h (by decide)) (by decide)) (by decide)) (by decide)) (by decide))
theorem kc102 {L : Nat} {R : Rf} {μ : Mem} (hz : Zr 103 R μ) : Mx 157 [.ref 102, .int 8, .int 480] (pm L 103 R μ) (pm L 108 (kr102 R) μ, none) := by
  refine Mx_of (gML_all 157 (by decide) (by decide) (by decide)) (by decide +kernel) ?_
  show Sx 157 0 [(0, .ref 102), (1, .int 8), (2, .int 480)] [] 0 0 (pm L 103 R μ) _
  unfold kr102
  have hz0 := hz
  refine sx_aload_n (i := 0) y157_0 rfl rfl ?_
  refine p_obj y157_1 yo_157 yj_8_1 (by decide) (by decide +kernel) (by decide +kernel) ?_
  refine sx_iload_n (i := 1) y157_4 rfl rfl ?_
  refine sx_iconst (v := 0) y157_5 (by decide) ?_
  refine p_max (z := 8) y157_6 yo_157 yx_8_7 (by decide) (by decide +kernel) (by decide +kernel) (by decide +kernel) (by decide +kernel) (by decide) ?_
  refine y_istore_n (lo2 := [(3, .int 8), (0, .ref 102), (1, .int 8), (2, .int 480)]) y157_9 rfl (by decide +kernel) rfl ?_
  refine sx_aload_n (i := 0) y157_10 rfl rfl ?_
  refine sx_iload_n (i := 2) y157_11 rfl rfl ?_
  refine sx_iconst (v := 0) y157_12 (by decide) ?_
  refine p_max (z := 480) y157_13 yo_157 yx_8_7 (by decide) (by decide +kernel) (by decide +kernel) (by decide +kernel) (by decide +kernel) (by decide) ?_
  refine p_newarr (N := 480) (nc2 := 1) (ns2 := 480) y157_16 (Or.inr (Or.inl ⟨rfl, rfl⟩)) (by decide) (by decide) (by decide) hz (by decide) rfl rfl rfl (by decide +kernel) (by decide +kernel) (fun hz => ?_)
  refine p_putR (k := 0) y157_18 yo_157 yf_8_13 (by decide) hz (by decide) rfl yn_157_7_0 (Or.inr ⟨_, rfl⟩) (fun hz => ?_)
  refine sx_aload_n (i := 0) y157_21 rfl rfl ?_
  refine sx_iload_n (i := 3) y157_22 rfl rfl ?_
  refine p_newarr (N := 8) (nc2 := 2) (ns2 := 488) y157_23 (Or.inl ⟨rfl, rfl⟩) (by decide) (by decide) (by decide) hz (by decide) rfl rfl rfl (by decide +kernel) (by decide +kernel) (fun hz => ?_)
  refine p_putR (k := 1) y157_25 yo_157 yf_8_19 (by decide) hz (by decide) rfl yn_157_7_1 (Or.inr ⟨_, rfl⟩) (fun hz => ?_)
  refine sx_aload_n (i := 0) y157_28 rfl rfl ?_
  refine sx_iload_n (i := 3) y157_29 rfl rfl ?_
  refine p_newarr (N := 8) (nc2 := 3) (ns2 := 496) y157_30 (Or.inl ⟨rfl, rfl⟩) (by decide) (by decide) (by decide) hz (by decide) rfl rfl rfl (by decide +kernel) (by decide +kernel) (fun hz => ?_)
  refine p_putR (k := 2) y157_32 yo_157 yf_8_23 (by decide) hz (by decide) rfl yn_157_7_2 (Or.inr ⟨_, rfl⟩) (fun hz => ?_)
  refine sx_aload_n (i := 0) y157_35 rfl rfl ?_
  refine sx_iload_n (i := 3) y157_36 rfl rfl ?_
  refine p_newarr (N := 8) (nc2 := 4) (ns2 := 504) y157_37 (Or.inl ⟨rfl, rfl⟩) (by decide) (by decide) (by decide) hz (by decide) rfl rfl rfl (by decide +kernel) (by decide +kernel) (fun hz => ?_)
  refine p_putR (k := 3) y157_39 yo_157 yf_8_26 (by decide) hz (by decide) rfl yn_157_7_3 (Or.inr ⟨_, rfl⟩) (fun hz => ?_)
  refine sx_aload_n (i := 0) y157_42 rfl rfl ?_
  refine sx_iload_n (i := 3) y157_43 rfl rfl ?_
  refine p_newarr (N := 8) (nc2 := 5) (ns2 := 512) y157_44 (Or.inl ⟨rfl, rfl⟩) (by decide) (by decide) (by decide) hz (by decide) rfl rfl rfl (by decide +kernel) (by decide +kernel) (fun hz => ?_)
  refine p_putR (k := 4) y157_46 yo_157 yf_8_29 (by decide) hz (by decide) rfl yn_157_7_4 (Or.inr ⟨_, rfl⟩) (fun hz => ?_)
  exact p_ret y157_49 yr_157 (by decide +kernel) (by decide +kernel)
def kr108 (R : Rf) : Rf := (wr (wr (wr (wr (wr R 108 0 109) 108 1 110) 108 2 111) 108 3 112) 108 4 113)
theorem kz108 {R : Rf} {μ : Mem} (hz : Zr 109 R μ) : Zr 114 (kr108 R) μ := (Zr.wr (Zr.up (m := 114) (Zr.wr (Zr.up (m := 113) (Zr.wr (Zr.up (m := 112) (Zr.wr (Zr.up (m := 111) (Zr.wr (Zr.up (m := 110) hz (by decide)) (by decide)) (by decide)) (by decide)) (by decide)) (by decide)) (by decide)) (by decide)) (by decide)) (by decide))
theorem kb108 {R : Rf} (h : Bd R) : Bd (kr108 R) := (Bd.wr (Bd.wr (Bd.wr (Bd.wr (Bd.wr h (by decide)) (by decide)) (by decide)) (by decide)) (by decide))
theorem kc108 {L : Nat} {R : Rf} {μ : Mem} (hz : Zr 109 R μ) : Mx 157 [.ref 108, .int 16, .int 640] (pm L 109 R μ) (pm L 114 (kr108 R) μ, none) := by
  refine Mx_of (gML_all 157 (by decide) (by decide) (by decide)) (by decide +kernel) ?_
  show Sx 157 0 [(0, .ref 108), (1, .int 16), (2, .int 640)] [] 0 0 (pm L 109 R μ) _
  unfold kr108
  have hz0 := hz
  refine sx_aload_n (i := 0) y157_0 rfl rfl ?_
  refine p_obj y157_1 yo_157 yj_8_1 (by decide) (by decide +kernel) (by decide +kernel) ?_
  refine sx_iload_n (i := 1) y157_4 rfl rfl ?_
  refine sx_iconst (v := 0) y157_5 (by decide) ?_
  refine p_max (z := 16) y157_6 yo_157 yx_8_7 (by decide) (by decide +kernel) (by decide +kernel) (by decide +kernel) (by decide +kernel) (by decide) ?_
  refine y_istore_n (lo2 := [(3, .int 16), (0, .ref 108), (1, .int 16), (2, .int 640)]) y157_9 rfl (by decide +kernel) rfl ?_
  refine sx_aload_n (i := 0) y157_10 rfl rfl ?_
  refine sx_iload_n (i := 2) y157_11 rfl rfl ?_
  refine sx_iconst (v := 0) y157_12 (by decide) ?_
  refine p_max (z := 640) y157_13 yo_157 yx_8_7 (by decide) (by decide +kernel) (by decide +kernel) (by decide +kernel) (by decide +kernel) (by decide) ?_
  refine p_newarr (N := 640) (nc2 := 1) (ns2 := 640) y157_16 (Or.inr (Or.inl ⟨rfl, rfl⟩)) (by decide) (by decide) (by decide) hz (by decide) rfl rfl rfl (by decide +kernel) (by decide +kernel) (fun hz => ?_)
  refine p_putR (k := 0) y157_18 yo_157 yf_8_13 (by decide) hz (by decide) rfl yn_157_7_0 (Or.inr ⟨_, rfl⟩) (fun hz => ?_)
  refine sx_aload_n (i := 0) y157_21 rfl rfl ?_
  refine sx_iload_n (i := 3) y157_22 rfl rfl ?_
  refine p_newarr (N := 16) (nc2 := 2) (ns2 := 656) y157_23 (Or.inl ⟨rfl, rfl⟩) (by decide) (by decide) (by decide) hz (by decide) rfl rfl rfl (by decide +kernel) (by decide +kernel) (fun hz => ?_)
  refine p_putR (k := 1) y157_25 yo_157 yf_8_19 (by decide) hz (by decide) rfl yn_157_7_1 (Or.inr ⟨_, rfl⟩) (fun hz => ?_)
  refine sx_aload_n (i := 0) y157_28 rfl rfl ?_
  refine sx_iload_n (i := 3) y157_29 rfl rfl ?_
  refine p_newarr (N := 16) (nc2 := 3) (ns2 := 672) y157_30 (Or.inl ⟨rfl, rfl⟩) (by decide) (by decide) (by decide) hz (by decide) rfl rfl rfl (by decide +kernel) (by decide +kernel) (fun hz => ?_)
  refine p_putR (k := 2) y157_32 yo_157 yf_8_23 (by decide) hz (by decide) rfl yn_157_7_2 (Or.inr ⟨_, rfl⟩) (fun hz => ?_)
  refine sx_aload_n (i := 0) y157_35 rfl rfl ?_
  refine sx_iload_n (i := 3) y157_36 rfl rfl ?_
  refine p_newarr (N := 16) (nc2 := 4) (ns2 := 688) y157_37 (Or.inl ⟨rfl, rfl⟩) (by decide) (by decide) (by decide) hz (by decide) rfl rfl rfl (by decide +kernel) (by decide +kernel) (fun hz => ?_)
  refine p_putR (k := 3) y157_39 yo_157 yf_8_26 (by decide) hz (by decide) rfl yn_157_7_3 (Or.inr ⟨_, rfl⟩) (fun hz => ?_)
  refine sx_aload_n (i := 0) y157_42 rfl rfl ?_
  refine sx_iload_n (i := 3) y157_43 rfl rfl ?_
  refine p_newarr (N := 16) (nc2 := 5) (ns2 := 704) y157_44 (Or.inl ⟨rfl, rfl⟩) (by decide) (by decide) (by decide) hz (by decide) rfl rfl rfl (by decide +kernel) (by decide +kernel) (fun hz => ?_)
  refine p_putR (k := 4) y157_46 yo_157 yf_8_29 (by decide) hz (by decide) rfl yn_157_7_4 (Or.inr ⟨_, rfl⟩) (fun hz => ?_)
  exact p_ret y157_49 yr_157 (by decide +kernel) (by decide +kernel)
def kr114 (R : Rf) : Rf := (wr (wr (wr (wr (wr R 114 0 115) 114 1 116) 114 2 117) 114 3 118) 114 4 119)
theorem kz114 {R : Rf} {μ : Mem} (hz : Zr 115 R μ) : Zr 120 (kr114 R) μ := (Zr.wr (Zr.up (m := 120) (Zr.wr (Zr.up (m := 119) (Zr.wr (Zr.up (m := 118) (Zr.wr (Zr.up (m := 117) (Zr.wr (Zr.up (m := 116) hz (by decide)) (by decide)) (by decide)) (by decide)) (by decide)) (by decide)) (by decide)) (by decide)) (by decide)) (by decide))
theorem kb114 {R : Rf} (h : Bd R) : Bd (kr114 R) := (Bd.wr (Bd.wr (Bd.wr (Bd.wr (Bd.wr h (by decide)) (by decide)) (by decide)) (by decide)) (by decide))
theorem kc114 {L : Nat} {R : Rf} {μ : Mem} (hz : Zr 115 R μ) : Mx 157 [.ref 114, .int 32, .int 1280] (pm L 115 R μ) (pm L 120 (kr114 R) μ, none) := by
  refine Mx_of (gML_all 157 (by decide) (by decide) (by decide)) (by decide +kernel) ?_
  show Sx 157 0 [(0, .ref 114), (1, .int 32), (2, .int 1280)] [] 0 0 (pm L 115 R μ) _
  unfold kr114
  have hz0 := hz
  refine sx_aload_n (i := 0) y157_0 rfl rfl ?_
  refine p_obj y157_1 yo_157 yj_8_1 (by decide) (by decide +kernel) (by decide +kernel) ?_
  refine sx_iload_n (i := 1) y157_4 rfl rfl ?_
  refine sx_iconst (v := 0) y157_5 (by decide) ?_
  refine p_max (z := 32) y157_6 yo_157 yx_8_7 (by decide) (by decide +kernel) (by decide +kernel) (by decide +kernel) (by decide +kernel) (by decide) ?_
  refine y_istore_n (lo2 := [(3, .int 32), (0, .ref 114), (1, .int 32), (2, .int 1280)]) y157_9 rfl (by decide +kernel) rfl ?_
  refine sx_aload_n (i := 0) y157_10 rfl rfl ?_
  refine sx_iload_n (i := 2) y157_11 rfl rfl ?_
  refine sx_iconst (v := 0) y157_12 (by decide) ?_
  refine p_max (z := 1280) y157_13 yo_157 yx_8_7 (by decide) (by decide +kernel) (by decide +kernel) (by decide +kernel) (by decide +kernel) (by decide) ?_
  refine p_newarr (N := 1280) (nc2 := 1) (ns2 := 1280) y157_16 (Or.inr (Or.inl ⟨rfl, rfl⟩)) (by decide) (by decide) (by decide) hz (by decide) rfl rfl rfl (by decide +kernel) (by decide +kernel) (fun hz => ?_)
  refine p_putR (k := 0) y157_18 yo_157 yf_8_13 (by decide) hz (by decide) rfl yn_157_7_0 (Or.inr ⟨_, rfl⟩) (fun hz => ?_)
  refine sx_aload_n (i := 0) y157_21 rfl rfl ?_
  refine sx_iload_n (i := 3) y157_22 rfl rfl ?_
  refine p_newarr (N := 32) (nc2 := 2) (ns2 := 1312) y157_23 (Or.inl ⟨rfl, rfl⟩) (by decide) (by decide) (by decide) hz (by decide) rfl rfl rfl (by decide +kernel) (by decide +kernel) (fun hz => ?_)
  refine p_putR (k := 1) y157_25 yo_157 yf_8_19 (by decide) hz (by decide) rfl yn_157_7_1 (Or.inr ⟨_, rfl⟩) (fun hz => ?_)
  refine sx_aload_n (i := 0) y157_28 rfl rfl ?_
  refine sx_iload_n (i := 3) y157_29 rfl rfl ?_
  refine p_newarr (N := 32) (nc2 := 3) (ns2 := 1344) y157_30 (Or.inl ⟨rfl, rfl⟩) (by decide) (by decide) (by decide) hz (by decide) rfl rfl rfl (by decide +kernel) (by decide +kernel) (fun hz => ?_)
  refine p_putR (k := 2) y157_32 yo_157 yf_8_23 (by decide) hz (by decide) rfl yn_157_7_2 (Or.inr ⟨_, rfl⟩) (fun hz => ?_)
  refine sx_aload_n (i := 0) y157_35 rfl rfl ?_
  refine sx_iload_n (i := 3) y157_36 rfl rfl ?_
  refine p_newarr (N := 32) (nc2 := 4) (ns2 := 1376) y157_37 (Or.inl ⟨rfl, rfl⟩) (by decide) (by decide) (by decide) hz (by decide) rfl rfl rfl (by decide +kernel) (by decide +kernel) (fun hz => ?_)
  refine p_putR (k := 3) y157_39 yo_157 yf_8_26 (by decide) hz (by decide) rfl yn_157_7_3 (Or.inr ⟨_, rfl⟩) (fun hz => ?_)
  refine sx_aload_n (i := 0) y157_42 rfl rfl ?_
  refine sx_iload_n (i := 3) y157_43 rfl rfl ?_
  refine p_newarr (N := 32) (nc2 := 5) (ns2 := 1408) y157_44 (Or.inl ⟨rfl, rfl⟩) (by decide) (by decide) (by decide) hz (by decide) rfl rfl rfl (by decide +kernel) (by decide +kernel) (fun hz => ?_)
  refine p_putR (k := 4) y157_46 yo_157 yf_8_29 (by decide) hz (by decide) rfl yn_157_7_4 (Or.inr ⟨_, rfl⟩) (fun hz => ?_)
  exact p_ret y157_49 yr_157 (by decide +kernel) (by decide +kernel)
def kr120 (R : Rf) : Rf := (wr R 120 0 121)
theorem kz120 {R : Rf} {μ : Mem} (hz : Zr 121 R μ) : Zr 122 (kr120 R) μ := (Zr.wr (Zr.up (m := 122) hz (by decide)) (by decide))
theorem kb120 {R : Rf} (h : Bd R) : Bd (kr120 R) := (Bd.wr h (by decide))
theorem kc120 {L : Nat} {R : Rf} {μ : Mem} (hz : Zr 121 R μ) : Mx 63 [.ref 120, .int 60] (pm L 121 R μ) (pm L 122 (kr120 R) μ, none) := by
  refine Mx_of (gML_all 63 (by decide) (by decide) (by decide)) (by decide +kernel) ?_
  show Sx 63 0 [(0, .ref 120), (1, .int 60)] [] 0 0 (pm L 121 R μ) _
  unfold kr120
  have hz0 := hz
  refine sx_aload_n (i := 0) y63_0 rfl rfl ?_
  refine p_obj y63_1 yo_63 yj_2_1 (by decide) (by decide +kernel) (by decide +kernel) ?_
  refine sx_aload_n (i := 0) y63_4 rfl rfl ?_
  refine sx_iload_n (i := 1) y63_5 rfl rfl ?_
  refine sx_iconst (v := 0) y63_6 (by decide) ?_
  refine p_max (z := 60) y63_7 yo_63 yx_2_7 (by decide) (by decide +kernel) (by decide +kernel) (by decide +kernel) (by decide +kernel) (by decide) ?_
  refine p_newarr (N := 60) (nc2 := 1) (ns2 := 60) y63_10 (Or.inr (Or.inl ⟨rfl, rfl⟩)) (by decide) (by decide) (by decide) hz (by decide) rfl rfl rfl (by decide +kernel) (by decide +kernel) (fun hz => ?_)
  refine p_putR (k := 0) y63_12 yo_63 yf_2_13 (by decide) hz (by decide) rfl yn_63_1_0 (Or.inr ⟨_, rfl⟩) (fun hz => ?_)
  exact p_ret y63_15 yr_63 (by decide +kernel) (by decide +kernel)
def kr122 (R : Rf) : Rf := (wr R 122 0 123)
theorem kz122 {R : Rf} {μ : Mem} (hz : Zr 123 R μ) : Zr 124 (kr122 R) μ := (Zr.wr (Zr.up (m := 124) hz (by decide)) (by decide))
theorem kb122 {R : Rf} (h : Bd R) : Bd (kr122 R) := (Bd.wr h (by decide))
theorem kc122 {L : Nat} {R : Rf} {μ : Mem} (hz : Zr 123 R μ) : Mx 63 [.ref 122, .int 60] (pm L 123 R μ) (pm L 124 (kr122 R) μ, none) := by
  refine Mx_of (gML_all 63 (by decide) (by decide) (by decide)) (by decide +kernel) ?_
  show Sx 63 0 [(0, .ref 122), (1, .int 60)] [] 0 0 (pm L 123 R μ) _
  unfold kr122
  have hz0 := hz
  refine sx_aload_n (i := 0) y63_0 rfl rfl ?_
  refine p_obj y63_1 yo_63 yj_2_1 (by decide) (by decide +kernel) (by decide +kernel) ?_
  refine sx_aload_n (i := 0) y63_4 rfl rfl ?_
  refine sx_iload_n (i := 1) y63_5 rfl rfl ?_
  refine sx_iconst (v := 0) y63_6 (by decide) ?_
  refine p_max (z := 60) y63_7 yo_63 yx_2_7 (by decide) (by decide +kernel) (by decide +kernel) (by decide +kernel) (by decide +kernel) (by decide) ?_
  refine p_newarr (N := 60) (nc2 := 1) (ns2 := 60) y63_10 (Or.inr (Or.inl ⟨rfl, rfl⟩)) (by decide) (by decide) (by decide) hz (by decide) rfl rfl rfl (by decide +kernel) (by decide +kernel) (fun hz => ?_)
  refine p_putR (k := 0) y63_12 yo_63 yf_2_13 (by decide) hz (by decide) rfl yn_63_1_0 (Or.inr ⟨_, rfl⟩) (fun hz => ?_)
  exact p_ret y63_15 yr_63 (by decide +kernel) (by decide +kernel)
def kr127 (R : Rf) : Rf := (wr R 127 0 128)
theorem kz127 {R : Rf} {μ : Mem} (hz : Zr 128 R μ) : Zr 129 (kr127 R) μ := (Zr.wr (Zr.up (m := 129) hz (by decide)) (by decide))
theorem kb127 {R : Rf} (h : Bd R) : Bd (kr127 R) := (Bd.wr h (by decide))
theorem kc127 {L : Nat} {R : Rf} {μ : Mem} (hz : Zr 128 R μ) : Mx 63 [.ref 127, .int 1024] (pm L 128 R μ) (pm L 129 (kr127 R) μ, none) := by
  refine Mx_of (gML_all 63 (by decide) (by decide) (by decide)) (by decide +kernel) ?_
  show Sx 63 0 [(0, .ref 127), (1, .int 1024)] [] 0 0 (pm L 128 R μ) _
  unfold kr127
  have hz0 := hz
  refine sx_aload_n (i := 0) y63_0 rfl rfl ?_
  refine p_obj y63_1 yo_63 yj_2_1 (by decide) (by decide +kernel) (by decide +kernel) ?_
  refine sx_aload_n (i := 0) y63_4 rfl rfl ?_
  refine sx_iload_n (i := 1) y63_5 rfl rfl ?_
  refine sx_iconst (v := 0) y63_6 (by decide) ?_
  refine p_max (z := 1024) y63_7 yo_63 yx_2_7 (by decide) (by decide +kernel) (by decide +kernel) (by decide +kernel) (by decide +kernel) (by decide) ?_
  refine p_newarr (N := 1024) (nc2 := 1) (ns2 := 1024) y63_10 (Or.inr (Or.inl ⟨rfl, rfl⟩)) (by decide) (by decide) (by decide) hz (by decide) rfl rfl rfl (by decide +kernel) (by decide +kernel) (fun hz => ?_)
  refine p_putR (k := 0) y63_12 yo_63 yf_2_13 (by decide) hz (by decide) rfl yn_63_1_0 (Or.inr ⟨_, rfl⟩) (fun hz => ?_)
  exact p_ret y63_15 yr_63 (by decide +kernel) (by decide +kernel)
def kr101 (R : Rf) : Rf := (wr (wr (wr (kr127 (wr (wr (wr (wr (kr122 (wr (kr120 (wr (kr114 (wr (kr108 (wr (kr102 R) 101 2 102)) 101 3 108)) 101 4 114)) 101 5 120)) 101 6 122) 101 7 124) 101 8 125) 101 9 126)) 101 10 127) 101 0 57) 101 1 9)
def ku101 (μ : Mem) : Mem := (zoM μ 1024)
theorem kz101 {R : Rf} {μ : Mem} (hz : Zr 102 R μ) : Zr 129 (kr101 R) (ku101 μ) := (zoM_Z (Zr.wr (Zr.wr (Zr.wr (kz127 (Zr.up (m := 128) (Zr.wr (Zr.up (m := 127) (Zr.wr (Zr.up (m := 126) (Zr.wr (Zr.up (m := 125) (Zr.wr (kz122 (Zr.up (m := 123) (Zr.wr (kz120 (Zr.up (m := 121) (Zr.wr (kz114 (Zr.up (m := 115) (Zr.wr (kz108 (Zr.up (m := 109) (Zr.wr (kz102 (Zr.up (m := 103) hz (by decide))) (by decide)) (by decide))) (by decide)) (by decide))) (by decide)) (by decide))) (by decide)) (by decide))) (by decide)) (by decide)) (by decide)) (by decide)) (by decide)) (by decide)) (by decide)) (by decide))) (by decide)) (by decide)) (by decide)) 1024)
theorem kb101 {R : Rf} (h : Bd R) : Bd (kr101 R) := (Bd.wr (Bd.wr (Bd.wr (kb127 (Bd.wr (Bd.wr (Bd.wr (Bd.wr (kb122 (Bd.wr (kb120 (Bd.wr (kb114 (Bd.wr (kb108 (Bd.wr (kb102 h) (by decide))) (by decide))) (by decide))) (by decide))) (by decide)) (by decide)) (by decide)) (by decide))) (by decide)) (by decide)) (by decide))
theorem kc101 {L : Nat} {R : Rf} {μ : Mem} (hz : Zr 102 R μ) : Mx 4 [.ref 101, .ref 57, .ref 9] (pm L 102 R μ) (pm L 129 (kr101 R) (ku101 μ), none) := by
  refine Mx_of (gML_all 4 (by decide) (by decide) (by decide)) (by decide +kernel) ?_
  show Sx 4 0 [(0, .ref 101), (1, .ref 57), (2, .ref 9)] [] 0 0 (pm L 102 R μ) _
  unfold kr101 ku101
  have hz0 := hz
  refine sx_aload_n (i := 0) y4_0 rfl rfl ?_
  refine p_obj y4_1 yo_4 yj_1_3 (by decide) (by decide +kernel) (by decide +kernel) ?_
  refine sx_aload_n (i := 0) y4_4 rfl rfl ?_
  refine p_new (nc2 := 1) (ns2 := 7) y4_5 yo_4 yw_1_9 (by decide) hz (by decide) rfl yg_7 rfl rfl (by decide +kernel) (by decide +kernel) (fun hz => ?_)
  refine sx_dup y4_8 rfl ?_
  refine sx_bipush (v := 8) y4_9 (by decide) ?_
  refine sx_sipush (v := 480) y4_11 (by decide) ?_
  refine p_callI (vs := [.int 8, .int 480]) (nc2 := 6) (ns2 := 5127) y4_14 yo_4 yl_1_13 (by decide) (gML_all 157 (by decide) (by decide) (by decide)) gcw_157 yr_157 (by decide) (kc102 hz) rfl rfl yc_157 ys_157 rfl ⟨by decide +kernel, by decide +kernel, by decide +kernel, by decide +kernel, by decide⟩ rfl rfl ?_
  replace hz := kz102 hz
  refine p_putR (k := 2) y4_17 yo_4 yf_1_16 (by decide) hz (by decide) rfl yn_4_0_2 (Or.inl ⟨_, rfl⟩) (fun hz => ?_)
  refine sx_aload_n (i := 0) y4_20 rfl rfl ?_
  refine p_new (nc2 := 7) (ns2 := 5134) y4_21 yo_4 yw_1_9 (by decide) hz (by decide) rfl yg_7 rfl rfl (by decide +kernel) (by decide +kernel) (fun hz => ?_)
  refine sx_dup y4_24 rfl ?_
  refine sx_bipush (v := 16) y4_25 (by decide) ?_
  refine sx_sipush (v := 640) y4_27 (by decide) ?_
  refine p_callI (vs := [.int 16, .int 640]) (nc2 := 12) (ns2 := 10254) y4_30 yo_4 yl_1_13 (by decide) (gML_all 157 (by decide) (by decide) (by decide)) gcw_157 yr_157 (by decide) (kc108 hz) rfl rfl yc_157 ys_157 rfl ⟨by decide +kernel, by decide +kernel, by decide +kernel, by decide +kernel, by decide⟩ rfl rfl ?_
  replace hz := kz108 hz
  refine p_putR (k := 3) y4_33 yo_4 yf_1_20 (by decide) hz (by decide) rfl yn_4_0_3 (Or.inl ⟨_, rfl⟩) (fun hz => ?_)
  refine sx_aload_n (i := 0) y4_36 rfl rfl ?_
  refine p_new (nc2 := 13) (ns2 := 10261) y4_37 yo_4 yw_1_9 (by decide) hz (by decide) rfl yg_7 rfl rfl (by decide +kernel) (by decide +kernel) (fun hz => ?_)
  refine sx_dup y4_40 rfl ?_
  refine sx_bipush (v := 32) y4_41 (by decide) ?_
  refine sx_sipush (v := 1280) y4_43 (by decide) ?_
  refine p_callI (vs := [.int 32, .int 1280]) (nc2 := 18) (ns2 := 15381) y4_46 yo_4 yl_1_13 (by decide) (gML_all 157 (by decide) (by decide) (by decide)) gcw_157 yr_157 (by decide) (kc114 hz) rfl rfl yc_157 ys_157 rfl ⟨by decide +kernel, by decide +kernel, by decide +kernel, by decide +kernel, by decide⟩ rfl rfl ?_
  replace hz := kz114 hz
  refine p_putR (k := 4) y4_49 yo_4 yf_1_23 (by decide) hz (by decide) rfl yn_4_0_4 (Or.inl ⟨_, rfl⟩) (fun hz => ?_)
  refine sx_aload_n (i := 0) y4_52 rfl rfl ?_
  refine p_new (nc2 := 19) (ns2 := 15383) y4_53 yo_4 yw_1_26 (by decide) hz (by decide) rfl yg_1 rfl rfl (by decide +kernel) (by decide +kernel) (fun hz => ?_)
  refine sx_dup y4_56 rfl ?_
  refine sx_bipush (v := 60) y4_57 (by decide) ?_
  refine p_callI (vs := [.int 60]) (nc2 := 20) (ns2 := 16407) y4_59 yo_4 yl_1_28 (by decide) (gML_all 63 (by decide) (by decide) (by decide)) gcw_63 yr_63 (by decide) (kc120 hz) rfl rfl yc_63 ys_63 rfl ⟨by decide +kernel, by decide +kernel, by decide +kernel, by decide +kernel, by decide⟩ rfl rfl ?_
  replace hz := kz120 hz
  refine p_putR (k := 5) y4_62 yo_4 yf_1_31 (by decide) hz (by decide) rfl yn_4_0_5 (Or.inl ⟨_, rfl⟩) (fun hz => ?_)
  refine sx_aload_n (i := 0) y4_65 rfl rfl ?_
  refine p_new (nc2 := 21) (ns2 := 16409) y4_66 yo_4 yw_1_26 (by decide) hz (by decide) rfl yg_1 rfl rfl (by decide +kernel) (by decide +kernel) (fun hz => ?_)
  refine sx_dup y4_69 rfl ?_
  refine sx_bipush (v := 60) y4_70 (by decide) ?_
  refine p_callI (vs := [.int 60]) (nc2 := 22) (ns2 := 17433) y4_72 yo_4 yl_1_28 (by decide) (gML_all 63 (by decide) (by decide) (by decide)) gcw_63 yr_63 (by decide) (kc122 hz) rfl rfl yc_63 ys_63 rfl ⟨by decide +kernel, by decide +kernel, by decide +kernel, by decide +kernel, by decide⟩ rfl rfl ?_
  replace hz := kz122 hz
  refine p_putR (k := 6) y4_75 yo_4 yf_1_35 (by decide) hz (by decide) rfl yn_4_0_6 (Or.inl ⟨_, rfl⟩) (fun hz => ?_)
  refine sx_aload_n (i := 0) y4_78 rfl rfl ?_
  refine sx_bipush (v := 24) y4_79 (by decide) ?_
  refine p_newarr (N := 24) (nc2 := 23) (ns2 := 17457) y4_81 (Or.inl ⟨rfl, rfl⟩) (by decide) (by decide) (by decide) hz (by decide) rfl rfl rfl (by decide +kernel) (by decide +kernel) (fun hz => ?_)
  refine p_putR (k := 7) y4_83 yo_4 yf_1_38 (by decide) hz (by decide) rfl yn_4_0_7 (Or.inr ⟨_, rfl⟩) (fun hz => ?_)
  refine sx_aload_n (i := 0) y4_86 rfl rfl ?_
  refine sx_bipush (v := 78) y4_87 (by decide) ?_
  refine p_newarr (N := 78) (nc2 := 24) (ns2 := 17535) y4_89 (Or.inl ⟨rfl, rfl⟩) (by decide) (by decide) (by decide) hz (by decide) rfl rfl rfl (by decide +kernel) (by decide +kernel) (fun hz => ?_)
  refine p_putR (k := 8) y4_91 yo_4 yf_1_42 (by decide) hz (by decide) rfl yn_4_0_8 (Or.inr ⟨_, rfl⟩) (fun hz => ?_)
  refine sx_aload_n (i := 0) y4_94 rfl rfl ?_
  refine sx_bipush (v := 48) y4_95 (by decide) ?_
  refine p_newarr (N := 48) (nc2 := 25) (ns2 := 17583) y4_97 (Or.inl ⟨rfl, rfl⟩) (by decide) (by decide) (by decide) hz (by decide) rfl rfl rfl (by decide +kernel) (by decide +kernel) (fun hz => ?_)
  refine p_putR (k := 9) y4_99 yo_4 yf_1_45 (by decide) hz (by decide) rfl yn_4_0_9 (Or.inr ⟨_, rfl⟩) (fun hz => ?_)
  refine sx_aload_n (i := 0) y4_102 rfl rfl ?_
  refine p_new (nc2 := 26) (ns2 := 17585) y4_103 yo_4 yw_1_26 (by decide) hz (by decide) rfl yg_1 rfl rfl (by decide +kernel) (by decide +kernel) (fun hz => ?_)
  refine sx_dup y4_106 rfl ?_
  refine sx_sipush (v := 1024) y4_107 (by decide) ?_
  refine p_callI (vs := [.int 1024]) (nc2 := 27) (ns2 := 18609) y4_110 yo_4 yl_1_28 (by decide) (gML_all 63 (by decide) (by decide) (by decide)) gcw_63 yr_63 (by decide) (kc127 hz) rfl rfl yc_63 ys_63 rfl ⟨by decide +kernel, by decide +kernel, by decide +kernel, by decide +kernel, by decide⟩ rfl rfl ?_
  replace hz := kz127 hz
  refine p_putR (k := 10) y4_113 yo_4 yf_1_48 (by decide) hz (by decide) rfl yn_4_0_10 (Or.inl ⟨_, rfl⟩) (fun hz => ?_)
  refine sx_aload_n (i := 0) y4_116 rfl rfl ?_
  refine sx_aload_n (i := 1) y4_117 rfl rfl ?_
  refine p_putR (k := 0) y4_118 yo_4 yf_1_51 (by decide) hz (by decide) rfl yn_4_0_0 (Or.inl ⟨_, rfl⟩) (fun hz => ?_)
  refine sx_aload_n (i := 0) y4_121 rfl rfl ?_
  refine sx_aload_n (i := 2) y4_122 rfl rfl ?_
  refine p_putR (k := 1) y4_123 yo_4 yf_1_55 (by decide) hz (by decide) rfl yn_4_0_1 (Or.inl ⟨_, rfl⟩) (fun hz => ?_)
  refine sx_aload_n (i := 0) y4_126 rfl rfl ?_
  refine p_getR (k := 10) (b := 127) y4_127 yo_4 yf_1_48 (by decide) (by decide) rfl (Or.inl ⟨_, rfl⟩) rfl ?_
  refine sx_iconst (v := 0) y4_130 (by decide) ?_
  refine sx_sipush (v := 1024) y4_131 (by decide) ?_
  refine p_callV (vs := [.int 0, .int 1024]) (nc2 := 27) (ns2 := 18609) y4_134 yo_4 yl_1_59 (by decide) (gML_all 69 (by decide) (by decide) (by decide)) gcw_69 (by decide) rfl (many_p hz rfl (congrFun (hz0 127 (by decide) (by decide)).1 1)) rfl rfl yc_69 ys_69 rfl ⟨by decide +kernel, by decide +kernel, by decide +kernel, by decide +kernel, by decide⟩ rfl rfl ?_
  replace hz := zoM_Z hz 1024
  exact p_ret y4_137 yr_4 (by decide +kernel) (by decide +kernel)
def kr0 (R : Rf) : Rf := (wr (kr101 (wr (kr57 (wr (kr49 (wr (kr28 (wr (kr12 (wr (kr9 (wr (kr7 (wr (kr5 (wr (kr3 (wr (kr1 R) 0 0 1)) 0 1 3)) 0 2 5)) 0 3 7)) 0 4 9)) 0 5 12)) 0 6 28)) 0 7 49)) 0 8 57)) 0 9 101)
def ku0 (μ : Mem) : Mem := (ku101 (ku49 (ku28 (nzM (ku12 (ku9 (ku7 (ku5 μ)))) 64))))
theorem kz0 {R : Rf} {μ : Mem} (hz : Zr 1 R μ) : Zr 129 (kr0 R) (ku0 μ) := (Zr.wr (kz101 (Zr.up (m := 102) (Zr.wr (kz57 (Zr.up (m := 58) (Zr.wr (kz49 (Zr.up (m := 50) (Zr.wr (kz28 (Zr.up (m := 29) (nzM_Z ((Zr.wr (kz12 (Zr.up (m := 13) (Zr.wr (kz9 (Zr.up (m := 10) (Zr.wr (kz7 (Zr.up (m := 8) (Zr.wr (kz5 (Zr.up (m := 6) (Zr.wr (kz3 (Zr.up (m := 4) (Zr.wr (kz1 (Zr.up (m := 2) hz (by decide))) (by decide)) (by decide))) (by decide)) (by decide))) (by decide)) (by decide))) (by decide)) (by decide))) (by decide)) (by decide))) (by decide)).up (by decide)) 64) (by decide))) (by decide)) (by decide))) (by decide)) (by decide))) (by decide)) (by decide))) (by decide))
theorem kb0 {R : Rf} (h : Bd R) : Bd (kr0 R) := (Bd.wr (kb101 (Bd.wr (kb57 (Bd.wr (kb49 (Bd.wr (kb28 (Bd.wr (kb12 (Bd.wr (kb9 (Bd.wr (kb7 (Bd.wr (kb5 (Bd.wr (kb3 (Bd.wr (kb1 h) (by decide))) (by decide))) (by decide))) (by decide))) (by decide))) (by decide))) (by decide))) (by decide))) (by decide))) (by decide))
theorem kc0 {L : Nat} {R : Rf} {μ : Mem} (hz : Zr 1 R μ) : Mx 196 [.ref 0] (pm L 1 R μ) (pm L 129 (kr0 R) (ku0 μ), none) := by
  refine Mx_of (gML_all 196 (by decide) (by decide) (by decide)) (by decide +kernel) ?_
  show Sx 196 0 [(0, .ref 0)] [] 0 0 (pm L 1 R μ) _
  unfold kr0 ku0
  have hz0 := hz
  refine sx_aload_n (i := 0) y196_0 rfl rfl ?_
  refine p_obj y196_1 yo_196 yj_11_1 (by decide) (by decide +kernel) (by decide +kernel) ?_
  refine sx_aload_n (i := 0) y196_4 rfl rfl ?_
  refine p_new (nc2 := 1) (ns2 := 2) y196_5 yo_196 yw_11_7 (by decide) hz (by decide) rfl yg_1 rfl rfl (by decide +kernel) (by decide +kernel) (fun hz => ?_)
  refine sx_dup y196_8 rfl ?_
  refine sx_sipush (v := 256) y196_9 (by decide) ?_
  refine p_callI (vs := [.int 256]) (nc2 := 2) (ns2 := 1026) y196_12 yo_196 yl_11_9 (by decide) (gML_all 63 (by decide) (by decide) (by decide)) gcw_63 yr_63 (by decide) (kc1 hz) rfl rfl yc_63 ys_63 rfl ⟨by decide +kernel, by decide +kernel, by decide +kernel, by decide +kernel, by decide⟩ rfl rfl ?_
  replace hz := kz1 hz
  refine p_putR (k := 0) y196_15 yo_196 yf_11_12 (by decide) hz (by decide) rfl yn_196_10_0 (Or.inl ⟨_, rfl⟩) (fun hz => ?_)
  refine sx_aload_n (i := 0) y196_18 rfl rfl ?_
  refine p_new (nc2 := 3) (ns2 := 1028) y196_19 yo_196 yw_11_7 (by decide) hz (by decide) rfl yg_1 rfl rfl (by decide +kernel) (by decide +kernel) (fun hz => ?_)
  refine sx_dup y196_22 rfl ?_
  refine sx_sipush (v := 138) y196_23 (by decide) ?_
  refine p_callI (vs := [.int 138]) (nc2 := 4) (ns2 := 2052) y196_26 yo_196 yl_11_9 (by decide) (gML_all 63 (by decide) (by decide) (by decide)) gcw_63 yr_63 (by decide) (kc3 hz) rfl rfl yc_63 ys_63 rfl ⟨by decide +kernel, by decide +kernel, by decide +kernel, by decide +kernel, by decide⟩ rfl rfl ?_
  replace hz := kz3 hz
  refine p_putR (k := 1) y196_29 yo_196 yf_11_20 (by decide) hz (by decide) rfl yn_196_10_1 (Or.inl ⟨_, rfl⟩) (fun hz => ?_)
  refine sx_aload_n (i := 0) y196_32 rfl rfl ?_
  refine p_new (nc2 := 5) (ns2 := 2055) y196_33 yo_196 yw_11_23 (by decide) hz (by decide) rfl yg_4 rfl rfl (by decide +kernel) (by decide +kernel) (fun hz => ?_)
  refine sx_dup y196_36 rfl ?_
  refine sx_sipush (v := 32000) y196_37 (by decide) ?_
  refine p_callI (vs := [.int 32000]) (nc2 := 6) (ns2 := 4057) y196_40 yo_196 yl_11_25 (by decide) (gML_all 107 (by decide) (by decide) (by decide)) gcw_107 yr_107 (by decide) (kc5 hz) rfl rfl yc_107 ys_107 rfl ⟨by decide +kernel, by decide +kernel, by decide +kernel, by decide +kernel, by decide⟩ rfl rfl ?_
  replace hz := kz5 hz
  refine p_putR (k := 2) y196_43 yo_196 yf_11_26 (by decide) hz (by decide) rfl yn_196_10_2 (Or.inl ⟨_, rfl⟩) (fun hz => ?_)
  refine sx_aload_n (i := 0) y196_46 rfl rfl ?_
  refine p_new (nc2 := 7) (ns2 := 4060) y196_47 yo_196 yw_11_23 (by decide) hz (by decide) rfl yg_4 rfl rfl (by decide +kernel) (by decide +kernel) (fun hz => ?_)
  refine sx_dup y196_50 rfl ?_
  refine sx_ldc (v := 64000) y196_51 yk_196_30 (by decide) ?_
  refine p_callI (vs := [.int 64000]) (nc2 := 8) (ns2 := 6062) y196_53 yo_196 yl_11_25 (by decide) (gML_all 107 (by decide) (by decide) (by decide)) gcw_107 yr_107 (by decide) (kc7 hz) rfl rfl yc_107 ys_107 rfl ⟨by decide +kernel, by decide +kernel, by decide +kernel, by decide +kernel, by decide⟩ rfl rfl ?_
  replace hz := kz7 hz
  refine p_putR (k := 3) y196_56 yo_196 yf_11_31 (by decide) hz (by decide) rfl yn_196_10_3 (Or.inl ⟨_, rfl⟩) (fun hz => ?_)
  refine sx_aload_n (i := 0) y196_59 rfl rfl ?_
  refine p_new (nc2 := 9) (ns2 := 6079) y196_60 yo_196 yw_11_34 (by decide) hz (by decide) rfl yg_9 rfl rfl (by decide +kernel) (by decide +kernel) (fun hz => ?_)
  refine sx_dup y196_63 rfl ?_
  refine p_callN (vs := []) (nc2 := 11) (ns2 := 7105) y196_64 yo_196 yl_11_36 ye_11_36 (by decide) (gML_all 180 (by decide) (by decide) (by decide)) gcw_180 yr_180 (by decide) (kc9 hz) rfl rfl yc_180 ys_180 rfl ⟨by decide +kernel, by decide +kernel, by decide +kernel, by decide +kernel, by decide⟩ rfl rfl ?_
  replace hz := kz9 hz
  refine p_putR (k := 4) y196_67 yo_196 yf_11_37 (by decide) hz (by decide) rfl yn_196_10_4 (Or.inl ⟨_, rfl⟩) (fun hz => ?_)
  refine sx_aload_n (i := 0) y196_70 rfl rfl ?_
  refine p_new (nc2 := 12) (ns2 := 7118) y196_71 yo_196 yw_11_41 (by decide) hz (by decide) rfl yg_2 rfl rfl (by decide +kernel) (by decide +kernel) (fun hz => ?_)
  refine sx_dup y196_74 rfl ?_
  refine p_callN (vs := []) (nc2 := 26) (ns2 := 13535) y196_75 yo_196 yl_11_43 ye_11_43 (by decide) (gML_all 79 (by decide) (by decide) (by decide)) gcw_79 yr_79 (by decide) (kc12 hz) rfl rfl yc_79 ys_79 rfl ⟨by decide +kernel, by decide +kernel, by decide +kernel, by decide +kernel, by decide⟩ rfl rfl ?_
  replace hz := kz12 hz
  refine p_putR (k := 5) y196_78 yo_196 yf_11_44 (by decide) hz (by decide) rfl yn_196_10_5 (Or.inl ⟨_, rfl⟩) (fun hz => ?_)
  refine p_callS (vs := []) (nc2 := 27) (ns2 := 13599) y196_81 yo_196 yl_11_48 (by decide) (gML_all 0 (by decide) (by decide) (by decide)) gcw_0 (noise_p hz) rfl rfl yc_0 ys_0 rfl ⟨by decide +kernel, by decide +kernel, by decide +kernel, by decide +kernel, by decide⟩ rfl rfl ?_
  replace hz := nzM_Z (hz.up (by decide)) 64
  refine y_astore_n (lo2 := [(1, .ref 27), (0, .ref 0)]) y196_84 rfl (by decide +kernel) rfl ?_
  refine sx_aload_n (i := 0) y196_85 rfl rfl ?_
  refine p_new (nc2 := 28) (ns2 := 13618) y196_86 yo_196 yw_11_52 (by decide) hz (by decide) rfl yg_6 rfl rfl (by decide +kernel) (by decide +kernel) (fun hz => ?_)
  refine sx_dup y196_89 rfl ?_
  refine sx_aload_n (i := 0) y196_90 rfl rfl ?_
  refine p_getR (k := 2) (b := 5) y196_91 yo_196 yf_11_26 (by decide) (by decide) rfl (Or.inl ⟨_, rfl⟩) rfl ?_
  refine sx_aload_n (i := 0) y196_94 rfl rfl ?_
  refine p_getR (k := 5) (b := 12) y196_95 yo_196 yf_11_44 (by decide) (by decide) rfl (Or.inl ⟨_, rfl⟩) rfl ?_
  refine p_callI (vs := [.ref 5, .ref 12]) (nc2 := 48) (ns2 := 27976) y196_98 yo_196 yl_11_54 (by decide) (gML_all 128 (by decide) (by decide) (by decide)) gcw_128 yr_128 (by decide) (kc28 hz) rfl rfl yc_128 ys_128 rfl ⟨by decide +kernel, by decide +kernel, by decide +kernel, by decide +kernel, by decide⟩ rfl rfl ?_
  replace hz := kz28 hz
  refine p_putR (k := 6) y196_101 yo_196 yf_11_57 (by decide) hz (by decide) rfl yn_196_10_6 (Or.inl ⟨_, rfl⟩) (fun hz => ?_)
  refine sx_aload_n (i := 0) y196_104 rfl rfl ?_
  refine p_new (nc2 := 49) (ns2 := 27995) y196_105 yo_196 yw_11_61 (by decide) hz (by decide) rfl yg_3 rfl rfl (by decide +kernel) (by decide +kernel) (fun hz => ?_)
  refine sx_dup y196_108 rfl ?_
  refine sx_aload_n (i := 0) y196_109 rfl rfl ?_
  refine p_getR (k := 5) (b := 12) y196_110 yo_196 yf_11_44 (by decide) (by decide) rfl (Or.inl ⟨_, rfl⟩) rfl ?_
  refine sx_aload_n (i := 1) y196_113 rfl rfl ?_
  refine p_callI (vs := [.ref 12, .ref 27]) (nc2 := 56) (ns2 := 31075) y196_114 yo_196 yl_11_63 (by decide) (gML_all 95 (by decide) (by decide) (by decide)) gcw_95 yr_95 (by decide) (kc49 hz) rfl rfl yc_95 ys_95 rfl ⟨by decide +kernel, by decide +kernel, by decide +kernel, by decide +kernel, by decide⟩ rfl rfl ?_
  replace hz := kz49 hz
  refine p_putR (k := 7) y196_117 yo_196 yf_11_66 (by decide) hz (by decide) rfl yn_196_10_7 (Or.inl ⟨_, rfl⟩) (fun hz => ?_)
  refine sx_aload_n (i := 0) y196_120 rfl rfl ?_
  refine p_new (nc2 := 57) (ns2 := 31093) y196_121 yo_196 yw_11_70 (by decide) hz (by decide) rfl yg_5 rfl rfl (by decide +kernel) (by decide +kernel) (fun hz => ?_)
  refine sx_dup y196_124 rfl ?_
  refine sx_aload_n (i := 0) y196_125 rfl rfl ?_
  refine p_getR (k := 3) (b := 7) y196_126 yo_196 yf_11_31 (by decide) (by decide) rfl (Or.inl ⟨_, rfl⟩) rfl ?_
  refine sx_aload_n (i := 1) y196_129 rfl rfl ?_
  refine p_callI (vs := [.ref 7, .ref 27]) (nc2 := 100) (ns2 := 56771) y196_130 yo_196 yl_11_72 (by decide) (gML_all 116 (by decide) (by decide) (by decide)) gcw_116 yr_116 (by decide) (kc57 hz) rfl rfl yc_116 ys_116 rfl ⟨by decide +kernel, by decide +kernel, by decide +kernel, by decide +kernel, by decide⟩ rfl rfl ?_
  replace hz := kz57 hz
  refine p_putR (k := 8) y196_133 yo_196 yf_11_75 (by decide) hz (by decide) rfl yn_196_10_8 (Or.inl ⟨_, rfl⟩) (fun hz => ?_)
  refine sx_aload_n (i := 0) y196_136 rfl rfl ?_
  refine p_new (nc2 := 101) (ns2 := 56785) y196_137 yo_196 yw_11_79 (by decide) hz (by decide) rfl yg_0 rfl rfl (by decide +kernel) (by decide +kernel) (fun hz => ?_)
  refine sx_dup y196_140 rfl ?_
  refine sx_aload_n (i := 0) y196_141 rfl rfl ?_
  refine p_getR (k := 8) (b := 57) y196_142 yo_196 yf_11_75 (by decide) (by decide) rfl (Or.inl ⟨_, rfl⟩) rfl ?_
  refine sx_aload_n (i := 0) y196_145 rfl rfl ?_
  refine p_getR (k := 4) (b := 9) y196_146 yo_196 yf_11_37 (by decide) (by decide) rfl (Or.inl ⟨_, rfl⟩) rfl ?_
  refine p_callI (vs := [.ref 57, .ref 9]) (nc2 := 128) (ns2 := 75394) y196_149 yo_196 yl_11_81 (by decide) (gML_all 4 (by decide) (by decide) (by decide)) gcw_4 yr_4 (by decide) (kc101 hz) rfl rfl yc_4 ys_4 rfl ⟨by decide +kernel, by decide +kernel, by decide +kernel, by decide +kernel, by decide⟩ rfl rfl ?_
  replace hz := kz101 hz
  refine p_putR (k := 9) y196_152 yo_196 yf_11_84 (by decide) hz (by decide) rfl yn_196_10_9 (Or.inl ⟨_, rfl⟩) (fun hz => ?_)
  exact p_ret y196_155 yr_196 (by decide +kernel) (by decide +kernel)
def kr129 (R : Rf) : Rf := (wr (wr (wr (wr (wr (wr (wr (wr (wr (wr (wr (wr (wr (wr (wr (wr (wr (wr (wr (wr (wr (wr (wr (wr (wr (wr (wr (wr (wr (wr (wr (wr (wr (wr (wr (wr (wr (wr (wr (wr (wr (wr (wr (wr (wr (wr (wr (wr (wr (wr (wr (wr (wr (wr (wr (wr (wr (wr (wr (wr (wr (wr (wr (wr (wr (wr (wr (wr (wr (wr (wr (wr (wr (wr (wr (wr (wr (wr (wr (wr (wr (wr (wr (wr (wr (wr (wr (wr (wr (wr (wr R 129 0 130) 129 2 131) 129 3 132) 129 4 133) 129 5 134) 129 6 135) 129 7 136) 129 8 137) 129 12 138) 129 15 139) 129 26 140) 129 39 141) 129 40 142) 129 42 143) 129 44 144) 129 45 145) 129 46 146) 129 47 147) 129 50 148) 129 51 149) 129 52 150) 129 53 151) 129 54 152) 129 55 153) 129 56 154) 129 57 155) 129 59 156) 129 66 157) 129 73 158) 129 74 159) 129 75 160) 129 76 161) 129 78 162) 129 79 163) 129 82 164) 129 84 165) 129 85 166) 129 88 167) 129 89 168) 129 91 169) 129 92 170) 129 93 171) 129 94 172) 129 95 173) 129 96 174) 129 97 175) 129 98 176) 129 99 177) 129 100 178) 129 101 179) 129 102 180) 129 103 181) 129 105 182) 129 108 183) 129 109 184) 129 110 185) 129 111 186) 129 112 187) 129 113 188) 129 114 189) 129 115 190) 129 116 191) 129 117 192) 129 118 193) 129 119 194) 129 120 195) 129 121 196) 129 122 197) 129 123 198) 129 124 199) 129 125 200) 129 126 201) 129 127 202) 129 129 203) 129 131 204) 129 132 205) 129 133 206) 129 134 207) 129 135 208) 129 136 209) 129 137 210) 129 138 211) 129 140 212) 129 142 213) 129 143 214) 129 148 215) 129 149 216) 129 150 217) 129 151 218) 129 152 219) 129 153 220)
def ku129 (μ : Mem) : Mem := (mnM (setI (setI (setI (setI (setI (setI (setI (setI (setI (setI (setI (setI (setI (setI (setI μ 129 24 16) 129 28 6) 129 31 1) 129 32 3) 129 33 8) 129 35 20) 129 71 (-2)) 129 72 (-2)) 159 0 (-2)) 159 1 (-2)) 214 0 26) 214 1 207) 214 2 252) 214 3 29) 129 146 (-2)) 512)
theorem kz129 {R : Rf} {μ : Mem} (hz : Zr 130 R μ) : Zr 222 (kr129 R) (ku129 μ) := (mnM_Z ((Zr.wr (Zr.up (m := 221) (Zr.wr (Zr.up (m := 220) (Zr.wr (Zr.up (m := 219) (Zr.wr (Zr.up (m := 218) (Zr.wr (Zr.up (m := 217) (Zr.wr (Zr.up (m := 216) (Zr.sI (Zr.wr (Zr.sI (Zr.sI (Zr.sI (Zr.sI (Zr.up (m := 215) (Zr.wr (Zr.up (m := 214) (Zr.wr (Zr.up (m := 213) (Zr.wr (Zr.up (m := 212) (Zr.wr (Zr.up (m := 211) (Zr.wr (Zr.up (m := 210) (Zr.wr (Zr.up (m := 209) (Zr.wr (Zr.up (m := 208) (Zr.wr (Zr.up (m := 207) (Zr.wr (Zr.up (m := 206) (Zr.wr (Zr.up (m := 205) (Zr.wr (Zr.up (m := 204) (Zr.wr (Zr.up (m := 203) (Zr.wr (Zr.up (m := 202) (Zr.wr (Zr.up (m := 201) (Zr.wr (Zr.up (m := 200) (Zr.wr (Zr.up (m := 199) (Zr.wr (Zr.up (m := 198) (Zr.wr (Zr.up (m := 197) (Zr.wr (Zr.up (m := 196) (Zr.wr (Zr.up (m := 195) (Zr.wr (Zr.up (m := 194) (Zr.wr (Zr.up (m := 193) (Zr.wr (Zr.up (m := 192) (Zr.wr (Zr.up (m := 191) (Zr.wr (Zr.up (m := 190) (Zr.wr (Zr.up (m := 189) (Zr.wr (Zr.up (m := 188) (Zr.wr (Zr.up (m := 187) (Zr.wr (Zr.up (m := 186) (Zr.wr (Zr.up (m := 185) (Zr.wr (Zr.up (m := 184) (Zr.wr (Zr.up (m := 183) (Zr.wr (Zr.up (m := 182) (Zr.wr (Zr.up (m := 181) (Zr.wr (Zr.up (m := 180) (Zr.wr (Zr.up (m := 179) (Zr.wr (Zr.up (m := 178) (Zr.wr (Zr.up (m := 177) (Zr.wr (Zr.up (m := 176) (Zr.wr (Zr.up (m := 175) (Zr.wr (Zr.up (m := 174) (Zr.wr (Zr.up (m := 173) (Zr.wr (Zr.up (m := 172) (Zr.wr (Zr.up (m := 171) (Zr.wr (Zr.up (m := 170) (Zr.wr (Zr.up (m := 169) (Zr.wr (Zr.up (m := 168) (Zr.wr (Zr.up (m := 167) (Zr.wr (Zr.up (m := 166) (Zr.wr (Zr.up (m := 165) (Zr.wr (Zr.up (m := 164) (Zr.wr (Zr.up (m := 163) (Zr.wr (Zr.up (m := 162) (Zr.wr (Zr.up (m := 161) (Zr.wr (Zr.sI (Zr.sI (Zr.up (m := 160) (Zr.wr (Zr.up (m := 159) (Zr.sI (Zr.sI (Zr.wr (Zr.up (m := 158) (Zr.wr (Zr.up (m := 157) (Zr.wr (Zr.up (m := 156) (Zr.wr (Zr.up (m := 155) (Zr.wr (Zr.up (m := 154) (Zr.wr (Zr.up (m := 153) (Zr.wr (Zr.up (m := 152) (Zr.wr (Zr.up (m := 151) (Zr.wr (Zr.up (m := 150) (Zr.wr (Zr.up (m := 149) (Zr.wr (Zr.up (m := 148) (Zr.wr (Zr.up (m := 147) (Zr.wr (Zr.up (m := 146) (Zr.wr (Zr.up (m := 145) (Zr.wr (Zr.up (m := 144) (Zr.wr (Zr.up (m := 143) (Zr.wr (Zr.up (m := 142) (Zr.sI (Zr.sI (Zr.sI (Zr.sI (Zr.sI (Zr.wr (Zr.up (m := 141) (Zr.sI (Zr.wr (Zr.up (m := 140) (Zr.wr (Zr.up (m := 139) (Zr.wr (Zr.up (m := 138) (Zr.wr (Zr.up (m := 137) (Zr.wr (Zr.up (m := 136) (Zr.wr (Zr.up (m := 135) (Zr.wr (Zr.up (m := 134) (Zr.wr (Zr.up (m := 133) (Zr.wr (Zr.up (m := 132) (Zr.wr (Zr.up (m := 131) hz (by decide)) (by decide)) (by decide)) (by decide)) (by decide)) (by decide)) (by decide)) (by decide)) (by decide)) (by decide)) (by decide)) (by decide)) (by decide)) (by decide)) (by decide)) (by decide)) (by decide)) (by decide)) (by decide)) (by decide)) (by decide)) (by decide)) (by decide)) (by decide)) (by decide)) (by decide)) (by decide)) (by decide)) (by decide)) (by decide)) (by decide)) (by decide)) (by decide)) (by decide)) (by decide)) (by decide)) (by decide)) (by decide)) (by decide)) (by decide)) (by decide)) (by decide)) (by decide)) (by decide)) (by decide)) (by decide)) (by decide)) (by decide)) (by decide)) (by decide)) (by decide)) (by decide)) (by decide)) (by decide)) (by decide)) (by decide)) (by decide)) (by decide)) (by decide)) (by decide)) (by decide)) (by decide)) (by decide)) (by decide)) (by decide)) (by decide)) (by decide)) (by decide)) (by decide)) (by decide)) (by decide)) (by decide)) (by decide)) (by decide)) (by decide)) (by decide)) (by decide)) (by decide)) (by decide)) (by decide)) (by decide)) (by decide)) (by decide)) (by decide)) (by decide)) (by decide)) (by decide)) (by decide)) (by decide)) (by decide)) (by decide)) (by decide)) (by decide)) (by decide)) (by decide)) (by decide)) (by decide)) (by decide)) (by decide)) (by decide)) (by decide)) (by decide)) (by decide)) (by decide)) (by decide)) (by decide)) (by decide)) (by decide)) (by decide)) (by decide)) (by decide)) (by decide)) (by decide)) (by decide)) (by decide)) (by decide)) (by decide)) (by decide)) (by decide)) (by decide)) (by decide)) (by decide)) (by decide)) (by decide)) (by decide)) (by decide)) (by decide)) (by decide)) (by decide)) (by decide)) (by decide)) (by decide)) (by decide)) (by decide)) (by decide)) (by decide)) (by decide)) (by decide)) (by decide)) (by decide)) (by decide)) (by decide)) (by decide)) (by decide)) (by decide)) (by decide)) (by decide)) (by decide)) (by decide)) (by decide)) (by decide)) (by decide)) (by decide)) (by decide)) (by decide)) (by decide)) (by decide)) (by decide)) (by decide)) (by decide)) (by decide)) (by decide)) (by decide)) (by decide)) (by decide)) (by decide)) (by decide)) (by decide)) (by decide)) (by decide)) (by decide)) (by decide)) (by decide)) (by decide)) (by decide)) (by decide)) (by decide)) (by decide)) (by decide)) (by decide)) (by decide)) (by decide)) (by decide)) (by decide)) (by decide)) (by decide)) (by decide)) (by decide)) (by decide)) (by decide)) (by decide)) (by decide)) (by decide)) (by decide)) (by decide)) (by decide)) (by decide)).up (by decide)) 512)
theorem kb129 {R : Rf} (h : Bd R) : Bd (kr129 R) := (Bd.wr (Bd.wr (Bd.wr (Bd.wr (Bd.wr (Bd.wr (Bd.wr (Bd.wr (Bd.wr (Bd.wr (Bd.wr (Bd.wr (Bd.wr (Bd.wr (Bd.wr (Bd.wr (Bd.wr (Bd.wr (Bd.wr (Bd.wr (Bd.wr (Bd.wr (Bd.wr (Bd.wr (Bd.wr (Bd.wr (Bd.wr (Bd.wr (Bd.wr (Bd.wr (Bd.wr (Bd.wr (Bd.wr (Bd.wr (Bd.wr (Bd.wr (Bd.wr (Bd.wr (Bd.wr (Bd.wr (Bd.wr (Bd.wr (Bd.wr (Bd.wr (Bd.wr (Bd.wr (Bd.wr (Bd.wr (Bd.wr (Bd.wr (Bd.wr (Bd.wr (Bd.wr (Bd.wr (Bd.wr (Bd.wr (Bd.wr (Bd.wr (Bd.wr (Bd.wr (Bd.wr (Bd.wr (Bd.wr (Bd.wr (Bd.wr (Bd.wr (Bd.wr (Bd.wr (Bd.wr (Bd.wr (Bd.wr (Bd.wr (Bd.wr (Bd.wr (Bd.wr (Bd.wr (Bd.wr (Bd.wr (Bd.wr (Bd.wr (Bd.wr (Bd.wr (Bd.wr (Bd.wr (Bd.wr (Bd.wr (Bd.wr (Bd.wr (Bd.wr (Bd.wr (Bd.wr h (by decide)) (by decide)) (by decide)) (by decide)) (by decide)) (by decide)) (by decide)) (by decide)) (by decide)) (by decide)) (by decide)) (by decide)) (by decide)) (by decide)) (by decide)) (by decide)) (by decide)) (by decide)) (by decide)) (by decide)) (by decide)) (by decide)) (by decide)) (by decide)) (by decide)) (by decide)) (by decide)) (by decide)) (by decide)) (by decide)) (by decide)) (by decide)) (by decide)) (by decide)) (by decide)) (by decide)) (by decide)) (by decide)) (by decide)) (by decide)) (by decide)) (by decide)) (by decide)) (by decide)) (by decide)) (by decide)) (by decide)) (by decide)) (by decide)) (by decide)) (by decide)) (by decide)) (by decide)) (by decide)) (by decide)) (by decide)) (by decide)) (by decide)) (by decide)) (by decide)) (by decide)) (by decide)) (by decide)) (by decide)) (by decide)) (by decide)) (by decide)) (by decide)) (by decide)) (by decide)) (by decide)) (by decide)) (by decide)) (by decide)) (by decide)) (by decide)) (by decide)) (by decide)) (by decide)) (by decide)) (by decide)) (by decide)) (by decide)) (by decide)) (by decide)) (by decide)) (by decide)) (by decide)) (by decide)) (by decide)) (by decide))
theorem kc129 {L : Nat} {R : Rf} {μ : Mem} (hz : Zr 130 R μ) : Mx 362 [.ref 129] (pm L 130 R μ) (pm L 222 (kr129 R) (ku129 μ), none) := by
  refine Mx_of (gML_all 362 (by decide) (by decide) (by decide)) (by decide +kernel) ?_
  show Sx 362 0 [(0, .ref 129)] [] 0 0 (pm L 130 R μ) _
  unfold kr129 ku129
  have hz0 := hz
  refine sx_aload_n (i := 0) y362_0 rfl rfl ?_
  refine p_obj y362_1 yo_362 yj_12_760 (by decide) (by decide +kernel) (by decide +kernel) ?_
  refine sx_aload_n (i := 0) y362_4 rfl rfl ?_
  refine sx_sipush (v := 256) y362_5 (by decide) ?_
  refine p_newarr (N := 256) (nc2 := 1) (ns2 := 256) y362_8 (Or.inl ⟨rfl, rfl⟩) (by decide) (by decide) (by decide) hz (by decide) rfl rfl rfl (by decide +kernel) (by decide +kernel) (fun hz => ?_)
  refine p_putR (k := 0) y362_10 yo_362 yf_12_7 (by decide) hz (by decide) rfl yn_362_11_0 (Or.inr ⟨_, rfl⟩) (fun hz => ?_)
  refine sx_aload_n (i := 0) y362_13 rfl rfl ?_
  refine sx_sipush (v := 160) y362_14 (by decide) ?_
  refine p_newarr (N := 160) (nc2 := 2) (ns2 := 416) y362_17 (Or.inl ⟨rfl, rfl⟩) (by decide) (by decide) (by decide) hz (by decide) rfl rfl rfl (by decide +kernel) (by decide +kernel) (fun hz => ?_)
  refine p_putR (k := 2) y362_19 yo_362 yf_12_27 (by decide) hz (by decide) rfl yn_362_11_2 (Or.inr ⟨_, rfl⟩) (fun hz => ?_)
  refine sx_aload_n (i := 0) y362_22 rfl rfl ?_
  refine sx_sipush (v := 128) y362_23 (by decide) ?_
  refine p_newarr (N := 128) (nc2 := 3) (ns2 := 544) y362_26 (Or.inl ⟨rfl, rfl⟩) (by decide) (by decide) (by decide) hz (by decide) rfl rfl rfl (by decide +kernel) (by decide +kernel) (fun hz => ?_)
  refine p_putR (k := 3) y362_28 yo_362 yf_12_24 (by decide) hz (by decide) rfl yn_362_11_3 (Or.inr ⟨_, rfl⟩) (fun hz => ?_)
  refine sx_aload_n (i := 0) y362_31 rfl rfl ?_
  refine sx_sipush (v := 200) y362_32 (by decide) ?_
  refine p_newarr (N := 200) (nc2 := 4) (ns2 := 744) y362_35 (Or.inl ⟨rfl, rfl⟩) (by decide) (by decide) (by decide) hz (by decide) rfl rfl rfl (by decide +kernel) (by decide +kernel) (fun hz => ?_)
  refine p_putR (k := 4) y362_37 yo_362 yf_12_40 (by decide) hz (by decide) rfl yn_362_11_4 (Or.inr ⟨_, rfl⟩) (fun hz => ?_)
  refine sx_aload_n (i := 0) y362_40 rfl rfl ?_
  refine sx_sipush (v := 32000) y362_41 (by decide) ?_
  refine p_newarr (N := 32000) (nc2 := 5) (ns2 := 32744) y362_44 (Or.inr (Or.inr ⟨rfl, rfl⟩)) (by decide) (by decide) (by decide) hz (by decide) rfl rfl rfl (by decide +kernel) (by decide +kernel) (fun hz => ?_)
  refine p_putR (k := 5) y362_46 yo_362 yf_12_46 (by decide) hz (by decide) rfl yn_362_11_5 (Or.inr ⟨_, rfl⟩) (fun hz => ?_)
  refine sx_aload_n (i := 0) y362_49 rfl rfl ?_
  refine sx_ldc (v := 64000) y362_50 yk_362_53 (by decide) ?_
  refine p_newarr (N := 64000) (nc2 := 6) (ns2 := 96744) y362_52 (Or.inr (Or.inr ⟨rfl, rfl⟩)) (by decide) (by decide) (by decide) hz (by decide) rfl rfl rfl (by decide +kernel) (by decide +kernel) (fun hz => ?_)
  refine p_putR (k := 6) y362_54 yo_362 yf_12_50 (by decide) hz (by decide) rfl yn_362_11_6 (Or.inr ⟨_, rfl⟩) (fun hz => ?_)
  refine sx_aload_n (i := 0) y362_57 rfl rfl ?_
  refine sx_iconst (v := 2) y362_58 (by decide) ?_
  refine p_newarr (N := 2) (nc2 := 7) (ns2 := 96746) y362_59 (Or.inl ⟨rfl, rfl⟩) (by decide) (by decide) (by decide) hz (by decide) rfl rfl rfl (by decide +kernel) (by decide +kernel) (fun hz => ?_)
  refine p_putR (k := 7) y362_61 yo_362 yf_12_54 (by decide) hz (by decide) rfl yn_362_11_7 (Or.inr ⟨_, rfl⟩) (fun hz => ?_)
  refine sx_aload_n (i := 0) y362_64 rfl rfl ?_
  refine sx_ldc (v := 64000) y362_65 yk_362_53 (by decide) ?_
  refine p_newarr (N := 64000) (nc2 := 8) (ns2 := 160746) y362_67 (Or.inr (Or.inr ⟨rfl, rfl⟩)) (by decide) (by decide) (by decide) hz (by decide) rfl rfl rfl (by decide +kernel) (by decide +kernel) (fun hz => ?_)
  refine p_putR (k := 8) y362_69 yo_362 yf_12_77 (by decide) hz (by decide) rfl yn_362_11_8 (Or.inr ⟨_, rfl⟩) (fun hz => ?_)
  refine sx_aload_n (i := 0) y362_72 rfl rfl ?_
  refine sx_bipush (v := 8) y362_73 (by decide) ?_
  refine p_newarr (N := 8) (nc2 := 9) (ns2 := 160754) y362_75 (Or.inl ⟨rfl, rfl⟩) (by decide) (by decide) (by decide) hz (by decide) rfl rfl rfl (by decide +kernel) (by decide +kernel) (fun hz => ?_)
  refine p_putR (k := 12) y362_77 yo_362 yf_12_113 (by decide) hz (by decide) rfl yn_362_11_12 (Or.inr ⟨_, rfl⟩) (fun hz => ?_)
  refine sx_aload_n (i := 0) y362_80 rfl rfl ?_
  refine sx_sipush (v := 128) y362_81 (by decide) ?_
  refine p_newarr (N := 128) (nc2 := 10) (ns2 := 160882) y362_84 (Or.inl ⟨rfl, rfl⟩) (by decide) (by decide) (by decide) hz (by decide) rfl rfl rfl (by decide +kernel) (by decide +kernel) (fun hz => ?_)
  refine p_putR (k := 15) y362_86 yo_362 yf_12_123 (by decide) hz (by decide) rfl yn_362_11_15 (Or.inr ⟨_, rfl⟩) (fun hz => ?_)
  refine sx_aload_n (i := 0) y362_89 rfl rfl ?_
  refine sx_bipush (v := 16) y362_90 (by decide) ?_
  refine p_putI (k := 24) (y := 16) y362_92 yo_362 yf_12_161 (by decide) hz (by decide) rfl yn_362_11_24 rfl (by decide) (fun hz => ?_)
  refine sx_aload_n (i := 0) y362_95 rfl rfl ?_
  refine sx_sipush (v := 300) y362_96 (by decide) ?_
  refine p_newarr (N := 300) (nc2 := 11) (ns2 := 161182) y362_99 (Or.inl ⟨rfl, rfl⟩) (by decide) (by decide) (by decide) hz (by decide) rfl rfl rfl (by decide +kernel) (by decide +kernel) (fun hz => ?_)
  refine p_putR (k := 26) y362_101 yo_362 yf_12_167 (by decide) hz (by decide) rfl yn_362_11_26 (Or.inr ⟨_, rfl⟩) (fun hz => ?_)
  refine sx_aload_n (i := 0) y362_104 rfl rfl ?_
  refine sx_bipush (v := 6) y362_105 (by decide) ?_
  refine p_putI (k := 28) (y := 6) y362_107 yo_362 yf_12_195 (by decide) hz (by decide) rfl yn_362_11_28 rfl (by decide) (fun hz => ?_)
  refine sx_aload_n (i := 0) y362_110 rfl rfl ?_
  refine sx_iconst (v := 1) y362_111 (by decide) ?_
  refine p_putI (k := 31) (y := 1) y362_112 yo_362 yf_12_232 (by decide) hz (by decide) rfl yn_362_11_31 rfl (by decide) (fun hz => ?_)
  refine sx_aload_n (i := 0) y362_115 rfl rfl ?_
  refine sx_iconst (v := 3) y362_116 (by decide) ?_
  refine p_putI (k := 32) (y := 3) y362_117 yo_362 yf_12_275 (by decide) hz (by decide) rfl yn_362_11_32 rfl (by decide) (fun hz => ?_)
  refine sx_aload_n (i := 0) y362_120 rfl rfl ?_
  refine sx_bipush (v := 8) y362_121 (by decide) ?_
  refine p_putI (k := 33) (y := 8) y362_123 yo_362 yf_12_216 (by decide) hz (by decide) rfl yn_362_11_33 rfl (by decide) (fun hz => ?_)
  refine sx_aload_n (i := 0) y362_126 rfl rfl ?_
  refine sx_bipush (v := 20) y362_127 (by decide) ?_
  refine p_putI (k := 35) (y := 20) y362_129 yo_362 yf_12_189 (by decide) hz (by decide) rfl yn_362_11_35 rfl (by decide) (fun hz => ?_)
  refine sx_aload_n (i := 0) y362_132 rfl rfl ?_
  refine sx_bipush (v := 40) y362_133 (by decide) ?_
  refine p_newarr (N := 40) (nc2 := 12) (ns2 := 161222) y362_135 (Or.inl ⟨rfl, rfl⟩) (by decide) (by decide) (by decide) hz (by decide) rfl rfl rfl (by decide +kernel) (by decide +kernel) (fun hz => ?_)
  refine p_putR (k := 39) y362_137 yo_362 yf_12_238 (by decide) hz (by decide) rfl yn_362_11_39 (Or.inr ⟨_, rfl⟩) (fun hz => ?_)
  refine sx_aload_n (i := 0) y362_140 rfl rfl ?_
  refine sx_bipush (v := 40) y362_141 (by decide) ?_
  refine p_newarr (N := 40) (nc2 := 13) (ns2 := 161262) y362_143 (Or.inr (Or.inr ⟨rfl, rfl⟩)) (by decide) (by decide) (by decide) hz (by decide) rfl rfl rfl (by decide +kernel) (by decide +kernel) (fun hz => ?_)
  refine p_putR (k := 40) y362_145 yo_362 yf_12_201 (by decide) hz (by decide) rfl yn_362_11_40 (Or.inr ⟨_, rfl⟩) (fun hz => ?_)
  refine sx_aload_n (i := 0) y362_148 rfl rfl ?_
  refine sx_bipush (v := 40) y362_149 (by decide) ?_
  refine p_newarr (N := 40) (nc2 := 14) (ns2 := 161302) y362_151 (Or.inl ⟨rfl, rfl⟩) (by decide) (by decide) (by decide) hz (by decide) rfl rfl rfl (by decide +kernel) (by decide +kernel) (fun hz => ?_)
  refine p_putR (k := 42) y362_153 yo_362 yf_12_219 (by decide) hz (by decide) rfl yn_362_11_42 (Or.inr ⟨_, rfl⟩) (fun hz => ?_)
  refine sx_aload_n (i := 0) y362_156 rfl rfl ?_
  refine sx_sipush (v := 2400) y362_157 (by decide) ?_
  refine p_newarr (N := 2400) (nc2 := 15) (ns2 := 163702) y362_160 (Or.inl ⟨rfl, rfl⟩) (by decide) (by decide) (by decide) hz (by decide) rfl rfl rfl (by decide +kernel) (by decide +kernel) (fun hz => ?_)
  refine p_putR (k := 44) y362_162 yo_362 yf_12_207 (by decide) hz (by decide) rfl yn_362_11_44 (Or.inr ⟨_, rfl⟩) (fun hz => ?_)
  refine sx_aload_n (i := 0) y362_165 rfl rfl ?_
  refine sx_bipush (v := 40) y362_166 (by decide) ?_
  refine p_newarr (N := 40) (nc2 := 16) (ns2 := 163742) y362_168 (Or.inl ⟨rfl, rfl⟩) (by decide) (by decide) (by decide) hz (by decide) rfl rfl rfl (by decide +kernel) (by decide +kernel) (fun hz => ?_)
  refine p_putR (k := 45) y362_170 yo_362 yf_12_210 (by decide) hz (by decide) rfl yn_362_11_45 (Or.inr ⟨_, rfl⟩) (fun hz => ?_)
  refine sx_aload_n (i := 0) y362_173 rfl rfl ?_
  refine sx_sipush (v := 2400) y362_174 (by decide) ?_
  refine p_newarr (N := 2400) (nc2 := 17) (ns2 := 166142) y362_177 (Or.inl ⟨rfl, rfl⟩) (by decide) (by decide) (by decide) hz (by decide) rfl rfl rfl (by decide +kernel) (by decide +kernel) (fun hz => ?_)
  refine p_putR (k := 46) y362_179 yo_362 yf_12_225 (by decide) hz (by decide) rfl yn_362_11_46 (Or.inr ⟨_, rfl⟩) (fun hz => ?_)
  refine sx_aload_n (i := 0) y362_182 rfl rfl ?_
  refine sx_bipush (v := 40) y362_183 (by decide) ?_
  refine p_newarr (N := 40) (nc2 := 18) (ns2 := 166182) y362_185 (Or.inl ⟨rfl, rfl⟩) (by decide) (by decide) (by decide) hz (by decide) rfl rfl rfl (by decide +kernel) (by decide +kernel) (fun hz => ?_)
  refine p_putR (k := 47) y362_187 yo_362 yf_12_222 (by decide) hz (by decide) rfl yn_362_11_47 (Or.inr ⟨_, rfl⟩) (fun hz => ?_)
  refine sx_aload_n (i := 0) y362_190 rfl rfl ?_
  refine sx_bipush (v := 120) y362_191 (by decide) ?_
  refine p_newarr (N := 120) (nc2 := 19) (ns2 := 166302) y362_193 (Or.inl ⟨rfl, rfl⟩) (by decide) (by decide) (by decide) hz (by decide) rfl rfl rfl (by decide +kernel) (by decide +kernel) (fun hz => ?_)
  refine p_putR (k := 50) y362_195 yo_362 yf_12_173 (by decide) hz (by decide) rfl yn_362_11_50 (Or.inr ⟨_, rfl⟩) (fun hz => ?_)
  refine sx_aload_n (i := 0) y362_198 rfl rfl ?_
  refine sx_iconst (v := 3) y362_199 (by decide) ?_
  refine p_newarr (N := 3) (nc2 := 20) (ns2 := 166305) y362_200 (Or.inl ⟨rfl, rfl⟩) (by decide) (by decide) (by decide) hz (by decide) rfl rfl rfl (by decide +kernel) (by decide +kernel) (fun hz => ?_)
  refine p_putR (k := 51) y362_202 yo_362 yf_12_176 (by decide) hz (by decide) rfl yn_362_11_51 (Or.inr ⟨_, rfl⟩) (fun hz => ?_)
  refine sx_aload_n (i := 0) y362_205 rfl rfl ?_
  refine sx_sipush (v := 6400) y362_206 (by decide) ?_
  refine p_newarr (N := 6400) (nc2 := 21) (ns2 := 172705) y362_209 (Or.inl ⟨rfl, rfl⟩) (by decide) (by decide) (by decide) hz (by decide) rfl rfl rfl (by decide +kernel) (by decide +kernel) (fun hz => ?_)
  refine p_putR (k := 52) y362_211 yo_362 yf_12_303 (by decide) hz (by decide) rfl yn_362_11_52 (Or.inr ⟨_, rfl⟩) (fun hz => ?_)
  refine sx_aload_n (i := 0) y362_214 rfl rfl ?_
  refine sx_bipush (v := 64) y362_215 (by decide) ?_
  refine p_newarr (N := 64) (nc2 := 22) (ns2 := 172769) y362_217 (Or.inl ⟨rfl, rfl⟩) (by decide) (by decide) (by decide) hz (by decide) rfl rfl rfl (by decide +kernel) (by decide +kernel) (fun hz => ?_)
  refine p_putR (k := 53) y362_219 yo_362 yf_12_306 (by decide) hz (by decide) rfl yn_362_11_53 (Or.inr ⟨_, rfl⟩) (fun hz => ?_)
  refine sx_aload_n (i := 0) y362_222 rfl rfl ?_
  refine sx_bipush (v := 64) y362_223 (by decide) ?_
  refine p_newarr (N := 64) (nc2 := 23) (ns2 := 172833) y362_225 (Or.inl ⟨rfl, rfl⟩) (by decide) (by decide) (by decide) hz (by decide) rfl rfl rfl (by decide +kernel) (by decide +kernel) (fun hz => ?_)
  refine p_putR (k := 54) y362_227 yo_362 yf_12_300 (by decide) hz (by decide) rfl yn_362_11_54 (Or.inr ⟨_, rfl⟩) (fun hz => ?_)
  refine sx_aload_n (i := 0) y362_230 rfl rfl ?_
  refine sx_bipush (v := 64) y362_231 (by decide) ?_
  refine p_newarr (N := 64) (nc2 := 24) (ns2 := 172897) y362_233 (Or.inl ⟨rfl, rfl⟩) (by decide) (by decide) (by decide) hz (by decide) rfl rfl rfl (by decide +kernel) (by decide +kernel) (fun hz => ?_)
  refine p_putR (k := 55) y362_235 yo_362 yf_12_309 (by decide) hz (by decide) rfl yn_362_11_55 (Or.inr ⟨_, rfl⟩) (fun hz => ?_)
  refine sx_aload_n (i := 0) y362_238 rfl rfl ?_
  refine sx_bipush (v := 64) y362_239 (by decide) ?_
  refine p_newarr (N := 64) (nc2 := 25) (ns2 := 172961) y362_241 (Or.inl ⟨rfl, rfl⟩) (by decide) (by decide) (by decide) hz (by decide) rfl rfl rfl (by decide +kernel) (by decide +kernel) (fun hz => ?_)
  refine p_putR (k := 56) y362_243 yo_362 yf_12_312 (by decide) hz (by decide) rfl yn_362_11_56 (Or.inr ⟨_, rfl⟩) (fun hz => ?_)
  refine sx_aload_n (i := 0) y362_246 rfl rfl ?_
  refine sx_bipush (v := 64) y362_247 (by decide) ?_
  refine p_newarr (N := 64) (nc2 := 26) (ns2 := 173025) y362_249 (Or.inl ⟨rfl, rfl⟩) (by decide) (by decide) (by decide) hz (by decide) rfl rfl rfl (by decide +kernel) (by decide +kernel) (fun hz => ?_)
  refine p_putR (k := 57) y362_251 yo_362 yf_12_315 (by decide) hz (by decide) rfl yn_362_11_57 (Or.inr ⟨_, rfl⟩) (fun hz => ?_)
  refine sx_aload_n (i := 0) y362_254 rfl rfl ?_
  refine sx_iconst (v := 2) y362_255 (by decide) ?_
  refine p_newarr (N := 2) (nc2 := 27) (ns2 := 173027) y362_256 (Or.inl ⟨rfl, rfl⟩) (by decide) (by decide) (by decide) hz (by decide) rfl rfl rfl (by decide +kernel) (by decide +kernel) (fun hz => ?_)
  refine p_putR (k := 59) y362_258 yo_362 yf_12_350 (by decide) hz (by decide) rfl yn_362_11_59 (Or.inr ⟨_, rfl⟩) (fun hz => ?_)
  refine sx_aload_n (i := 0) y362_261 rfl rfl ?_
  refine sx_bipush (v := 64) y362_262 (by decide) ?_
  refine p_newarr (N := 64) (nc2 := 28) (ns2 := 173091) y362_264 (Or.inl ⟨rfl, rfl⟩) (by decide) (by decide) (by decide) hz (by decide) rfl rfl rfl (by decide +kernel) (by decide +kernel) (fun hz => ?_)
  refine p_putR (k := 66) y362_266 yo_362 yf_12_337 (by decide) hz (by decide) rfl yn_362_11_66 (Or.inr ⟨_, rfl⟩) (fun hz => ?_)
  refine sx_aload_n (i := 0) y362_269 rfl rfl ?_
  refine sx_bipush (v := (-2)) y362_270 (by decide) ?_
  refine p_putI (k := 71) (y := (-2)) y362_272 yo_362 yf_12_371 (by decide) hz (by decide) rfl yn_362_11_71 rfl (by decide) (fun hz => ?_)
  refine sx_aload_n (i := 0) y362_275 rfl rfl ?_
  refine sx_bipush (v := (-2)) y362_276 (by decide) ?_
  refine p_putI (k := 72) (y := (-2)) y362_278 yo_362 yf_12_374 (by decide) hz (by decide) rfl yn_362_11_72 rfl (by decide) (fun hz => ?_)
  refine sx_aload_n (i := 0) y362_281 rfl rfl ?_
  refine sx_bipush (v := 64) y362_282 (by decide) ?_
  refine p_newarr (N := 64) (nc2 := 29) (ns2 := 173155) y362_284 (Or.inl ⟨rfl, rfl⟩) (by decide) (by decide) (by decide) hz (by decide) rfl rfl rfl (by decide +kernel) (by decide +kernel) (fun hz => ?_)
  refine p_putR (k := 73) y362_286 yo_362 yf_12_328 (by decide) hz (by decide) rfl yn_362_11_73 (Or.inr ⟨_, rfl⟩) (fun hz => ?_)
  refine sx_aload_n (i := 0) y362_289 rfl rfl ?_
  refine sx_iconst (v := 2) y362_290 (by decide) ?_
  refine p_newarr (N := 2) (nc2 := 30) (ns2 := 173157) y362_291 (Or.inl ⟨rfl, rfl⟩) (by decide) (by decide) (by decide) hz (by decide) rfl rfl rfl (by decide +kernel) (by decide +kernel) (fun hz => ?_)
  refine sx_dup y362_293 rfl ?_
  refine sx_iconst (v := 0) y362_294 (by decide) ?_
  refine sx_bipush (v := (-2)) y362_295 (by decide) ?_
  refine p_iastore (k := 0) (y := (-2)) y362_297 hz (by decide) rfl ⟨by decide, by decide⟩ (by decide) (by decide) (fun hz => ?_)
  refine sx_dup y362_298 rfl ?_
  refine sx_iconst (v := 1) y362_299 (by decide) ?_
  refine sx_bipush (v := (-2)) y362_300 (by decide) ?_
  refine p_iastore (k := 1) (y := (-2)) y362_302 hz (by decide) rfl ⟨by decide, by decide⟩ (by decide) (by decide) (fun hz => ?_)
  refine p_putR (k := 74) y362_303 yo_362 yf_12_381 (by decide) hz (by decide) rfl yn_362_11_74 (Or.inr ⟨_, rfl⟩) (fun hz => ?_)
  refine sx_aload_n (i := 0) y362_306 rfl rfl ?_
  refine sx_iconst (v := 2) y362_307 (by decide) ?_
  refine p_newarr (N := 2) (nc2 := 31) (ns2 := 173159) y362_308 (Or.inl ⟨rfl, rfl⟩) (by decide) (by decide) (by decide) hz (by decide) rfl rfl rfl (by decide +kernel) (by decide +kernel) (fun hz => ?_)
  refine p_putR (k := 75) y362_310 yo_362 yf_12_387 (by decide) hz (by decide) rfl yn_362_11_75 (Or.inr ⟨_, rfl⟩) (fun hz => ?_)
  refine sx_aload_n (i := 0) y362_313 rfl rfl ?_
  refine sx_sipush (v := 400) y362_314 (by decide) ?_
  refine p_newarr (N := 400) (nc2 := 32) (ns2 := 173559) y362_317 (Or.inl ⟨rfl, rfl⟩) (by decide) (by decide) (by decide) hz (by decide) rfl rfl rfl (by decide +kernel) (by decide +kernel) (fun hz => ?_)
  refine p_putR (k := 76) y362_319 yo_362 yf_12_390 (by decide) hz (by decide) rfl yn_362_11_76 (Or.inr ⟨_, rfl⟩) (fun hz => ?_)
  refine sx_aload_n (i := 0) y362_322 rfl rfl ?_
  refine sx_bipush (v := 24) y362_323 (by decide) ?_
  refine p_newarr (N := 24) (nc2 := 33) (ns2 := 173583) y362_325 (Or.inl ⟨rfl, rfl⟩) (by decide) (by decide) (by decide) hz (by decide) rfl rfl rfl (by decide +kernel) (by decide +kernel) (fun hz => ?_)
  refine p_putR (k := 78) y362_327 yo_362 yf_12_126 (by decide) hz (by decide) rfl yn_362_11_78 (Or.inr ⟨_, rfl⟩) (fun hz => ?_)
  refine sx_aload_n (i := 0) y362_330 rfl rfl ?_
  refine sx_bipush (v := 100) y362_331 (by decide) ?_
  refine p_newarr (N := 100) (nc2 := 34) (ns2 := 173683) y362_333 (Or.inl ⟨rfl, rfl⟩) (by decide) (by decide) (by decide) hz (by decide) rfl rfl rfl (by decide +kernel) (by decide +kernel) (fun hz => ?_)
  refine p_putR (k := 79) y362_335 yo_362 yf_12_396 (by decide) hz (by decide) rfl yn_362_11_79 (Or.inr ⟨_, rfl⟩) (fun hz => ?_)
  refine sx_aload_n (i := 0) y362_338 rfl rfl ?_
  refine sx_sipush (v := 128) y362_339 (by decide) ?_
  refine p_newarr (N := 128) (nc2 := 35) (ns2 := 173811) y362_342 (Or.inl ⟨rfl, rfl⟩) (by decide) (by decide) (by decide) hz (by decide) rfl rfl rfl (by decide +kernel) (by decide +kernel) (fun hz => ?_)
  refine p_putR (k := 82) y362_344 yo_362 yf_12_408 (by decide) hz (by decide) rfl yn_362_11_82 (Or.inr ⟨_, rfl⟩) (fun hz => ?_)
  refine sx_aload_n (i := 0) y362_347 rfl rfl ?_
  refine sx_sipush (v := 2400) y362_348 (by decide) ?_
  refine p_newarr (N := 2400) (nc2 := 36) (ns2 := 176211) y362_351 (Or.inl ⟨rfl, rfl⟩) (by decide) (by decide) (by decide) hz (by decide) rfl rfl rfl (by decide +kernel) (by decide +kernel) (fun hz => ?_)
  refine p_putR (k := 84) y362_353 yo_362 yf_12_432 (by decide) hz (by decide) rfl yn_362_11_84 (Or.inr ⟨_, rfl⟩) (fun hz => ?_)
  refine sx_aload_n (i := 0) y362_356 rfl rfl ?_
  refine sx_bipush (v := 24) y362_357 (by decide) ?_
  refine p_newarr (N := 24) (nc2 := 37) (ns2 := 176235) y362_359 (Or.inl ⟨rfl, rfl⟩) (by decide) (by decide) (by decide) hz (by decide) rfl rfl rfl (by decide +kernel) (by decide +kernel) (fun hz => ?_)
  refine p_putR (k := 85) y362_361 yo_362 yf_12_435 (by decide) hz (by decide) rfl yn_362_11_85 (Or.inr ⟨_, rfl⟩) (fun hz => ?_)
  refine sx_aload_n (i := 0) y362_364 rfl rfl ?_
  refine sx_sipush (v := 4000) y362_365 (by decide) ?_
  refine p_newarr (N := 4000) (nc2 := 38) (ns2 := 180235) y362_368 (Or.inl ⟨rfl, rfl⟩) (by decide) (by decide) (by decide) hz (by decide) rfl rfl rfl (by decide +kernel) (by decide +kernel) (fun hz => ?_)
  refine p_putR (k := 88) y362_370 yo_362 yf_12_664 (by decide) hz (by decide) rfl yn_362_11_88 (Or.inr ⟨_, rfl⟩) (fun hz => ?_)
  refine sx_aload_n (i := 0) y362_373 rfl rfl ?_
  refine sx_bipush (v := 40) y362_374 (by decide) ?_
  refine p_newarr (N := 40) (nc2 := 39) (ns2 := 180275) y362_376 (Or.inl ⟨rfl, rfl⟩) (by decide) (by decide) (by decide) hz (by decide) rfl rfl rfl (by decide +kernel) (by decide +kernel) (fun hz => ?_)
  refine p_putR (k := 89) y362_378 yo_362 yf_12_661 (by decide) hz (by decide) rfl yn_362_11_89 (Or.inr ⟨_, rfl⟩) (fun hz => ?_)
  refine sx_aload_n (i := 0) y362_381 rfl rfl ?_
  refine sx_iconst (v := 2) y362_382 (by decide) ?_
  refine p_newarr (N := 2) (nc2 := 40) (ns2 := 180277) y362_383 (Or.inl ⟨rfl, rfl⟩) (by decide) (by decide) (by decide) hz (by decide) rfl rfl rfl (by decide +kernel) (by decide +kernel) (fun hz => ?_)
  refine p_putR (k := 91) y362_385 yo_362 yf_12_444 (by decide) hz (by decide) rfl yn_362_11_91 (Or.inr ⟨_, rfl⟩) (fun hz => ?_)
  refine sx_aload_n (i := 0) y362_388 rfl rfl ?_
  refine sx_iconst (v := 2) y362_389 (by decide) ?_
  refine p_newarr (N := 2) (nc2 := 41) (ns2 := 180279) y362_390 (Or.inr (Or.inr ⟨rfl, rfl⟩)) (by decide) (by decide) (by decide) hz (by decide) rfl rfl rfl (by decide +kernel) (by decide +kernel) (fun hz => ?_)
  refine p_putR (k := 92) y362_392 yo_362 yf_12_417 (by decide) hz (by decide) rfl yn_362_11_92 (Or.inr ⟨_, rfl⟩) (fun hz => ?_)
  refine sx_aload_n (i := 0) y362_395 rfl rfl ?_
  refine sx_iconst (v := 2) y362_396 (by decide) ?_
  refine p_newarr (N := 2) (nc2 := 42) (ns2 := 180281) y362_397 (Or.inl ⟨rfl, rfl⟩) (by decide) (by decide) (by decide) hz (by decide) rfl rfl rfl (by decide +kernel) (by decide +kernel) (fun hz => ?_)
  refine p_putR (k := 93) y362_399 yo_362 yf_12_456 (by decide) hz (by decide) rfl yn_362_11_93 (Or.inr ⟨_, rfl⟩) (fun hz => ?_)
  refine sx_aload_n (i := 0) y362_402 rfl rfl ?_
  refine sx_iconst (v := 2) y362_403 (by decide) ?_
  refine p_newarr (N := 2) (nc2 := 43) (ns2 := 180283) y362_404 (Or.inl ⟨rfl, rfl⟩) (by decide) (by decide) (by decide) hz (by decide) rfl rfl rfl (by decide +kernel) (by decide +kernel) (fun hz => ?_)
  refine p_putR (k := 94) y362_406 yo_362 yf_12_447 (by decide) hz (by decide) rfl yn_362_11_94 (Or.inr ⟨_, rfl⟩) (fun hz => ?_)
  refine sx_aload_n (i := 0) y362_409 rfl rfl ?_
  refine sx_iconst (v := 2) y362_410 (by decide) ?_
  refine p_newarr (N := 2) (nc2 := 44) (ns2 := 180285) y362_411 (Or.inl ⟨rfl, rfl⟩) (by decide) (by decide) (by decide) hz (by decide) rfl rfl rfl (by decide +kernel) (by decide +kernel) (fun hz => ?_)
  refine p_putR (k := 95) y362_413 yo_362 yf_12_450 (by decide) hz (by decide) rfl yn_362_11_95 (Or.inr ⟨_, rfl⟩) (fun hz => ?_)
  refine sx_aload_n (i := 0) y362_416 rfl rfl ?_
  refine sx_iconst (v := 2) y362_417 (by decide) ?_
  refine p_newarr (N := 2) (nc2 := 45) (ns2 := 180287) y362_418 (Or.inl ⟨rfl, rfl⟩) (by decide) (by decide) (by decide) hz (by decide) rfl rfl rfl (by decide +kernel) (by decide +kernel) (fun hz => ?_)
  refine p_putR (k := 96) y362_420 yo_362 yf_12_438 (by decide) hz (by decide) rfl yn_362_11_96 (Or.inr ⟨_, rfl⟩) (fun hz => ?_)
  refine sx_aload_n (i := 0) y362_423 rfl rfl ?_
  refine sx_bipush (v := 12) y362_424 (by decide) ?_
  refine p_newarr (N := 12) (nc2 := 46) (ns2 := 180299) y362_426 (Or.inl ⟨rfl, rfl⟩) (by decide) (by decide) (by decide) hz (by decide) rfl rfl rfl (by decide +kernel) (by decide +kernel) (fun hz => ?_)
  refine p_putR (k := 97) y362_428 yo_362 yf_12_441 (by decide) hz (by decide) rfl yn_362_11_97 (Or.inr ⟨_, rfl⟩) (fun hz => ?_)
  refine sx_aload_n (i := 0) y362_431 rfl rfl ?_
  refine sx_sipush (v := 18000) y362_432 (by decide) ?_
  refine p_newarr (N := 18000) (nc2 := 47) (ns2 := 198299) y362_435 (Or.inl ⟨rfl, rfl⟩) (by decide) (by decide) (by decide) hz (by decide) rfl rfl rfl (by decide +kernel) (by decide +kernel) (fun hz => ?_)
  refine p_putR (k := 98) y362_437 yo_362 yf_12_459 (by decide) hz (by decide) rfl yn_362_11_98 (Or.inr ⟨_, rfl⟩) (fun hz => ?_)
  refine sx_aload_n (i := 0) y362_440 rfl rfl ?_
  refine sx_sipush (v := 180) y362_441 (by decide) ?_
  refine p_newarr (N := 180) (nc2 := 48) (ns2 := 198479) y362_444 (Or.inl ⟨rfl, rfl⟩) (by decide) (by decide) (by decide) hz (by decide) rfl rfl rfl (by decide +kernel) (by decide +kernel) (fun hz => ?_)
  refine p_putR (k := 99) y362_446 yo_362 yf_12_462 (by decide) hz (by decide) rfl yn_362_11_99 (Or.inr ⟨_, rfl⟩) (fun hz => ?_)
  refine sx_aload_n (i := 0) y362_449 rfl rfl ?_
  refine sx_sipush (v := 180) y362_450 (by decide) ?_
  refine p_newarr (N := 180) (nc2 := 49) (ns2 := 198659) y362_453 (Or.inl ⟨rfl, rfl⟩) (by decide) (by decide) (by decide) hz (by decide) rfl rfl rfl (by decide +kernel) (by decide +kernel) (fun hz => ?_)
  refine p_putR (k := 100) y362_455 yo_362 yf_12_465 (by decide) hz (by decide) rfl yn_362_11_100 (Or.inr ⟨_, rfl⟩) (fun hz => ?_)
  refine sx_aload_n (i := 0) y362_458 rfl rfl ?_
  refine sx_sipush (v := 512) y362_459 (by decide) ?_
  refine p_newarr (N := 512) (nc2 := 50) (ns2 := 199171) y362_462 (Or.inl ⟨rfl, rfl⟩) (by decide) (by decide) (by decide) hz (by decide) rfl rfl rfl (by decide +kernel) (by decide +kernel) (fun hz => ?_)
  refine p_putR (k := 101) y362_464 yo_362 yf_12_492 (by decide) hz (by decide) rfl yn_362_11_101 (Or.inr ⟨_, rfl⟩) (fun hz => ?_)
  refine sx_aload_n (i := 0) y362_467 rfl rfl ?_
  refine sx_bipush (v := 8) y362_468 (by decide) ?_
  refine p_newarr (N := 8) (nc2 := 51) (ns2 := 199179) y362_470 (Or.inl ⟨rfl, rfl⟩) (by decide) (by decide) (by decide) hz (by decide) rfl rfl rfl (by decide +kernel) (by decide +kernel) (fun hz => ?_)
  refine p_putR (k := 102) y362_472 yo_362 yf_12_495 (by decide) hz (by decide) rfl yn_362_11_102 (Or.inr ⟨_, rfl⟩) (fun hz => ?_)
  refine sx_aload_n (i := 0) y362_475 rfl rfl ?_
  refine sx_bipush (v := 8) y362_476 (by decide) ?_
  refine p_newarr (N := 8) (nc2 := 52) (ns2 := 199187) y362_478 (Or.inl ⟨rfl, rfl⟩) (by decide) (by decide) (by decide) hz (by decide) rfl rfl rfl (by decide +kernel) (by decide +kernel) (fun hz => ?_)
  refine p_putR (k := 103) y362_480 yo_362 yf_12_498 (by decide) hz (by decide) rfl yn_362_11_103 (Or.inr ⟨_, rfl⟩) (fun hz => ?_)
  refine sx_aload_n (i := 0) y362_483 rfl rfl ?_
  refine sx_bipush (v := 64) y362_484 (by decide) ?_
  refine p_newarr (N := 64) (nc2 := 53) (ns2 := 199251) y362_486 (Or.inl ⟨rfl, rfl⟩) (by decide) (by decide) (by decide) hz (by decide) rfl rfl rfl (by decide +kernel) (by decide +kernel) (fun hz => ?_)
  refine p_putR (k := 105) y362_488 yo_362 yf_12_513 (by decide) hz (by decide) rfl yn_362_11_105 (Or.inr ⟨_, rfl⟩) (fun hz => ?_)
  refine sx_aload_n (i := 0) y362_491 rfl rfl ?_
  refine sx_bipush (v := 6) y362_492 (by decide) ?_
  refine p_newarr (N := 6) (nc2 := 54) (ns2 := 199257) y362_494 (Or.inr (Or.inr ⟨rfl, rfl⟩)) (by decide) (by decide) (by decide) hz (by decide) rfl rfl rfl (by decide +kernel) (by decide +kernel) (fun hz => ?_)
  refine p_putR (k := 108) y362_496 yo_362 yf_12_527 (by decide) hz (by decide) rfl yn_362_11_108 (Or.inr ⟨_, rfl⟩) (fun hz => ?_)
  refine sx_aload_n (i := 0) y362_499 rfl rfl ?_
  refine sx_bipush (v := 6) y362_500 (by decide) ?_
  refine p_newarr (N := 6) (nc2 := 55) (ns2 := 199263) y362_502 (Or.inr (Or.inr ⟨rfl, rfl⟩)) (by decide) (by decide) (by decide) hz (by decide) rfl rfl rfl (by decide +kernel) (by decide +kernel) (fun hz => ?_)
  refine p_putR (k := 109) y362_504 yo_362 yf_12_530 (by decide) hz (by decide) rfl yn_362_11_109 (Or.inr ⟨_, rfl⟩) (fun hz => ?_)
  refine sx_aload_n (i := 0) y362_507 rfl rfl ?_
  refine sx_bipush (v := 6) y362_508 (by decide) ?_
  refine p_newarr (N := 6) (nc2 := 56) (ns2 := 199269) y362_510 (Or.inl ⟨rfl, rfl⟩) (by decide) (by decide) (by decide) hz (by decide) rfl rfl rfl (by decide +kernel) (by decide +kernel) (fun hz => ?_)
  refine p_putR (k := 110) y362_512 yo_362 yf_12_601 (by decide) hz (by decide) rfl yn_362_11_110 (Or.inr ⟨_, rfl⟩) (fun hz => ?_)
  refine sx_aload_n (i := 0) y362_515 rfl rfl ?_
  refine sx_bipush (v := 6) y362_516 (by decide) ?_
  refine p_newarr (N := 6) (nc2 := 57) (ns2 := 199275) y362_518 (Or.inl ⟨rfl, rfl⟩) (by decide) (by decide) (by decide) hz (by decide) rfl rfl rfl (by decide +kernel) (by decide +kernel) (fun hz => ?_)
  refine p_putR (k := 111) y362_520 yo_362 yf_12_604 (by decide) hz (by decide) rfl yn_362_11_111 (Or.inr ⟨_, rfl⟩) (fun hz => ?_)
  refine sx_aload_n (i := 0) y362_523 rfl rfl ?_
  refine sx_bipush (v := 6) y362_524 (by decide) ?_
  refine p_newarr (N := 6) (nc2 := 58) (ns2 := 199281) y362_526 (Or.inl ⟨rfl, rfl⟩) (by decide) (by decide) (by decide) hz (by decide) rfl rfl rfl (by decide +kernel) (by decide +kernel) (fun hz => ?_)
  refine p_putR (k := 112) y362_528 yo_362 yf_12_595 (by decide) hz (by decide) rfl yn_362_11_112 (Or.inr ⟨_, rfl⟩) (fun hz => ?_)
  refine sx_aload_n (i := 0) y362_531 rfl rfl ?_
  refine sx_bipush (v := 48) y362_532 (by decide) ?_
  refine p_newarr (N := 48) (nc2 := 59) (ns2 := 199329) y362_534 (Or.inl ⟨rfl, rfl⟩) (by decide) (by decide) (by decide) hz (by decide) rfl rfl rfl (by decide +kernel) (by decide +kernel) (fun hz => ?_)
  refine p_putR (k := 113) y362_536 yo_362 yf_12_598 (by decide) hz (by decide) rfl yn_362_11_113 (Or.inr ⟨_, rfl⟩) (fun hz => ?_)
  refine sx_aload_n (i := 0) y362_539 rfl rfl ?_
  refine sx_sipush (v := 1024) y362_540 (by decide) ?_
  refine p_newarr (N := 1024) (nc2 := 60) (ns2 := 200353) y362_543 (Or.inl ⟨rfl, rfl⟩) (by decide) (by decide) (by decide) hz (by decide) rfl rfl rfl (by decide +kernel) (by decide +kernel) (fun hz => ?_)
  refine p_putR (k := 114) y362_545 yo_362 yf_12_592 (by decide) hz (by decide) rfl yn_362_11_114 (Or.inr ⟨_, rfl⟩) (fun hz => ?_)
  refine sx_aload_n (i := 0) y362_548 rfl rfl ?_
  refine sx_bipush (v := 32) y362_549 (by decide) ?_
  refine p_newarr (N := 32) (nc2 := 61) (ns2 := 200385) y362_551 (Or.inr (Or.inr ⟨rfl, rfl⟩)) (by decide) (by decide) (by decide) hz (by decide) rfl rfl rfl (by decide +kernel) (by decide +kernel) (fun hz => ?_)
  refine p_putR (k := 115) y362_553 yo_362 yf_12_571 (by decide) hz (by decide) rfl yn_362_11_115 (Or.inr ⟨_, rfl⟩) (fun hz => ?_)
  refine sx_aload_n (i := 0) y362_556 rfl rfl ?_
  refine sx_bipush (v := 32) y362_557 (by decide) ?_
  refine p_newarr (N := 32) (nc2 := 62) (ns2 := 200417) y362_559 (Or.inr (Or.inr ⟨rfl, rfl⟩)) (by decide) (by decide) (by decide) hz (by decide) rfl rfl rfl (by decide +kernel) (by decide +kernel) (fun hz => ?_)
  refine p_putR (k := 116) y362_561 yo_362 yf_12_536 (by decide) hz (by decide) rfl yn_362_11_116 (Or.inr ⟨_, rfl⟩) (fun hz => ?_)
  refine sx_aload_n (i := 0) y362_564 rfl rfl ?_
  refine sx_bipush (v := 32) y362_565 (by decide) ?_
  refine p_newarr (N := 32) (nc2 := 63) (ns2 := 200449) y362_567 (Or.inr (Or.inr ⟨rfl, rfl⟩)) (by decide) (by decide) (by decide) hz (by decide) rfl rfl rfl (by decide +kernel) (by decide +kernel) (fun hz => ?_)
  refine p_putR (k := 117) y362_569 yo_362 yf_12_610 (by decide) hz (by decide) rfl yn_362_11_117 (Or.inr ⟨_, rfl⟩) (fun hz => ?_)
  refine sx_aload_n (i := 0) y362_572 rfl rfl ?_
  refine sx_sipush (v := 1280) y362_573 (by decide) ?_
  refine p_newarr (N := 1280) (nc2 := 64) (ns2 := 201729) y362_576 (Or.inl ⟨rfl, rfl⟩) (by decide) (by decide) (by decide) hz (by decide) rfl rfl rfl (by decide +kernel) (by decide +kernel) (fun hz => ?_)
  refine p_putR (k := 118) y362_578 yo_362 yf_12_616 (by decide) hz (by decide) rfl yn_362_11_118 (Or.inr ⟨_, rfl⟩) (fun hz => ?_)
  refine sx_aload_n (i := 0) y362_581 rfl rfl ?_
  refine sx_bipush (v := 32) y362_582 (by decide) ?_
  refine p_newarr (N := 32) (nc2 := 65) (ns2 := 201761) y362_584 (Or.inl ⟨rfl, rfl⟩) (by decide) (by decide) (by decide) hz (by decide) rfl rfl rfl (by decide +kernel) (by decide +kernel) (fun hz => ?_)
  refine p_putR (k := 119) y362_586 yo_362 yf_12_613 (by decide) hz (by decide) rfl yn_362_11_119 (Or.inr ⟨_, rfl⟩) (fun hz => ?_)
  refine sx_aload_n (i := 0) y362_589 rfl rfl ?_
  refine sx_bipush (v := 6) y362_590 (by decide) ?_
  refine p_newarr (N := 6) (nc2 := 66) (ns2 := 201767) y362_592 (Or.inl ⟨rfl, rfl⟩) (by decide) (by decide) (by decide) hz (by decide) rfl rfl rfl (by decide +kernel) (by decide +kernel) (fun hz => ?_)
  refine p_putR (k := 120) y362_594 yo_362 yf_12_548 (by decide) hz (by decide) rfl yn_362_11_120 (Or.inr ⟨_, rfl⟩) (fun hz => ?_)
  refine sx_aload_n (i := 0) y362_597 rfl rfl ?_
  refine sx_bipush (v := 6) y362_598 (by decide) ?_
  refine p_newarr (N := 6) (nc2 := 67) (ns2 := 201773) y362_600 (Or.inl ⟨rfl, rfl⟩) (by decide) (by decide) (by decide) hz (by decide) rfl rfl rfl (by decide +kernel) (by decide +kernel) (fun hz => ?_)
  refine p_putR (k := 121) y362_602 yo_362 yf_12_619 (by decide) hz (by decide) rfl yn_362_11_121 (Or.inr ⟨_, rfl⟩) (fun hz => ?_)
  refine sx_aload_n (i := 0) y362_605 rfl rfl ?_
  refine sx_bipush (v := 6) y362_606 (by decide) ?_
  refine p_newarr (N := 6) (nc2 := 68) (ns2 := 201779) y362_608 (Or.inl ⟨rfl, rfl⟩) (by decide) (by decide) (by decide) hz (by decide) rfl rfl rfl (by decide +kernel) (by decide +kernel) (fun hz => ?_)
  refine p_putR (k := 122) y362_610 yo_362 yf_12_622 (by decide) hz (by decide) rfl yn_362_11_122 (Or.inr ⟨_, rfl⟩) (fun hz => ?_)
  refine sx_aload_n (i := 0) y362_613 rfl rfl ?_
  refine sx_bipush (v := 6) y362_614 (by decide) ?_
  refine p_newarr (N := 6) (nc2 := 69) (ns2 := 201785) y362_616 (Or.inl ⟨rfl, rfl⟩) (by decide) (by decide) (by decide) hz (by decide) rfl rfl rfl (by decide +kernel) (by decide +kernel) (fun hz => ?_)
  refine p_putR (k := 123) y362_618 yo_362 yf_12_625 (by decide) hz (by decide) rfl yn_362_11_123 (Or.inr ⟨_, rfl⟩) (fun hz => ?_)
  refine sx_aload_n (i := 0) y362_621 rfl rfl ?_
  refine sx_bipush (v := 6) y362_622 (by decide) ?_
  refine p_newarr (N := 6) (nc2 := 70) (ns2 := 201791) y362_624 (Or.inl ⟨rfl, rfl⟩) (by decide) (by decide) (by decide) hz (by decide) rfl rfl rfl (by decide +kernel) (by decide +kernel) (fun hz => ?_)
  refine p_putR (k := 124) y362_626 yo_362 yf_12_628 (by decide) hz (by decide) rfl yn_362_11_124 (Or.inr ⟨_, rfl⟩) (fun hz => ?_)
  refine sx_aload_n (i := 0) y362_629 rfl rfl ?_
  refine sx_bipush (v := 6) y362_630 (by decide) ?_
  refine p_newarr (N := 6) (nc2 := 71) (ns2 := 201797) y362_632 (Or.inl ⟨rfl, rfl⟩) (by decide) (by decide) (by decide) hz (by decide) rfl rfl rfl (by decide +kernel) (by decide +kernel) (fun hz => ?_)
  refine p_putR (k := 125) y362_634 yo_362 yf_12_631 (by decide) hz (by decide) rfl yn_362_11_125 (Or.inr ⟨_, rfl⟩) (fun hz => ?_)
  refine sx_aload_n (i := 0) y362_637 rfl rfl ?_
  refine sx_bipush (v := 6) y362_638 (by decide) ?_
  refine p_newarr (N := 6) (nc2 := 72) (ns2 := 201803) y362_640 (Or.inl ⟨rfl, rfl⟩) (by decide) (by decide) (by decide) hz (by decide) rfl rfl rfl (by decide +kernel) (by decide +kernel) (fun hz => ?_)
  refine p_putR (k := 126) y362_642 yo_362 yf_12_634 (by decide) hz (by decide) rfl yn_362_11_126 (Or.inr ⟨_, rfl⟩) (fun hz => ?_)
  refine sx_aload_n (i := 0) y362_645 rfl rfl ?_
  refine sx_bipush (v := 6) y362_646 (by decide) ?_
  refine p_newarr (N := 6) (nc2 := 73) (ns2 := 201809) y362_648 (Or.inl ⟨rfl, rfl⟩) (by decide) (by decide) (by decide) hz (by decide) rfl rfl rfl (by decide +kernel) (by decide +kernel) (fun hz => ?_)
  refine p_putR (k := 127) y362_650 yo_362 yf_12_637 (by decide) hz (by decide) rfl yn_362_11_127 (Or.inr ⟨_, rfl⟩) (fun hz => ?_)
  refine sx_aload_n (i := 0) y362_653 rfl rfl ?_
  refine sx_iconst (v := 4) y362_654 (by decide) ?_
  refine p_newarr (N := 4) (nc2 := 74) (ns2 := 201813) y362_655 (Or.inr (Or.inr ⟨rfl, rfl⟩)) (by decide) (by decide) (by decide) hz (by decide) rfl rfl rfl (by decide +kernel) (by decide +kernel) (fun hz => ?_)
  refine p_putR (k := 129) y362_657 yo_362 yf_12_658 (by decide) hz (by decide) rfl yn_362_11_129 (Or.inr ⟨_, rfl⟩) (fun hz => ?_)
  refine sx_aload_n (i := 0) y362_660 rfl rfl ?_
  refine sx_bipush (v := 17) y362_661 (by decide) ?_
  refine p_newarr (N := 17) (nc2 := 75) (ns2 := 201830) y362_663 (Or.inl ⟨rfl, rfl⟩) (by decide) (by decide) (by decide) hz (by decide) rfl rfl rfl (by decide +kernel) (by decide +kernel) (fun hz => ?_)
  refine p_putR (k := 131) y362_665 yo_362 yf_12_554 (by decide) hz (by decide) rfl yn_362_11_131 (Or.inr ⟨_, rfl⟩) (fun hz => ?_)
  refine sx_aload_n (i := 0) y362_668 rfl rfl ?_
  refine sx_bipush (v := 17) y362_669 (by decide) ?_
  refine p_newarr (N := 17) (nc2 := 76) (ns2 := 201847) y362_671 (Or.inl ⟨rfl, rfl⟩) (by decide) (by decide) (by decide) hz (by decide) rfl rfl rfl (by decide +kernel) (by decide +kernel) (fun hz => ?_)
  refine p_putR (k := 132) y362_673 yo_362 yf_12_646 (by decide) hz (by decide) rfl yn_362_11_132 (Or.inr ⟨_, rfl⟩) (fun hz => ?_)
  refine sx_aload_n (i := 0) y362_676 rfl rfl ?_
  refine sx_bipush (v := 17) y362_677 (by decide) ?_
  refine p_newarr (N := 17) (nc2 := 77) (ns2 := 201864) y362_679 (Or.inl ⟨rfl, rfl⟩) (by decide) (by decide) (by decide) hz (by decide) rfl rfl rfl (by decide +kernel) (by decide +kernel) (fun hz => ?_)
  refine p_putR (k := 133) y362_681 yo_362 yf_12_649 (by decide) hz (by decide) rfl yn_362_11_133 (Or.inr ⟨_, rfl⟩) (fun hz => ?_)
  refine sx_aload_n (i := 0) y362_684 rfl rfl ?_
  refine sx_sipush (v := 680) y362_685 (by decide) ?_
  refine p_newarr (N := 680) (nc2 := 78) (ns2 := 202544) y362_688 (Or.inl ⟨rfl, rfl⟩) (by decide) (by decide) (by decide) hz (by decide) rfl rfl rfl (by decide +kernel) (by decide +kernel) (fun hz => ?_)
  refine p_putR (k := 134) y362_690 yo_362 yf_12_640 (by decide) hz (by decide) rfl yn_362_11_134 (Or.inr ⟨_, rfl⟩) (fun hz => ?_)
  refine sx_aload_n (i := 0) y362_693 rfl rfl ?_
  refine sx_sipush (v := 200) y362_694 (by decide) ?_
  refine p_newarr (N := 200) (nc2 := 79) (ns2 := 202744) y362_697 (Or.inl ⟨rfl, rfl⟩) (by decide) (by decide) (by decide) hz (by decide) rfl rfl rfl (by decide +kernel) (by decide +kernel) (fun hz => ?_)
  refine p_putR (k := 135) y362_699 yo_362 yf_12_697 (by decide) hz (by decide) rfl yn_362_11_135 (Or.inr ⟨_, rfl⟩) (fun hz => ?_)
  refine sx_aload_n (i := 0) y362_702 rfl rfl ?_
  refine sx_iconst (v := 2) y362_703 (by decide) ?_
  refine p_newarr (N := 2) (nc2 := 80) (ns2 := 202746) y362_704 (Or.inl ⟨rfl, rfl⟩) (by decide) (by decide) (by decide) hz (by decide) rfl rfl rfl (by decide +kernel) (by decide +kernel) (fun hz => ?_)
  refine p_putR (k := 136) y362_706 yo_362 yf_12_688 (by decide) hz (by decide) rfl yn_362_11_136 (Or.inr ⟨_, rfl⟩) (fun hz => ?_)
  refine sx_aload_n (i := 0) y362_709 rfl rfl ?_
  refine sx_iconst (v := 2) y362_710 (by decide) ?_
  refine p_newarr (N := 2) (nc2 := 81) (ns2 := 202748) y362_711 (Or.inl ⟨rfl, rfl⟩) (by decide) (by decide) (by decide) hz (by decide) rfl rfl rfl (by decide +kernel) (by decide +kernel) (fun hz => ?_)
  refine p_putR (k := 137) y362_713 yo_362 yf_12_685 (by decide) hz (by decide) rfl yn_362_11_137 (Or.inr ⟨_, rfl⟩) (fun hz => ?_)
  refine sx_aload_n (i := 0) y362_716 rfl rfl ?_
  refine sx_iconst (v := 2) y362_717 (by decide) ?_
  refine p_newarr (N := 2) (nc2 := 82) (ns2 := 202750) y362_718 (Or.inr (Or.inr ⟨rfl, rfl⟩)) (by decide) (by decide) (by decide) hz (by decide) rfl rfl rfl (by decide +kernel) (by decide +kernel) (fun hz => ?_)
  refine p_putR (k := 138) y362_720 yo_362 yf_12_694 (by decide) hz (by decide) rfl yn_362_11_138 (Or.inr ⟨_, rfl⟩) (fun hz => ?_)
  refine sx_aload_n (i := 0) y362_723 rfl rfl ?_
  refine sx_bipush (v := 8) y362_724 (by decide) ?_
  refine p_newarr (N := 8) (nc2 := 83) (ns2 := 202758) y362_726 (Or.inl ⟨rfl, rfl⟩) (by decide) (by decide) (by decide) hz (by decide) rfl rfl rfl (by decide +kernel) (by decide +kernel) (fun hz => ?_)
  refine p_putR (k := 140) y362_728 yo_362 yf_12_715 (by decide) hz (by decide) rfl yn_362_11_140 (Or.inr ⟨_, rfl⟩) (fun hz => ?_)
  refine sx_aload_n (i := 0) y362_731 rfl rfl ?_
  refine sx_bipush (v := 64) y362_732 (by decide) ?_
  refine p_newarr (N := 64) (nc2 := 84) (ns2 := 202822) y362_734 (Or.inl ⟨rfl, rfl⟩) (by decide) (by decide) (by decide) hz (by decide) rfl rfl rfl (by decide +kernel) (by decide +kernel) (fun hz => ?_)
  refine p_putR (k := 142) y362_736 yo_362 yf_12_706 (by decide) hz (by decide) rfl yn_362_11_142 (Or.inr ⟨_, rfl⟩) (fun hz => ?_)
  refine sx_aload_n (i := 0) y362_739 rfl rfl ?_
  refine sx_iconst (v := 4) y362_740 (by decide) ?_
  refine p_newarr (N := 4) (nc2 := 85) (ns2 := 202826) y362_741 (Or.inl ⟨rfl, rfl⟩) (by decide) (by decide) (by decide) hz (by decide) rfl rfl rfl (by decide +kernel) (by decide +kernel) (fun hz => ?_)
  refine sx_dup y362_743 rfl ?_
  refine sx_iconst (v := 0) y362_744 (by decide) ?_
  refine sx_bipush (v := 26) y362_745 (by decide) ?_
  refine p_iastore (k := 0) (y := 26) y362_747 hz (by decide) rfl ⟨by decide, by decide⟩ (by decide) (by decide) (fun hz => ?_)
  refine sx_dup y362_748 rfl ?_
  refine sx_iconst (v := 1) y362_749 (by decide) ?_
  refine sx_sipush (v := 207) y362_750 (by decide) ?_
  refine p_iastore (k := 1) (y := 207) y362_753 hz (by decide) rfl ⟨by decide, by decide⟩ (by decide) (by decide) (fun hz => ?_)
  refine sx_dup y362_754 rfl ?_
  refine sx_iconst (v := 2) y362_755 (by decide) ?_
  refine sx_sipush (v := 252) y362_756 (by decide) ?_
  refine p_iastore (k := 2) (y := 252) y362_759 hz (by decide) rfl ⟨by decide, by decide⟩ (by decide) (by decide) (fun hz => ?_)
  refine sx_dup y362_760 rfl ?_
  refine sx_iconst (v := 3) y362_761 (by decide) ?_
  refine sx_bipush (v := 29) y362_762 (by decide) ?_
  refine p_iastore (k := 3) (y := 29) y362_764 hz (by decide) rfl ⟨by decide, by decide⟩ (by decide) (by decide) (fun hz => ?_)
  refine p_putR (k := 143) y362_765 yo_362 yf_12_718 (by decide) hz (by decide) rfl yn_362_11_143 (Or.inr ⟨_, rfl⟩) (fun hz => ?_)
  refine sx_aload_n (i := 0) y362_768 rfl rfl ?_
  refine sx_bipush (v := (-2)) y362_769 (by decide) ?_
  refine p_putI (k := 146) (y := (-2)) y362_771 yo_362 yf_12_739 (by decide) hz (by decide) rfl yn_362_11_146 rfl (by decide) (fun hz => ?_)
  refine sx_aload_n (i := 0) y362_774 rfl rfl ?_
  refine sx_sipush (v := 4800) y362_775 (by decide) ?_
  refine p_newarr (N := 4800) (nc2 := 86) (ns2 := 207626) y362_778 (Or.inl ⟨rfl, rfl⟩) (by decide) (by decide) (by decide) hz (by decide) rfl rfl rfl (by decide +kernel) (by decide +kernel) (fun hz => ?_)
  refine p_putR (k := 148) y362_780 yo_362 yf_12_727 (by decide) hz (by decide) rfl yn_362_11_148 (Or.inr ⟨_, rfl⟩) (fun hz => ?_)
  refine sx_aload_n (i := 0) y362_783 rfl rfl ?_
  refine sx_bipush (v := 40) y362_784 (by decide) ?_
  refine p_newarr (N := 40) (nc2 := 87) (ns2 := 207666) y362_786 (Or.inl ⟨rfl, rfl⟩) (by decide) (by decide) (by decide) hz (by decide) rfl rfl rfl (by decide +kernel) (by decide +kernel) (fun hz => ?_)
  refine p_putR (k := 149) y362_788 yo_362 yf_12_730 (by decide) hz (by decide) rfl yn_362_11_149 (Or.inr ⟨_, rfl⟩) (fun hz => ?_)
  refine sx_aload_n (i := 0) y362_791 rfl rfl ?_
  refine sx_bipush (v := 40) y362_792 (by decide) ?_
  refine p_newarr (N := 40) (nc2 := 88) (ns2 := 207706) y362_794 (Or.inl ⟨rfl, rfl⟩) (by decide) (by decide) (by decide) hz (by decide) rfl rfl rfl (by decide +kernel) (by decide +kernel) (fun hz => ?_)
  refine p_putR (k := 150) y362_796 yo_362 yf_12_733 (by decide) hz (by decide) rfl yn_362_11_150 (Or.inr ⟨_, rfl⟩) (fun hz => ?_)
  refine sx_aload_n (i := 0) y362_799 rfl rfl ?_
  refine sx_bipush (v := 24) y362_800 (by decide) ?_
  refine p_newarr (N := 24) (nc2 := 89) (ns2 := 207730) y362_802 (Or.inr (Or.inr ⟨rfl, rfl⟩)) (by decide) (by decide) (by decide) hz (by decide) rfl rfl rfl (by decide +kernel) (by decide +kernel) (fun hz => ?_)
  refine p_putR (k := 151) y362_804 yo_362 yf_12_748 (by decide) hz (by decide) rfl yn_362_11_151 (Or.inr ⟨_, rfl⟩) (fun hz => ?_)
  refine sx_aload_n (i := 0) y362_807 rfl rfl ?_
  refine sx_bipush (v := 24) y362_808 (by decide) ?_
  refine p_newarr (N := 24) (nc2 := 90) (ns2 := 207754) y362_810 (Or.inl ⟨rfl, rfl⟩) (by decide) (by decide) (by decide) hz (by decide) rfl rfl rfl (by decide +kernel) (by decide +kernel) (fun hz => ?_)
  refine p_putR (k := 152) y362_812 yo_362 yf_12_754 (by decide) hz (by decide) rfl yn_362_11_152 (Or.inr ⟨_, rfl⟩) (fun hz => ?_)
  refine sx_aload_n (i := 0) y362_815 rfl rfl ?_
  refine sx_bipush (v := 24) y362_816 (by decide) ?_
  refine p_newarr (N := 24) (nc2 := 91) (ns2 := 207778) y362_818 (Or.inl ⟨rfl, rfl⟩) (by decide) (by decide) (by decide) hz (by decide) rfl rfl rfl (by decide +kernel) (by decide +kernel) (fun hz => ?_)
  refine p_putR (k := 153) y362_820 yo_362 yf_12_751 (by decide) hz (by decide) rfl yn_362_11_153 (Or.inr ⟨_, rfl⟩) (fun hz => ?_)
  refine sx_aload_n (i := 0) y362_823 rfl rfl ?_
  refine p_callV (vs := []) (nc2 := 92) (ns2 := 208290) y362_824 yo_362 yl_12_765 (by decide) (gML_all 298 (by decide) (by decide) (by decide)) gcw_298 (by decide) rfl (mn_p hz rfl (fun j => congrFun (hz0 158 (by decide) (by decide)).1 j)) rfl rfl yc_298 ys_298 rfl ⟨by decide +kernel, by decide +kernel, by decide +kernel, by decide +kernel, by decide⟩ rfl rfl ?_
  replace hz := mnM_Z (hz.up (by decide)) 512
  exact p_ret y362_827 yr_362 (by decide +kernel) (by decide +kernel)
/-! the law up to its loop -/
def rF : Rf := kr129 (kr0 (fun _ _ => none))
theorem law_0 {L : Nat} {R : Rf} {μ : Mem} {r : gM × Option Value} (hz : Zr 0 R μ) (kk : Sx 369 18 [(0, .ref 100003), (1, .ref 0), (2, .ref 129), (3, .int (nI 0))] [] 222 283848 (pm L 222 (kr129 (kr0 R)) (ku129 (ku0 μ))) r) : Sx 369 0 [(0, .ref 100003)] [] 0 0 (pm L 0 R μ) r := by
  refine p_new (nc2 := 1) (ns2 := 10) y369_0 yo_369 yw_16_7 (by decide) hz (by decide) rfl yg_10 rfl rfl (by decide +kernel) (by decide +kernel) (fun hz => ?_)
  refine sx_dup y369_3 rfl ?_
  refine p_callI (vs := []) (nc2 := 129) (ns2 := 75404) y369_4 yo_369 yl_16_9 (by decide) (gML_all 196 (by decide) (by decide) (by decide)) gcw_196 yr_196 (by decide) (kc0 hz) rfl rfl yc_196 ys_196 rfl ⟨by decide +kernel, by decide +kernel, by decide +kernel, by decide +kernel, by decide⟩ rfl rfl ?_
  replace hz := kz0 hz
  refine y_astore_n (lo2 := [(1, .ref 0), (0, .ref 100003)]) y369_7 rfl (by decide +kernel) rfl ?_
  refine p_new (nc2 := 130) (ns2 := 75558) y369_8 yo_369 yw_16_10 (by decide) hz (by decide) rfl yg_11 rfl rfl (by decide +kernel) (by decide +kernel) (fun hz => ?_)
  refine sx_dup y369_11 rfl ?_
  refine p_callI (vs := []) (nc2 := 222) (ns2 := 283848) y369_12 yo_369 yl_16_12 (by decide) (gML_all 362 (by decide) (by decide) (by decide)) gcw_362 yr_362 (by decide) (kc129 hz) rfl rfl yc_362 ys_362 rfl ⟨by decide +kernel, by decide +kernel, by decide +kernel, by decide +kernel, by decide⟩ rfl rfl ?_
  replace hz := kz129 hz
  refine y_astore_n (lo2 := [(2, .ref 129), (1, .ref 0), (0, .ref 100003)]) y369_15 rfl (by decide +kernel) rfl ?_
  refine sx_iconst (v := 0) y369_16 (by decide) ?_
  refine y_istore_n (lo2 := [(3, .int 0), (2, .ref 129), (1, .ref 0), (0, .ref 100003)]) y369_17 rfl (by decide +kernel) rfl ?_
  refine sx_pick (lo2 := [(0, .ref 100003), (1, .ref 0), (2, .ref 129), (3, .int (nI 0))]) [3, 2, 1, 0] rfl ?_
  exact kk
theorem ku_F {μ : Mem} : ku129 (ku0 μ) = (mnM (setI (setI (setI (setI (setI (setI (setI (setI (setI (setI (setI (setI (setI (setI (setI (zoM (setI (setI (setI (setI (setI (setI (setI (nzM (setI (setI (setI (setI μ 5 0 32000) 7 0 64000) 9 16 16) 12 12 (-1)) 64) 28 8 6) 28 11 1) 28 12 3) 28 13 8) 28 15 20) 56 0 (-1)) 56 1 (-1)) 1024) 129 24 16) 129 28 6) 129 31 1) 129 32 3) 129 33 8) 129 35 20) 129 71 (-2)) 129 72 (-2)) 159 0 (-2)) 159 1 (-2)) 214 0 26) 214 1 207) 214 2 252) 214 3 29) 129 146 (-2)) 512) := rfl
