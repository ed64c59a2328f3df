/-! ===== the makers: the noise of both, the memory's zeroes ===== -/
def nsL : List Nat := [255, 72, 14, 192, 154, 13, 112, 188, 142, 44, 147, 173, 167, 183, 70, 206, 90, 151, 125, 204, 50, 162, 191, 62, 10, 16, 241, 136, 148, 205, 234, 177, 254, 144, 29, 129, 52, 26, 225, 121, 28, 89, 39, 91, 79, 110, 141, 156, 181, 46, 251, 152, 101, 69, 126, 124, 20, 33, 227, 17, 41, 155, 213, 99]
def nsF (i : Nat) : Nat := (nsL ++ [253]).getD i 0
def it1 (x : Int32) : Int32 := (((x <<< (1 &&& 31)) ||| ((((x ^^^ (x >>> (2 &&& 31))) ^^^ (x >>> (4 &&& 31))) ^^^ (x >>> (7 &&& 31))) &&& 1)) &&& 255)
def itN : Nat → Int32 → Int32
  | 0, x => x
  | k + 1, x => itN k (it1 x)
theorem it8 : ∀ i, i < 64 → itN 8 (nI (nsF i)) = nI (nsF (i + 1)) := by decide +kernel
theorem nsL_lt : ∀ b, b ∈ nsL → b < 256 := by decide
def nzM (μ : Mem) : Nat → Mem
  | 0 => μ
  | i + 1 => setI (nzM μ i) 27 i (nI (nsF i)).toInt8.toInt32
theorem nzM_Z {R : Rf} {μ : Mem} (hz : Zr 28 R μ) : ∀ i, Zr 28 R (nzM μ i)
  | 0 => hz
  | i + 1 => (nzM_Z hz i).sI (by decide)
theorem y0_30 : decode (gb 0) 30 = .ok (.iload_n 1, 1) := by decide +kernel
theorem y0_31 : decode (gb 0) 31 = .ok (.iload_n 1, 1) := by decide +kernel
theorem y0_32 : decode (gb 0) 32 = .ok (.iconst 2, 1) := by decide +kernel
theorem y0_33 : decode (gb 0) 33 = .ok (.ishr, 1) := by decide +kernel
theorem y0_34 : decode (gb 0) 34 = .ok (.ixor, 1) := by decide +kernel
theorem y0_35 : decode (gb 0) 35 = .ok (.iload_n 1, 1) := by decide +kernel
theorem y0_36 : decode (gb 0) 36 = .ok (.iconst 4, 1) := by decide +kernel
theorem y0_37 : decode (gb 0) 37 = .ok (.ishr, 1) := by decide +kernel
theorem y0_38 : decode (gb 0) 38 = .ok (.ixor, 1) := by decide +kernel
theorem y0_39 : decode (gb 0) 39 = .ok (.iload_n 1, 1) := by decide +kernel
theorem y0_40 : decode (gb 0) 40 = .ok (.bipush 7, 2) := by decide +kernel
theorem y0_42 : decode (gb 0) 42 = .ok (.ishr, 1) := by decide +kernel
theorem y0_43 : decode (gb 0) 43 = .ok (.ixor, 1) := by decide +kernel
theorem y0_44 : decode (gb 0) 44 = .ok (.iconst 1, 1) := by decide +kernel
theorem y0_45 : decode (gb 0) 45 = .ok (.iand, 1) := by decide +kernel
theorem y0_46 : decode (gb 0) 46 = .ok (.istore 4, 2) := by decide +kernel
theorem y0_48 : decode (gb 0) 48 = .ok (.iload_n 1, 1) := by decide +kernel
theorem y0_49 : decode (gb 0) 49 = .ok (.iconst 1, 1) := by decide +kernel
theorem y0_50 : decode (gb 0) 50 = .ok (.ishl, 1) := by decide +kernel
theorem y0_51 : decode (gb 0) 51 = .ok (.iload 4, 2) := by decide +kernel
theorem y0_53 : decode (gb 0) 53 = .ok (.ior, 1) := by decide +kernel
theorem y0_54 : decode (gb 0) 54 = .ok (.sipush 255, 3) := by decide +kernel
theorem y0_57 : decode (gb 0) 57 = .ok (.iand, 1) := by decide +kernel
theorem y0_58 : decode (gb 0) 58 = .ok (.istore_n 1, 1) := by decide +kernel
theorem y0_24 : decode (gb 0) 24 = .ok (.iload_n 3, 1) := by decide +kernel
theorem y0_25 : decode (gb 0) 25 = .ok (.bipush 8, 2) := by decide +kernel
theorem y0_27 : decode (gb 0) 27 = .ok (.if_icmp .ge 38, 3) := by decide +kernel
theorem y0_59 : decode (gb 0) 59 = .ok (.iinc 3 1, 3) := by decide +kernel
theorem y0_62 : decode (gb 0) 62 = .ok (.goto (-38), 3) := by decide +kernel
theorem y0_11 : decode (gb 0) 11 = .ok (.iload_n 2, 1) := by decide +kernel
theorem y0_12 : decode (gb 0) 12 = .ok (.aload_n 0, 1) := by decide +kernel
theorem y0_13 : decode (gb 0) 13 = .ok (.arraylength, 1) := by decide +kernel
theorem y0_14 : decode (gb 0) 14 = .ok (.if_icmp .ge 57, 3) := by decide +kernel
theorem y0_71 : decode (gb 0) 71 = .ok (.aload_n 0, 1) := by decide +kernel
theorem y0_72 : decode (gb 0) 72 = .ok (.areturn, 1) := by decide +kernel
theorem y0_17 : decode (gb 0) 17 = .ok (.aload_n 0, 1) := by decide +kernel
theorem y0_18 : decode (gb 0) 18 = .ok (.iload_n 2, 1) := by decide +kernel
theorem y0_19 : decode (gb 0) 19 = .ok (.iload_n 1, 1) := by decide +kernel
theorem y0_20 : decode (gb 0) 20 = .ok (.i2b, 1) := by decide +kernel
theorem y0_21 : decode (gb 0) 21 = .ok (.bastore, 1) := by decide +kernel
theorem y0_22 : decode (gb 0) 22 = .ok (.iconst 0, 1) := by decide +kernel
theorem y0_23 : decode (gb 0) 23 = .ok (.istore_n 3, 1) := by decide +kernel
theorem y0_65 : decode (gb 0) 65 = .ok (.iinc 2 1, 3) := by decide +kernel
theorem y0_68 : decode (gb 0) 68 = .ok (.goto (-57), 3) := by decide +kernel
theorem y0_0 : decode (gb 0) 0 = .ok (.bipush 64, 2) := by decide +kernel
theorem y0_2 : decode (gb 0) 2 = .ok (.newarray .byte, 2) := by decide +kernel
theorem y0_4 : decode (gb 0) 4 = .ok (.astore_n 0, 1) := by decide +kernel
theorem y0_5 : decode (gb 0) 5 = .ok (.sipush 255, 3) := by decide +kernel
theorem y0_8 : decode (gb 0) 8 = .ok (.istore_n 1, 1) := by decide +kernel
theorem y0_9 : decode (gb 0) 9 = .ok (.iconst 0, 1) := by decide +kernel
theorem y0_10 : decode (gb 0) 10 = .ok (.istore_n 2, 1) := by decide +kernel
theorem yf_2_19 : (2 * 1000 + 19, 1, 1, 219) ∈ gFL := by decide +kernel
theorem yf_2_13 : (2 * 1000 + 13, 1, 0, 214) ∈ gFL := by decide +kernel
theorem yn_65_1_1 : gFin 65 1 1 := by decide +kernel
theorem yo_65 : gown 65 = 2 := by decide +kernel
theorem y65_0 : decode (gb 65) 0 = .ok (.aload_n 0, 1) := by decide +kernel
theorem y65_1 : decode (gb 65) 1 = .ok (.getfield 19, 3) := by decide +kernel
theorem y65_4 : decode (gb 65) 4 = .ok (.aload_n 0, 1) := by decide +kernel
theorem y65_5 : decode (gb 65) 5 = .ok (.getfield 13, 3) := by decide +kernel
theorem y65_8 : decode (gb 65) 8 = .ok (.arraylength, 1) := by decide +kernel
theorem y65_9 : decode (gb 65) 9 = .ok (.if_icmp .ge 24, 3) := by decide +kernel
theorem y65_12 : decode (gb 65) 12 = .ok (.aload_n 0, 1) := by decide +kernel
theorem y65_13 : decode (gb 65) 13 = .ok (.getfield 13, 3) := by decide +kernel
theorem y65_16 : decode (gb 65) 16 = .ok (.aload_n 0, 1) := by decide +kernel
theorem y65_17 : decode (gb 65) 17 = .ok (.getfield 19, 3) := by decide +kernel
theorem y65_20 : decode (gb 65) 20 = .ok (.iload_n 1, 1) := by decide +kernel
theorem y65_21 : decode (gb 65) 21 = .ok (.i2b, 1) := by decide +kernel
theorem y65_22 : decode (gb 65) 22 = .ok (.bastore, 1) := by decide +kernel
theorem y65_23 : decode (gb 65) 23 = .ok (.aload_n 0, 1) := by decide +kernel
theorem y65_24 : decode (gb 65) 24 = .ok (.dup, 1) := by decide +kernel
theorem y65_25 : decode (gb 65) 25 = .ok (.getfield 19, 3) := by decide +kernel
theorem y65_28 : decode (gb 65) 28 = .ok (.iconst 1, 1) := by decide +kernel
theorem y65_29 : decode (gb 65) 29 = .ok (.iadd, 1) := by decide +kernel
theorem y65_30 : decode (gb 65) 30 = .ok (.putfield 19, 3) := by decide +kernel
theorem y65_33 : decode (gb 65) 33 = .ok (.return_, 1) := by decide +kernel
theorem yr_65 : grt 65 = none := by decide +kernel
theorem yl_2_23 : (2 * 1000 + 23, 1, 65, 1, 1, 694, 695, 696, 181) ∈ gCL := by decide +kernel
theorem yc_65 : gmc 65 = 0 := by decide +kernel
theorem ys_65 : gms 65 = 0 := by decide +kernel
theorem y69_2 : decode (gb 69) 2 = .ok (.iload_n 3, 1) := by decide +kernel
theorem y69_3 : decode (gb 69) 3 = .ok (.iload_n 2, 1) := by decide +kernel
theorem y69_4 : decode (gb 69) 4 = .ok (.if_icmp .ge 14, 3) := by decide +kernel
theorem y69_18 : decode (gb 69) 18 = .ok (.return_, 1) := by decide +kernel
theorem yr_69 : grt 69 = none := by decide +kernel
theorem y69_7 : decode (gb 69) 7 = .ok (.aload_n 0, 1) := by decide +kernel
theorem y69_8 : decode (gb 69) 8 = .ok (.iload_n 1, 1) := by decide +kernel
theorem y69_9 : decode (gb 69) 9 = .ok (.invokevirtual 23, 3) := by decide +kernel
theorem yo_69 : gown 69 = 2 := by decide +kernel
theorem y69_12 : decode (gb 69) 12 = .ok (.iinc 3 1, 3) := by decide +kernel
theorem y69_15 : decode (gb 69) 15 = .ok (.goto (-13), 3) := by decide +kernel
theorem y69_0 : decode (gb 69) 0 = .ok (.iconst 0, 1) := by decide +kernel
theorem y69_1 : decode (gb 69) 1 = .ok (.istore_n 3, 1) := by decide +kernel
theorem yf_12_328 : (12 * 1000 + 328, 11, 73, 2377) ∈ gFL := by decide +kernel
theorem yo_298 : gown 298 = 12 := by decide +kernel
theorem y298_8 : decode (gb 298) 8 = .ok (.iload_n 2, 1) := by decide +kernel
theorem y298_9 : decode (gb 298) 9 = .ok (.sipush 512, 3) := by decide +kernel
theorem y298_12 : decode (gb 298) 12 = .ok (.if_icmp .ge 69, 3) := by decide +kernel
theorem y298_81 : decode (gb 298) 81 = .ok (.return_, 1) := by decide +kernel
theorem y298_51 : decode (gb 298) 51 = .ok (.iastore, 1) := by decide +kernel
theorem y298_52 : decode (gb 298) 52 = .ok (.aload_n 0, 1) := by decide +kernel
theorem y298_53 : decode (gb 298) 53 = .ok (.getfield 328, 3) := by decide +kernel
theorem y298_56 : decode (gb 298) 56 = .ok (.iload_n 2, 1) := by decide +kernel
theorem y298_57 : decode (gb 298) 57 = .ok (.bipush 8, 2) := by decide +kernel
theorem y298_59 : decode (gb 298) 59 = .ok (.idiv, 1) := by decide +kernel
theorem y298_60 : decode (gb 298) 60 = .ok (.dup2, 1) := by decide +kernel
theorem y298_61 : decode (gb 298) 61 = .ok (.iaload, 1) := by decide +kernel
theorem y298_62 : decode (gb 298) 62 = .ok (.aload_n 1, 1) := by decide +kernel
theorem y298_63 : decode (gb 298) 63 = .ok (.iload_n 2, 1) := by decide +kernel
theorem y298_64 : decode (gb 298) 64 = .ok (.iaload, 1) := by decide +kernel
theorem y298_65 : decode (gb 298) 65 = .ok (.bipush 7, 2) := by decide +kernel
theorem y298_67 : decode (gb 298) 67 = .ok (.iload_n 2, 1) := by decide +kernel
theorem y298_68 : decode (gb 298) 68 = .ok (.bipush 8, 2) := by decide +kernel
theorem y298_70 : decode (gb 298) 70 = .ok (.irem, 1) := by decide +kernel
theorem y298_71 : decode (gb 298) 71 = .ok (.isub, 1) := by decide +kernel
theorem y298_72 : decode (gb 298) 72 = .ok (.ishl, 1) := by decide +kernel
theorem y298_73 : decode (gb 298) 73 = .ok (.ior, 1) := by decide +kernel
theorem y298_74 : decode (gb 298) 74 = .ok (.iastore, 1) := by decide +kernel
theorem y298_75 : decode (gb 298) 75 = .ok (.iinc 2 1, 3) := by decide +kernel
theorem y298_78 : decode (gb 298) 78 = .ok (.goto (-70), 3) := by decide +kernel
theorem y298_15 : decode (gb 298) 15 = .ok (.aload_n 1, 1) := by decide +kernel
theorem y298_16 : decode (gb 298) 16 = .ok (.iload_n 2, 1) := by decide +kernel
theorem y298_17 : decode (gb 298) 17 = .ok (.iload_n 2, 1) := by decide +kernel
theorem y298_18 : decode (gb 298) 18 = .ok (.bipush 8, 2) := by decide +kernel
theorem y298_20 : decode (gb 298) 20 = .ok (.if_icmp .ge 7, 3) := by decide +kernel
theorem y298_27 : decode (gb 298) 27 = .ok (.aload_n 1, 1) := by decide +kernel
theorem y298_28 : decode (gb 298) 28 = .ok (.iload_n 2, 1) := by decide +kernel
theorem y298_29 : decode (gb 298) 29 = .ok (.iconst 1, 1) := by decide +kernel
theorem y298_30 : decode (gb 298) 30 = .ok (.isub, 1) := by decide +kernel
theorem y298_31 : decode (gb 298) 31 = .ok (.iaload, 1) := by decide +kernel
theorem y298_32 : decode (gb 298) 32 = .ok (.aload_n 1, 1) := by decide +kernel
theorem y298_33 : decode (gb 298) 33 = .ok (.iload_n 2, 1) := by decide +kernel
theorem y298_34 : decode (gb 298) 34 = .ok (.iconst 3, 1) := by decide +kernel
theorem y298_35 : decode (gb 298) 35 = .ok (.isub, 1) := by decide +kernel
theorem y298_36 : decode (gb 298) 36 = .ok (.iaload, 1) := by decide +kernel
theorem y298_37 : decode (gb 298) 37 = .ok (.ixor, 1) := by decide +kernel
theorem y298_38 : decode (gb 298) 38 = .ok (.aload_n 1, 1) := by decide +kernel
theorem y298_39 : decode (gb 298) 39 = .ok (.iload_n 2, 1) := by decide +kernel
theorem y298_40 : decode (gb 298) 40 = .ok (.iconst 5, 1) := by decide +kernel
theorem y298_41 : decode (gb 298) 41 = .ok (.isub, 1) := by decide +kernel
theorem y298_42 : decode (gb 298) 42 = .ok (.iaload, 1) := by decide +kernel
theorem y298_43 : decode (gb 298) 43 = .ok (.ixor, 1) := by decide +kernel
theorem y298_44 : decode (gb 298) 44 = .ok (.aload_n 1, 1) := by decide +kernel
theorem y298_45 : decode (gb 298) 45 = .ok (.iload_n 2, 1) := by decide +kernel
theorem y298_46 : decode (gb 298) 46 = .ok (.bipush 8, 2) := by decide +kernel
theorem y298_48 : decode (gb 298) 48 = .ok (.isub, 1) := by decide +kernel
theorem y298_49 : decode (gb 298) 49 = .ok (.iaload, 1) := by decide +kernel
theorem y298_50 : decode (gb 298) 50 = .ok (.ixor, 1) := by decide +kernel
theorem y298_23 : decode (gb 298) 23 = .ok (.iconst 1, 1) := by decide +kernel
theorem y298_24 : decode (gb 298) 24 = .ok (.goto 27, 3) := by decide +kernel
theorem y298_0 : decode (gb 298) 0 = .ok (.sipush 512, 3) := by decide +kernel
theorem y298_3 : decode (gb 298) 3 = .ok (.newarray .int, 2) := by decide +kernel
theorem y298_5 : decode (gb 298) 5 = .ok (.astore_n 1, 1) := by decide +kernel
theorem y298_6 : decode (gb 298) 6 = .ok (.iconst 0, 1) := by decide +kernel
theorem y298_7 : decode (gb 298) 7 = .ok (.istore_n 2, 1) := by decide +kernel
theorem yr_298 : grt 298 = none := by decide +kernel
theorem nltz {j : Nat} (h : j < 2 ^ 31) : ¬ nI j < (0 : Int32) := fun z => by have := (nI_ltI (b := 0) h (by omega)).mp z; omega
theorem b8_b8 (x : Int32) : x.toInt8.toInt32.toInt8.toInt32 = x.toInt8.toInt32 := by
  rw [Int8.toInt8_toInt32]
theorem nz_in {i : Int32} {G : gM} {r : gM × Option Value} : ∀ (k j : Nat) (x : Int32), k + j = 8 → Sx 0 65 [(0, .ref 27), (1, .int (itN k x)), (2, .int i), (3, .int (nI 8))] [] 1 64 G r → Sx 0 24 [(0, .ref 27), (1, .int x), (2, .int i), (3, .int (nI j))] [] 1 64 G r
  | 0, j, x, h, hk => by
    refine sx_iload_n (i := 3) y0_24 rfl rfl ?_
    refine sx_bipush (v := 8) y0_25 (by decide) ?_
    rw [show j = 8 by omega]
    exact sx_icmp_ge (tgt := 65) y0_27 (by decide) (fun _ => hk) (fun q => absurd (show (8 : Int32) ≤ nI 8 by decide) q)
  | k + 1, j, x, h, hk => by
    have hj : ¬ (8 : Int32) ≤ nI j := fun z => by have := (nI_leI (a := 8) (by omega) (by omega)).mp z; omega
    refine sx_iload_n (i := 3) y0_24 rfl rfl ?_
    refine sx_bipush (v := 8) y0_25 (by decide) ?_
    refine sx_icmp_ge (tgt := 65) y0_27 (by decide) (fun q => absurd q hj) (fun _ => ?_)
    refine sx_iload_n (i := 1) y0_30 rfl rfl ?_
    refine sx_iload_n (i := 1) y0_31 rfl rfl ?_
    refine sx_iconst (v := 2) y0_32 (by decide) ?_
    refine sx_ishr y0_33 ?_
    refine sx_ixor y0_34 ?_
    refine sx_iload_n (i := 1) y0_35 rfl rfl ?_
    refine sx_iconst (v := 4) y0_36 (by decide) ?_
    refine sx_ishr y0_37 ?_
    refine sx_ixor y0_38 ?_
    refine sx_iload_n (i := 1) y0_39 rfl rfl ?_
    refine sx_bipush (v := 7) y0_40 (by decide) ?_
    refine sx_ishr y0_42 ?_
    refine sx_ixor y0_43 ?_
    refine sx_iconst (v := 1) y0_44 (by decide) ?_
    refine sx_iand y0_45 ?_
    refine y_istore (lo2 := [(4, .int ((((x ^^^ (x >>> (2 &&& 31))) ^^^ (x >>> (4 &&& 31))) ^^^ (x >>> (7 &&& 31))) &&& 1)), (0, .ref 27), (1, .int x), (2, .int i), (3, .int (nI j))]) y0_46 (by decide +kernel) rfl ?_
    refine sx_iload_n (i := 1) y0_48 rfl rfl ?_
    refine sx_iconst (v := 1) y0_49 (by decide) ?_
    refine sx_ishl y0_50 ?_
    refine sx_iload (i := 4) y0_51 rfl ?_
    refine sx_ior y0_53 ?_
    refine sx_sipush (v := 255) y0_54 (by decide) ?_
    refine sx_iand y0_57 ?_
    refine y_istore_n (lo2 := [(1, .int (((x <<< (1 &&& 31)) ||| ((((x ^^^ (x >>> (2 &&& 31))) ^^^ (x >>> (4 &&& 31))) ^^^ (x >>> (7 &&& 31))) &&& 1)) &&& 255)), (4, .int ((((x ^^^ (x >>> (2 &&& 31))) ^^^ (x >>> (4 &&& 31))) ^^^ (x >>> (7 &&& 31))) &&& 1)), (0, .ref 27), (2, .int i), (3, .int (nI j))]) y0_58 rfl (by decide +kernel) rfl ?_
    refine y_iinc (v := nI (j + 1)) (lo2 := [(3, .int (nI (j + 1))), (1, .int (it1 x)), (4, .int ((((x ^^^ (x >>> (2 &&& 31))) ^^^ (x >>> (4 &&& 31))) ^^^ (x >>> (7 &&& 31))) &&& 1)), (0, .ref 27), (2, .int i)]) y0_59 rfl (by rw [show Int32.ofInt 1 = nI 1 by decide, nI_add]) (by decide +kernel) rfl ?_
    refine sx_goto (tgt := 24) y0_62 (by decide) ?_
    refine sx_pick (lo2 := [(0, .ref 27), (1, .int (it1 x)), (2, .int i), (3, .int (nI (j + 1)))]) [3, 1, 4, 0] rfl ?_
    exact nz_in k (j + 1) (it1 x) (by omega) hk
theorem nz_out {L : Nat} {R : Rf} {μ : Mem} (hz : Zr 28 R μ) : ∀ k i, k + i = 64 → Sx 0 11 [(0, .ref 27), (1, .int (nI (nsF i))), (2, .int (nI i))] [] 1 64 (pm L 28 R (nzM μ i)) (pm L 28 R (nzM μ 64), some (.ref 27))
  | 0, i, h => by
    rw [show i = 64 by omega]
    refine sx_iload_n (i := 2) y0_11 rfl rfl ?_
    refine sx_aload_n (i := 0) y0_12 rfl rfl ?_
    refine p_alen (t := 1) (N := 64) (x := nI 64) y0_13 (by decide) (by decide) rfl (by decide) ?_
    refine sx_icmp_ge (tgt := 71) y0_14 (by decide) (fun _ => ?_) (fun q => absurd (show nI 64 ≤ nI 64 by decide) q)
    refine sx_aload_n (i := 0) y0_71 rfl rfl ?_
    exact sx_ret y0_72 (by decide +kernel) (by decide +kernel) (by decide +kernel)
  | k + 1, i, h => by
    have hi : ¬ nI 64 ≤ nI i := fun z => by have := (nI_leI (by omega) (by omega)).mp z; omega
    have hc : (nI i).toNatClampNeg = i := nI_clamp (by omega)
    refine sx_iload_n (i := 2) y0_11 rfl rfl ?_
    refine sx_aload_n (i := 0) y0_12 rfl rfl ?_
    refine p_alen (t := 1) (N := 64) (x := nI 64) y0_13 (by decide) (by decide) rfl (by decide) ?_
    refine sx_icmp_ge (tgt := 71) y0_14 (by decide) (fun q => absurd q hi) (fun _ => ?_)
    refine sx_aload_n (i := 0) y0_17 rfl rfl ?_
    refine sx_iload_n (i := 2) y0_18 rfl rfl ?_
    refine sx_iload_n (i := 1) y0_19 rfl rfl ?_
    refine sx_i2b y0_20 ?_
    refine p_bastore (k := i) (y := (nI (nsF i)).toInt8.toInt32) y0_21 (nzM_Z hz i) (by decide) rfl ⟨nltz (by omega), by rw [hc]; omega⟩ hc (b8_b8 _) (fun _ => ?_)
    refine sx_iconst (v := nI 0) y0_22 (by decide) ?_
    refine y_istore_n (lo2 := [(3, .int (nI 0)), (0, .ref 27), (1, .int (nI (nsF i))), (2, .int (nI i))]) y0_23 rfl (by decide +kernel) rfl ?_
    refine sx_pick (lo2 := [(0, .ref 27), (1, .int (nI (nsF i))), (2, .int (nI i)), (3, .int (nI 0))]) [1, 2, 3, 0] rfl ?_
    refine nz_in 8 0 _ rfl ?_
    rw [it8 i (by omega)]
    refine y_iinc (v := nI (i + 1)) (lo2 := [(2, .int (nI (i + 1))), (0, .ref 27), (1, .int (nI (nsF (i + 1)))), (3, .int (nI 8))]) y0_65 rfl (by rw [show Int32.ofInt 1 = nI 1 by decide, nI_add]) (by decide +kernel) rfl ?_
    refine sx_goto (tgt := 11) y0_68 (by decide) ?_
    refine sx_pick (lo2 := [(0, .ref 27), (1, .int (nI (nsF (i + 1)))), (2, .int (nI (i + 1)))]) [1, 2, 0] rfl ?_
    exact nz_out hz k (i + 1) (by omega)
theorem noise_p {L : Nat} {R : Rf} {μ : Mem} (hz : Zr 27 R μ) : Mx 0 [] (pm L 27 R μ) (pm L 28 R (nzM μ 64), some (.ref 27)) := by
  refine Mx_of (gML_all 0 (by decide) (by decide) (by decide)) (by decide +kernel) ?_
  show Sx 0 0 [] [] 0 0 (pm L 27 R μ) _
  refine sx_bipush (v := 64) y0_0 (by decide) ?_
  refine p_newarr (N := 64) (nc2 := 1) (ns2 := 64) y0_2 (Or.inr (Or.inl ⟨rfl, rfl⟩)) (by decide) (by decide) (by decide) hz (by decide) rfl rfl rfl (by decide +kernel) (by decide +kernel) (fun hz => ?_)
  refine y_astore_n (lo2 := [(0, .ref 27)]) y0_4 rfl (by decide +kernel) rfl ?_
  refine sx_sipush (v := nI (nsF 0)) y0_5 (by decide) ?_
  refine y_istore_n (lo2 := [(1, .int (nI (nsF 0))), (0, .ref 27)]) y0_8 rfl (by decide +kernel) rfl ?_
  refine sx_iconst (v := nI 0) y0_9 (by decide) ?_
  refine y_istore_n (lo2 := [(2, .int (nI 0)), (1, .int (nI (nsF 0))), (0, .ref 27)]) y0_10 rfl (by decide +kernel) rfl ?_
  refine sx_pick (lo2 := [(0, .ref 27), (1, .int (nI (nsF 0))), (2, .int (nI 0))]) [2, 1, 0] rfl ?_
  exact nz_out hz 64 0 rfl
theorem noise_at {μ : Mem} : ∀ n j, (nzM μ n).1 27 j = if j < n then (nI (nsF j)).toInt8.toInt32 else μ.1 27 j
  | 0, j => by rw [if_neg (by omega)]; rfl
  | n + 1, j => by
    show (setI (nzM μ n) 27 n (nI (nsF n)).toInt8.toInt32).1 27 j = _
    rw [rdI]
    by_cases q : j = n
    · rw [if_pos ⟨rfl, q⟩, if_pos (by omega), q]
    · rw [if_neg (fun z => q z.2), noise_at n j]
      by_cases q2 : j < n
      · rw [if_pos q2, if_pos (by omega)]
      · rw [if_neg q2, if_neg (by omega)]
theorem noise_o {μ : Mem} {c k : Nat} (h : c ≠ 27) : ∀ n, (nzM μ n).1 c k = μ.1 c k
  | 0 => rfl
  | n + 1 => by
    show (setI (nzM μ n) 27 n (nI (nsF n)).toInt8.toInt32).1 c k = _
    rw [rdI, if_neg (fun z => h z.1), noise_o h n]
theorem noise_2 {μ : Mem} : ∀ n, (nzM μ n).2 = μ.2
  | 0 => rfl
  | n + 1 => noise_2 n
theorem put_p {L i : Nat} {R : Rf} {μ : Mem} (hz : Zr 129 R μ) (hR : R 127 0 = some 128) (h1 : μ.1 127 1 = nI i) (hi : i < 1024) : Mx 65 [.ref 127, .int 0] (pm L 129 R μ) (pm L 129 R (setI (setI μ 128 i 0) 127 1 (nI (i + 1))), none) := by
  have hc : (nI i).toNatClampNeg = i := nI_clamp (by omega)
  have hl : ¬ nI 1024 ≤ nI i := fun z => by have := (nI_leI (by omega) (by omega)).mp z; omega
  have h2 : (setI μ 128 i 0).1 127 1 = nI i := by rw [rdI, if_neg (by omega)]; exact h1
  refine Mx_of (gML_all 65 (by decide) (by decide) (by decide)) (by decide +kernel) ?_
  show Sx 65 0 [(0, .ref 127), (1, .int 0)] [] 0 0 (pm L 129 R μ) _
  refine sx_aload_n (i := 0) y65_0 rfl rfl ?_
  refine p_getI (k := 1) (x := nI i) y65_1 yo_65 yf_2_19 (by decide) (by decide) rfl rfl h1 ?_
  refine sx_aload_n (i := 0) y65_4 rfl rfl ?_
  refine p_getR (k := 0) (b := 128) y65_5 yo_65 yf_2_13 (by decide) (by decide) rfl (Or.inr ⟨_, rfl⟩) hR ?_
  refine p_alen (t := 1) (N := 1024) (x := nI 1024) y65_8 (by decide) (by decide) rfl (by decide) ?_
  refine sx_icmp_ge (tgt := 33) y65_9 (by decide) (fun q => absurd q hl) (fun _ => ?_)
  refine sx_aload_n (i := 0) y65_12 rfl rfl ?_
  refine p_getR (k := 0) (b := 128) y65_13 yo_65 yf_2_13 (by decide) (by decide) rfl (Or.inr ⟨_, rfl⟩) hR ?_
  refine sx_aload_n (i := 0) y65_16 rfl rfl ?_
  refine p_getI (k := 1) (x := nI i) y65_17 yo_65 yf_2_19 (by decide) (by decide) rfl rfl h1 ?_
  refine sx_iload_n (i := 1) y65_20 rfl rfl ?_
  refine sx_i2b y65_21 ?_
  refine p_bastore (k := i) (y := 0) y65_22 hz (by decide) rfl ⟨nltz (by omega), by rw [hc]; omega⟩ hc (by decide) (fun hz => ?_)
  refine sx_aload_n (i := 0) y65_23 rfl rfl ?_
  refine sx_dup y65_24 rfl ?_
  refine p_getI (k := 1) (x := nI i) y65_25 yo_65 yf_2_19 (by decide) (by decide) rfl rfl h2 ?_
  refine sx_iconst (v := nI 1) y65_28 (by decide) ?_
  refine sx_iadd y65_29 ?_
  refine p_putI (k := 1) (y := nI (i + 1)) y65_30 yo_65 yf_2_19 (by decide) hz (by decide) rfl yn_65_1_1 rfl (nI_add _ _) (fun hz => ?_)
  exact p_ret y65_33 yr_65 (by decide +kernel) (by decide +kernel)
def zoM (μ : Mem) : Nat → Mem
  | 0 => μ
  | i + 1 => setI (setI (zoM μ i) 128 i 0) 127 1 (nI (i + 1))
theorem zoM_Z {R : Rf} {μ : Mem} (hz : Zr 129 R μ) : ∀ i, Zr 129 R (zoM μ i)
  | 0 => hz
  | i + 1 => ((zoM_Z hz i).sI (by decide)).sI (by decide)
theorem zoM_1 {μ : Mem} (h : μ.1 127 1 = nI 0) : ∀ i, (zoM μ i).1 127 1 = nI i
  | 0 => h
  | i + 1 => by
    show (setI (setI (zoM μ i) 128 i 0) 127 1 (nI (i + 1))).1 127 1 = _
    rw [rdI, if_pos ⟨rfl, rfl⟩]
theorem zoM_128 {μ : Mem} (h : ∀ j, μ.1 128 j = 0) : ∀ i j, (zoM μ i).1 128 j = 0
  | 0, j => h j
  | i + 1, j => by
    show (setI (setI (zoM μ i) 128 i 0) 127 1 (nI (i + 1))).1 128 j = _
    rw [rdI, if_neg (by omega), rdI]
    by_cases q : j = i
    · rw [if_pos ⟨rfl, q⟩]
    · rw [if_neg (fun z => q z.2)]; exact zoM_128 h i j
theorem zoM_o {μ : Mem} {c k : Nat} (h1 : c ≠ 127 ∨ k ≠ 1) (h2 : c ≠ 128) : ∀ i, (zoM μ i).1 c k = μ.1 c k
  | 0 => rfl
  | i + 1 => by
    show (setI (setI (zoM μ i) 128 i 0) 127 1 (nI (i + 1))).1 c k = _
    rw [rdI, if_neg (by omega), rdI, if_neg (by omega), zoM_o h1 h2 i]
theorem zoM_2 {μ : Mem} : ∀ n, (zoM μ n).2 = μ.2
  | 0 => rfl
  | n + 1 => zoM_2 n
theorem many_l {L : Nat} {R : Rf} {μ : Mem} (hz : Zr 129 R μ) (hR : R 127 0 = some 128) (h1 : μ.1 127 1 = nI 0) : ∀ k i, k + i = 1024 → Sx 69 2 [(0, .ref 127), (1, .int 0), (2, .int (nI 1024)), (3, .int (nI i))] [] 0 0 (pm L 129 R (zoM μ i)) (pm L 129 R (zoM μ 1024), none)
  | 0, i, h => by
    rw [show i = 1024 by omega]
    refine sx_iload_n (i := 3) y69_2 rfl rfl ?_
    refine sx_iload_n (i := 2) y69_3 rfl rfl ?_
    refine sx_icmp_ge (tgt := 18) y69_4 (by decide) (fun _ => ?_) (fun q => absurd (show nI 1024 ≤ nI 1024 by decide) q)
    exact p_ret y69_18 yr_69 (by decide +kernel) (by decide +kernel)
  | k + 1, i, h => by
    have hi : ¬ nI 1024 ≤ nI i := fun z => by have := (nI_leI (by omega) (by omega)).mp z; omega
    refine sx_iload_n (i := 3) y69_2 rfl rfl ?_
    refine sx_iload_n (i := 2) y69_3 rfl rfl ?_
    refine sx_icmp_ge (tgt := 18) y69_4 (by decide) (fun q => absurd q hi) (fun _ => ?_)
    refine sx_aload_n (i := 0) y69_7 rfl rfl ?_
    refine sx_iload_n (i := 1) y69_8 rfl rfl ?_
    refine p_callV (vs := [.int 0]) (nc2 := 0) (ns2 := 0) y69_9 yo_69 yl_2_23 (by decide) (gML_all 65 (by decide) (by decide) (by decide)) gcw_65 (by decide) rfl (put_p (zoM_Z hz i) hR (zoM_1 h1 i) (by omega)) rfl rfl yc_65 ys_65 rfl ⟨by decide +kernel, by decide +kernel, by decide +kernel, by decide +kernel, by decide⟩ rfl rfl ?_
    refine y_iinc (v := nI (i + 1)) (lo2 := [(3, .int (nI (i + 1))), (0, .ref 127), (1, .int 0), (2, .int (nI 1024))]) y69_12 rfl (by rw [show Int32.ofInt 1 = nI 1 by decide, nI_add]) (by decide +kernel) rfl ?_
    refine sx_goto (tgt := 2) y69_15 (by decide) ?_
    refine sx_pick (lo2 := [(0, .ref 127), (1, .int 0), (2, .int (nI 1024)), (3, .int (nI (i + 1)))]) [1, 2, 3, 0] rfl ?_
    exact many_l hz hR h1 k (i + 1) (by omega)
theorem many_p {L : Nat} {R : Rf} {μ : Mem} (hz : Zr 129 R μ) (hR : R 127 0 = some 128) (h1 : μ.1 127 1 = nI 0) : Mx 69 [.ref 127, .int 0, .int 1024] (pm L 129 R μ) (pm L 129 R (zoM μ 1024), none) := by
  refine Mx_of (gML_all 69 (by decide) (by decide) (by decide)) (by decide +kernel) ?_
  show Sx 69 0 [(0, .ref 127), (1, .int 0), (2, .int (nI 1024))] [] 0 0 (pm L 129 R μ) _
  refine sx_iconst (v := nI 0) y69_0 (by decide) ?_
  refine y_istore_n (lo2 := [(3, .int (nI 0)), (0, .ref 127), (1, .int 0), (2, .int (nI 1024))]) y69_1 rfl (by decide +kernel) rfl ?_
  refine sx_pick (lo2 := [(0, .ref 127), (1, .int 0), (2, .int (nI 1024)), (3, .int (nI 0))]) [1, 2, 3, 0] rfl ?_
  exact many_l hz hR h1 1024 0 rfl
def zzB (i : Nat) : Nat := nsF (i / 8) / 2 ^ (7 - i % 8) % 2
def zzQ (i : Nat) : Nat := nsF (i / 8) / 2 ^ (7 - i % 8) * 2 ^ (7 - i % 8)
def zzV (i q : Nat) : Nat := if 8 * q + 8 ≤ i then nsF q else if 8 * q < i then zzQ (i - 1) else 0
def mnM (μ : Mem) : Nat → Mem
  | 0 => μ
  | i + 1 => setI (setI (mnM μ i) 221 i (nI (zzB i))) 158 (i / 8) (nI (zzQ i))
theorem zzB_1 : ∀ i, i < 8 → zzB i = 1 := by decide +kernel
theorem zzB_x : ∀ i, i < 512 → 8 ≤ i → ((nI (zzB (i - 1)) ^^^ nI (zzB (i - 3))) ^^^ nI (zzB (i - 5))) ^^^ nI (zzB (i - 8)) = nI (zzB i) := by decide +kernel
theorem zzQ_x : ∀ i, i < 512 → nI (zzV i (i / 8)) ||| (nI (zzB i) <<< (((7 : Int32) - (nI i - nI (i / 8) * 8)) &&& 31)) = nI (zzQ i) := by decide +kernel
theorem zzQ_7 : ∀ q, q < 64 → zzQ (8 * q + 7) = nsF q := by decide +kernel
theorem mnM_Z {R : Rf} {μ : Mem} (hz : Zr 222 R μ) : ∀ i, Zr 222 R (mnM μ i)
  | 0 => hz
  | i + 1 => ((mnM_Z hz i).sI (by decide)).sI (by decide)
theorem mnM_221 {μ : Mem} : ∀ i j, j < i → (mnM μ i).1 221 j = nI (zzB j)
  | 0, j, h => absurd h (Nat.not_lt_zero _)
  | i + 1, j, h => by
    show (setI (setI (mnM μ i) 221 i (nI (zzB i))) 158 (i / 8) (nI (zzQ i))).1 221 j = _
    rw [rdI, if_neg (by omega), rdI]
    by_cases q : j = i
    · rw [if_pos ⟨rfl, q⟩, q]
    · rw [if_neg (fun z => q z.2)]; exact mnM_221 i j (by omega)
theorem mnM_158 {μ : Mem} (h0 : ∀ j, μ.1 158 j = 0) : ∀ i q, i ≤ 512 → q < 64 → (mnM μ i).1 158 q = nI (zzV i q)
  | 0, q, _, _ => by
    unfold zzV
    rw [if_neg (by omega), if_neg (by omega)]
    exact h0 q
  | i + 1, q, hi, hq => by
    show (setI (setI (mnM μ i) 221 i (nI (zzB i))) 158 (i / 8) (nI (zzQ i))).1 158 q = _
    rw [rdI]
    by_cases e : q = i / 8
    · rw [if_pos ⟨rfl, e⟩]
      unfold zzV
      by_cases e2 : 8 * q + 8 ≤ i + 1
      · rw [if_pos e2, ← zzQ_7 q hq, show i = 8 * q + 7 by omega]
      · rw [if_neg e2, if_pos (by omega), Nat.add_sub_cancel]
    · rw [if_neg (fun z => e z.2), rdI, if_neg (by omega), mnM_158 h0 i q (by omega) hq]
      unfold zzV
      by_cases e2 : 8 * q + 8 ≤ i
      · rw [if_pos e2, if_pos (by omega)]
      · rw [if_neg e2, if_neg (by omega), if_neg (by omega), if_neg (by omega)]
theorem mnM_o {μ : Mem} {c k : Nat} (h1 : c ≠ 221) (h2 : c ≠ 158) : ∀ i, (mnM μ i).1 c k = μ.1 c k
  | 0 => rfl
  | i + 1 => by
    show (setI (setI (mnM μ i) 221 i (nI (zzB i))) 158 (i / 8) (nI (zzQ i))).1 c k = _
    rw [rdI, if_neg (fun z => h2 z.1), rdI, if_neg (fun z => h1 z.1), mnM_o h1 h2 i]
theorem mnM_2 {μ : Mem} : ∀ n, (mnM μ n).2 = μ.2
  | 0 => rfl
  | n + 1 => mnM_2 n
theorem d8 {i : Nat} (h : i < 512) : nI i / 8 = nI (i / 8) := by rw [i_8, pk_div (by omega) (by omega) (by omega)]
theorem mn_l {L : Nat} {R : Rf} {μ : Mem} (hz : Zr 222 R μ) (hR : R 129 73 = some 158) (h0 : ∀ j, μ.1 158 j = 0) : ∀ k i, k + i = 512 → Sx 298 8 [(0, .ref 129), (1, .ref 221), (2, .int (nI i))] [] 1 512 (pm L 222 R (mnM μ i)) (pm L 222 R (mnM μ 512), none)
  | 0, i, h => by
    rw [show i = 512 by omega]
    refine sx_iload_n (i := 2) y298_8 rfl rfl ?_
    refine sx_sipush (v := nI 512) y298_9 (by decide) ?_
    refine sx_icmp_ge (tgt := 81) y298_12 (by decide) (fun _ => ?_) (fun q => absurd (show nI 512 ≤ nI 512 by decide) q)
    exact p_ret y298_81 yr_298 (by decide +kernel) (by decide +kernel)
  | k + 1, i, h => by
    have hi5 : i < 512 := by omega
    have hi : ¬ nI 512 ≤ nI i := fun z => by have := (nI_leI (by omega) (by omega)).mp z; omega
    have hcl : ∀ j, j < 512 → (nI j).toNatClampNeg = j := fun j hj => nI_clamp (by omega)
    have hin : ∀ j N, j < N → N ≤ 512 → inb (nI j) N := fun j N hj hN => ⟨nltz (by omega), by rw [nI_clamp (by omega)]; exact hj⟩
    have rest : Sx 298 51 [(0, .ref 129), (1, .ref 221), (2, .int (nI i))] [.int (nI (zzB i)), .int (nI i), .ref 221] 1 512 (pm L 222 R (mnM μ i)) (pm L 222 R (mnM μ 512), none) := by
      have e1 : (setI (mnM μ i) 221 i (nI (zzB i))).1 158 (i / 8) = nI (zzV i (i / 8)) := by rw [rdI, if_neg (by omega), mnM_158 h0 i (i / 8) (by omega) (by omega)]
      have e2 : (setI (mnM μ i) 221 i (nI (zzB i))).1 221 i = nI (zzB i) := by rw [rdI, if_pos ⟨rfl, rfl⟩]
      refine p_iastore (k := i) (y := nI (zzB i)) y298_51 (mnM_Z hz i) (by decide) rfl (hin i 512 hi5 (by omega)) (hcl i hi5) rfl (fun hz2 => ?_)
      refine sx_aload_n (i := 0) y298_52 rfl rfl ?_
      refine p_getR (k := 73) (b := 158) y298_53 yo_298 yf_12_328 (by decide) (by decide) rfl (Or.inr ⟨_, rfl⟩) hR ?_
      refine sx_iload_n (i := 2) y298_56 rfl rfl ?_
      refine sx_bipush (v := 8) y298_57 (by decide) ?_
      refine sx_idiv y298_59 (by decide) ?_
      rw [d8 hi5]
      refine sx_dup2 y298_60 rfl rfl ?_
      refine p_iaload (k := i / 8) (x := nI (zzV i (i / 8))) y298_61 (by decide) rfl (hin (i / 8) 64 (by omega) (by omega)) (hcl _ (by omega)) e1 ?_
      refine sx_aload_n (i := 1) y298_62 rfl rfl ?_
      refine sx_iload_n (i := 2) y298_63 rfl rfl ?_
      refine p_iaload (k := i) (x := nI (zzB i)) y298_64 (by decide) rfl (hin i 512 hi5 (by omega)) (hcl i hi5) e2 ?_
      refine sx_bipush (v := 7) y298_65 (by decide) ?_
      refine sx_iload_n (i := 2) y298_67 rfl rfl ?_
      refine sx_bipush (v := 8) y298_68 (by decide) ?_
      refine sx_irem y298_70 (by decide) ?_
      refine sx_isub y298_71 ?_
      refine sx_ishl y298_72 ?_
      refine sx_ior y298_73 ?_
      rw [d8 hi5, zzQ_x i hi5]
      refine p_iastore (k := i / 8) (y := nI (zzQ i)) y298_74 hz2 (by decide) rfl (hin (i / 8) 64 (by omega) (by omega)) (hcl _ (by omega)) rfl (fun _ => ?_)
      refine y_iinc (v := nI (i + 1)) (lo2 := [(2, .int (nI (i + 1))), (0, .ref 129), (1, .ref 221)]) y298_75 rfl (by rw [show Int32.ofInt 1 = nI 1 by decide, nI_add]) (by decide +kernel) rfl ?_
      refine sx_goto (tgt := 8) y298_78 (by decide) ?_
      refine sx_pick (lo2 := [(0, .ref 129), (1, .ref 221), (2, .int (nI (i + 1)))]) [1, 2, 0] rfl ?_
      exact mn_l hz hR h0 k (i + 1) (by omega)
    refine sx_iload_n (i := 2) y298_8 rfl rfl ?_
    refine sx_sipush (v := nI 512) y298_9 (by decide) ?_
    refine sx_icmp_ge (tgt := 81) y298_12 (by decide) (fun q => absurd q hi) (fun _ => ?_)
    refine sx_aload_n (i := 1) y298_15 rfl rfl ?_
    refine sx_iload_n (i := 2) y298_16 rfl rfl ?_
    refine sx_iload_n (i := 2) y298_17 rfl rfl ?_
    refine sx_bipush (v := nI 8) y298_18 (by decide) ?_
    by_cases q8 : 8 ≤ i
    · refine sx_icmp_ge (tgt := 27) y298_20 (by decide) (fun _ => ?_) (fun q => absurd ((nI_leI (by omega) (by omega)).mpr q8) q)
      have ld : ∀ d, d ≤ 8 → 1 ≤ d → inb (nI i - nI d) 512 ∧ (nI i - nI d).toNatClampNeg = i - d ∧ (mnM μ i).1 221 (i - d) = nI (zzB (i - d)) := fun d hd hd1 => by
        rw [pk_sub (by omega)]
        exact ⟨hin (i - d) 512 (by omega) (by omega), hcl _ (by omega), mnM_221 i (i - d) (by omega)⟩
      refine sx_aload_n (i := 1) y298_27 rfl rfl ?_
      refine sx_iload_n (i := 2) y298_28 rfl rfl ?_
      refine sx_iconst (v := nI 1) y298_29 (by decide) ?_
      refine sx_isub y298_30 ?_
      refine p_iaload (k := i - 1) (x := nI (zzB (i - 1))) y298_31 (by decide) rfl (ld 1 (by omega) (by omega)).1 (ld 1 (by omega) (by omega)).2.1 (ld 1 (by omega) (by omega)).2.2 ?_
      refine sx_aload_n (i := 1) y298_32 rfl rfl ?_
      refine sx_iload_n (i := 2) y298_33 rfl rfl ?_
      refine sx_iconst (v := nI 3) y298_34 (by decide) ?_
      refine sx_isub y298_35 ?_
      refine p_iaload (k := i - 3) (x := nI (zzB (i - 3))) y298_36 (by decide) rfl (ld 3 (by omega) (by omega)).1 (ld 3 (by omega) (by omega)).2.1 (ld 3 (by omega) (by omega)).2.2 ?_
      refine sx_ixor y298_37 ?_
      refine sx_aload_n (i := 1) y298_38 rfl rfl ?_
      refine sx_iload_n (i := 2) y298_39 rfl rfl ?_
      refine sx_iconst (v := nI 5) y298_40 (by decide) ?_
      refine sx_isub y298_41 ?_
      refine p_iaload (k := i - 5) (x := nI (zzB (i - 5))) y298_42 (by decide) rfl (ld 5 (by omega) (by omega)).1 (ld 5 (by omega) (by omega)).2.1 (ld 5 (by omega) (by omega)).2.2 ?_
      refine sx_ixor y298_43 ?_
      refine sx_aload_n (i := 1) y298_44 rfl rfl ?_
      refine sx_iload_n (i := 2) y298_45 rfl rfl ?_
      refine sx_bipush (v := nI 8) y298_46 (by decide) ?_
      refine sx_isub y298_48 ?_
      refine p_iaload (k := i - 8) (x := nI (zzB (i - 8))) y298_49 (by decide) rfl (ld 8 (by omega) (by omega)).1 (ld 8 (by omega) (by omega)).2.1 (ld 8 (by omega) (by omega)).2.2 ?_
      refine sx_ixor y298_50 ?_
      rw [zzB_x i hi5 q8]
      exact rest
    · refine sx_icmp_ge (tgt := 27) y298_20 (by decide) (fun q => absurd ((nI_leI (by omega) (by omega)).mp q) q8) (fun _ => ?_)
      refine sx_iconst (v := nI (zzB i)) y298_23 (by rw [zzB_1 i (by omega)]; decide) ?_
      refine sx_goto (tgt := 51) y298_24 (by decide) ?_
      exact rest
theorem mn_p {L : Nat} {R : Rf} {μ : Mem} (hz : Zr 221 R μ) (hR : R 129 73 = some 158) (h0 : ∀ j, μ.1 158 j = 0) : Mx 298 [.ref 129] (pm L 221 R μ) (pm L 222 R (mnM μ 512), none) := by
  refine Mx_of (gML_all 298 (by decide) (by decide) (by decide)) (by decide +kernel) ?_
  show Sx 298 0 [(0, .ref 129)] [] 0 0 (pm L 221 R μ) _
  refine sx_sipush (v := 512) y298_0 (by decide) ?_
  refine p_newarr (N := 512) (nc2 := 1) (ns2 := 512) y298_3 (Or.inl ⟨rfl, rfl⟩) (by decide) (by decide) (by decide) hz (by decide) rfl rfl rfl (by decide +kernel) (by decide +kernel) (fun hz => ?_)
  refine y_astore_n (lo2 := [(1, .ref 221), (0, .ref 129)]) y298_5 rfl (by decide +kernel) rfl ?_
  refine sx_iconst (v := nI 0) y298_6 (by decide) ?_
  refine y_istore_n (lo2 := [(2, .int (nI 0)), (1, .ref 221), (0, .ref 129)]) y298_7 rfl (by decide +kernel) rfl ?_
  refine sx_pick (lo2 := [(0, .ref 129), (1, .ref 221), (2, .int (nI 0))]) [2, 1, 0] rfl ?_
  exact mn_l hz hR h0 512 0 rfl
