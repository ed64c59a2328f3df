theorem k108_0 : decode (gb 108) 0 = .ok (.iload_n 1, 1) := by decide +kernel
theorem k108_1 : decode (gb 108) 1 = .ok (.ifCond .lt 32, 3) := by decide +kernel
theorem k108_4 : decode (gb 108) 4 = .ok (.iload_n 1, 1) := by decide +kernel
theorem k108_5 : decode (gb 108) 5 = .ok (.aload_n 0, 1) := by decide +kernel
theorem k108_6 : decode (gb 108) 6 = .ok (.getfield 23, 3) := by decide +kernel
theorem k108_9 : decode (gb 108) 9 = .ok (.if_icmp .ge 24, 3) := by decide +kernel
theorem k108_12 : decode (gb 108) 12 = .ok (.aload_n 0, 1) := by decide +kernel
theorem k108_13 : decode (gb 108) 13 = .ok (.getfield 19, 3) := by decide +kernel
theorem k108_16 : decode (gb 108) 16 = .ok (.iload_n 1, 1) := by decide +kernel
theorem k108_17 : decode (gb 108) 17 = .ok (.iconst 5, 1) := by decide +kernel
theorem k108_18 : decode (gb 108) 18 = .ok (.ishr, 1) := by decide +kernel
theorem k108_19 : decode (gb 108) 19 = .ok (.iaload, 1) := by decide +kernel
theorem k108_20 : decode (gb 108) 20 = .ok (.bipush 31, 2) := by decide +kernel
theorem k108_22 : decode (gb 108) 22 = .ok (.iload_n 1, 1) := by decide +kernel
theorem k108_23 : decode (gb 108) 23 = .ok (.bipush 31, 2) := by decide +kernel
theorem k108_25 : decode (gb 108) 25 = .ok (.iand, 1) := by decide +kernel
theorem k108_26 : decode (gb 108) 26 = .ok (.isub, 1) := by decide +kernel
theorem k108_27 : decode (gb 108) 27 = .ok (.iushr, 1) := by decide +kernel
theorem k108_28 : decode (gb 108) 28 = .ok (.iconst 1, 1) := by decide +kernel
theorem k108_29 : decode (gb 108) 29 = .ok (.iand, 1) := by decide +kernel
theorem k108_30 : decode (gb 108) 30 = .ok (.goto 4, 3) := by decide +kernel
theorem k108_33 : decode (gb 108) 33 = .ok (.iconst 0, 1) := by decide +kernel
theorem k108_34 : decode (gb 108) 34 = .ok (.ireturn, 1) := by decide +kernel
/-- Line.at(I)I -/
def f108 (a0 : Nat) (p1 : Int32) (μ : Mem) : Option (Mem × Int32) :=
  if p1 < 0 then
    some (μ, (0 : Int32))
  else
    if (μ.1 a0 2) ≤ p1 then
      some (μ, (0 : Int32))
    else
      (ldA (a0 + 1) (jshr p1 (5 : Int32)) μ).bind fun x3 =>
      some (μ, ((jushr x3 ((31 : Int32) - (p1 &&& (31 : Int32)))) &&& (1 : Int32)))
theorem ok108 {L : Nat} (a0 : Nat) (p1 : Int32) (h0 : SK0 a0 = (0, 4)) (μ : Mem) (res : Mem × Int32) (h : f108 a0 p1 μ = some res) : Mx 108 [.ref a0, .int p1] (mk L μ) (mk L res.1, some (.int res.2)) := by
  refine Mx_of ml_108 (by rw [mx_108]; exact Nat.le_of_ble_eq_true rfl) ?_
  show Sx 108 0 [(0, .ref a0), (1, .int p1)] [] 0 0 (mk L μ) _
  unfold f108 at h
  refine sx_iload_n (i := 1) k108_0 rfl rfl ?_
  by_cases hb1 : p1 < 0
  · rw [if_pos hb1] at h
    refine sx_if_lt (tgt := 33) k108_1 (by decide) (fun _ => ?_) (fun q => absurd hb1 q)
    refine sx_iconst (v := 0) k108_33 (by decide) ?_
    exact cx_reti k108_34 rt_108 h
  · rw [if_neg hb1] at h
    refine sx_if_lt (tgt := 33) k108_1 (by decide) (fun q => absurd q hb1) (fun _ => ?_)
    refine sx_iload_n (i := 1) k108_4 rfl rfl ?_
    refine sx_aload_n (i := 0) k108_5 rfl rfl ?_
    refine cx_getI (k := 2) k108_6 ow_108 fl_5_23 (by decide) h0 ft_4_2 ?_
    by_cases hb2 : (μ.1 a0 2) ≤ p1
    · rw [if_pos hb2] at h
      refine sx_icmp_ge (tgt := 33) k108_9 (by decide) (fun _ => ?_) (fun q => absurd hb2 q)
      refine sx_iconst (v := 0) k108_33 (by decide) ?_
      exact cx_reti k108_34 rt_108 h
    · rw [if_neg hb2] at h
      refine sx_icmp_ge (tgt := 33) k108_9 (by decide) (fun q => absurd q hb2) (fun _ => ?_)
      refine sx_aload_n (i := 0) k108_12 rfl rfl ?_
      refine cx_getR (k := 1) k108_13 ow_108 fl_5_19 (by decide) h0 ft_4_1 (kf_4_1 h0).1 ?_
      refine sx_iload_n (i := 1) k108_16 rfl rfl ?_
      refine sx_iconst (v := 5) k108_17 (by decide) ?_
      refine sx_ishr k108_18 ?_
      obtain ⟨x3, e4, h⟩ := Option.bind_eq_some_iff.mp h
      refine cx_iald k108_19 (kf_4_1 h0).2 e4 ?_
      refine sx_bipush (v := 31) k108_20 (by decide) ?_
      refine sx_iload_n (i := 1) k108_22 rfl rfl ?_
      refine sx_bipush (v := 31) k108_23 (by decide) ?_
      refine sx_iand k108_25 ?_
      refine sx_isub k108_26 ?_
      refine sx_iushr k108_27 ?_
      refine sx_iconst (v := 1) k108_28 (by decide) ?_
      refine sx_iand k108_29 ?_
      refine sx_goto (tgt := 34) k108_30 (by decide) ?_
      exact cx_reti k108_34 rt_108 h
theorem k109_0 : decode (gb 109) 0 = .ok (.iload_n 1, 1) := by decide +kernel
theorem k109_1 : decode (gb 109) 1 = .ok (.ifCond .lt 31, 3) := by decide +kernel
theorem k109_4 : decode (gb 109) 4 = .ok (.iload_n 1, 1) := by decide +kernel
theorem k109_5 : decode (gb 109) 5 = .ok (.aload_n 0, 1) := by decide +kernel
theorem k109_6 : decode (gb 109) 6 = .ok (.getfield 23, 3) := by decide +kernel
theorem k109_9 : decode (gb 109) 9 = .ok (.if_icmp .ge 23, 3) := by decide +kernel
theorem k109_12 : decode (gb 109) 12 = .ok (.aload_n 0, 1) := by decide +kernel
theorem k109_13 : decode (gb 109) 13 = .ok (.getfield 19, 3) := by decide +kernel
theorem k109_16 : decode (gb 109) 16 = .ok (.iload_n 1, 1) := by decide +kernel
theorem k109_17 : decode (gb 109) 17 = .ok (.iconst 5, 1) := by decide +kernel
theorem k109_18 : decode (gb 109) 18 = .ok (.ishr, 1) := by decide +kernel
theorem k109_19 : decode (gb 109) 19 = .ok (.dup2, 1) := by decide +kernel
theorem k109_20 : decode (gb 109) 20 = .ok (.iaload, 1) := by decide +kernel
theorem k109_21 : decode (gb 109) 21 = .ok (.iconst 1, 1) := by decide +kernel
theorem k109_22 : decode (gb 109) 22 = .ok (.bipush 31, 2) := by decide +kernel
theorem k109_24 : decode (gb 109) 24 = .ok (.iload_n 1, 1) := by decide +kernel
theorem k109_25 : decode (gb 109) 25 = .ok (.bipush 31, 2) := by decide +kernel
theorem k109_27 : decode (gb 109) 27 = .ok (.iand, 1) := by decide +kernel
theorem k109_28 : decode (gb 109) 28 = .ok (.isub, 1) := by decide +kernel
theorem k109_29 : decode (gb 109) 29 = .ok (.ishl, 1) := by decide +kernel
theorem k109_30 : decode (gb 109) 30 = .ok (.ixor, 1) := by decide +kernel
theorem k109_31 : decode (gb 109) 31 = .ok (.iastore, 1) := by decide +kernel
theorem k109_32 : decode (gb 109) 32 = .ok (.return_, 1) := by decide +kernel
/-- Line.flip(I)V -/
def f109 (a0 : Nat) (p1 : Int32) (μ : Mem) : Option (Mem) :=
  if p1 < 0 then
    some μ
  else
    if (μ.1 a0 2) ≤ p1 then
      some μ
    else
      (ldA (a0 + 1) (jshr p1 (5 : Int32)) μ).bind fun x3 =>
      (stA (a0 + 1) (jshr p1 (5 : Int32)) (x3 ^^^ (jshl (1 : Int32) ((31 : Int32) - (p1 &&& (31 : Int32))))) μ).bind fun m5 =>
      some m5
theorem ok109 {L : Nat} (a0 : Nat) (p1 : Int32) (h0 : SK0 a0 = (0, 4)) (μ : Mem) (res : Mem) (h : f109 a0 p1 μ = some res) : Mx 109 [.ref a0, .int p1] (mk L μ) (mk L res, none) := by
  refine Mx_of ml_109 (by rw [mx_109]; exact Nat.le_of_ble_eq_true rfl) ?_
  show Sx 109 0 [(0, .ref a0), (1, .int p1)] [] 0 0 (mk L μ) _
  unfold f109 at h
  refine sx_iload_n (i := 1) k109_0 rfl rfl ?_
  by_cases hb1 : p1 < 0
  · rw [if_pos hb1] at h
    refine sx_if_lt (tgt := 32) k109_1 (by decide) (fun _ => ?_) (fun q => absurd hb1 q)
    exact cx_retv k109_32 rt_109 h
  · rw [if_neg hb1] at h
    refine sx_if_lt (tgt := 32) k109_1 (by decide) (fun q => absurd q hb1) (fun _ => ?_)
    refine sx_iload_n (i := 1) k109_4 rfl rfl ?_
    refine sx_aload_n (i := 0) k109_5 rfl rfl ?_
    refine cx_getI (k := 2) k109_6 ow_109 fl_5_23 (by decide) h0 ft_4_2 ?_
    by_cases hb2 : (μ.1 a0 2) ≤ p1
    · rw [if_pos hb2] at h
      refine sx_icmp_ge (tgt := 32) k109_9 (by decide) (fun _ => ?_) (fun q => absurd hb2 q)
      exact cx_retv k109_32 rt_109 h
    · rw [if_neg hb2] at h
      refine sx_icmp_ge (tgt := 32) k109_9 (by decide) (fun q => absurd q hb2) (fun _ => ?_)
      refine sx_aload_n (i := 0) k109_12 rfl rfl ?_
      refine cx_getR (k := 1) k109_13 ow_109 fl_5_19 (by decide) h0 ft_4_1 (kf_4_1 h0).1 ?_
      refine sx_iload_n (i := 1) k109_16 rfl rfl ?_
      refine sx_iconst (v := 5) k109_17 (by decide) ?_
      refine sx_ishr k109_18 ?_
      refine sx_dup2 k109_19 rfl rfl ?_
      obtain ⟨x3, e4, h⟩ := Option.bind_eq_some_iff.mp h
      refine cx_iald k109_20 (kf_4_1 h0).2 e4 ?_
      refine sx_iconst (v := 1) k109_21 (by decide) ?_
      refine sx_bipush (v := 31) k109_22 (by decide) ?_
      refine sx_iload_n (i := 1) k109_24 rfl rfl ?_
      refine sx_bipush (v := 31) k109_25 (by decide) ?_
      refine sx_iand k109_27 ?_
      refine sx_isub k109_28 ?_
      refine sx_ishl k109_29 ?_
      refine sx_ixor k109_30 ?_
      obtain ⟨m5, e6, h⟩ := Option.bind_eq_some_iff.mp h
      refine cx_iast k109_31 (kf_4_1 h0).2 e6 ?_
      exact cx_retv k109_32 rt_109 h
theorem k111_0 : decode (gb 111) 0 = .ok (.aload_n 0, 1) := by decide +kernel
theorem k111_1 : decode (gb 111) 1 = .ok (.getfield 23, 3) := by decide +kernel
theorem k111_4 : decode (gb 111) 4 = .ok (.iconst 5, 1) := by decide +kernel
theorem k111_5 : decode (gb 111) 5 = .ok (.ishr, 1) := by decide +kernel
theorem k111_6 : decode (gb 111) 6 = .ok (.istore_n 2, 1) := by decide +kernel
theorem k111_7 : decode (gb 111) 7 = .ok (.aload_n 0, 1) := by decide +kernel
theorem k111_8 : decode (gb 111) 8 = .ok (.getfield 23, 3) := by decide +kernel
theorem k111_11 : decode (gb 111) 11 = .ok (.bipush 31, 2) := by decide +kernel
theorem k111_13 : decode (gb 111) 13 = .ok (.iand, 1) := by decide +kernel
theorem k111_14 : decode (gb 111) 14 = .ok (.istore_n 3, 1) := by decide +kernel
theorem k111_15 : decode (gb 111) 15 = .ok (.iload_n 2, 1) := by decide +kernel
theorem k111_16 : decode (gb 111) 16 = .ok (.iconst 1, 1) := by decide +kernel
theorem k111_17 : decode (gb 111) 17 = .ok (.iadd, 1) := by decide +kernel
theorem k111_18 : decode (gb 111) 18 = .ok (.aload_n 0, 1) := by decide +kernel
theorem k111_19 : decode (gb 111) 19 = .ok (.getfield 19, 3) := by decide +kernel
theorem k111_22 : decode (gb 111) 22 = .ok (.arraylength, 1) := by decide +kernel
theorem k111_23 : decode (gb 111) 23 = .ok (.if_icmp .lt 4, 3) := by decide +kernel
theorem k111_26 : decode (gb 111) 26 = .ok (.return_, 1) := by decide +kernel
theorem k111_27 : decode (gb 111) 27 = .ok (.iload_n 3, 1) := by decide +kernel
theorem k111_28 : decode (gb 111) 28 = .ok (.bipush 24, 2) := by decide +kernel
theorem k111_30 : decode (gb 111) 30 = .ok (.if_icmp .gt 21, 3) := by decide +kernel
theorem k111_33 : decode (gb 111) 33 = .ok (.aload_n 0, 1) := by decide +kernel
theorem k111_34 : decode (gb 111) 34 = .ok (.getfield 19, 3) := by decide +kernel
theorem k111_37 : decode (gb 111) 37 = .ok (.iload_n 2, 1) := by decide +kernel
theorem k111_38 : decode (gb 111) 38 = .ok (.dup2, 1) := by decide +kernel
theorem k111_39 : decode (gb 111) 39 = .ok (.iaload, 1) := by decide +kernel
theorem k111_40 : decode (gb 111) 40 = .ok (.iload_n 1, 1) := by decide +kernel
theorem k111_41 : decode (gb 111) 41 = .ok (.bipush 24, 2) := by decide +kernel
theorem k111_43 : decode (gb 111) 43 = .ok (.iload_n 3, 1) := by decide +kernel
theorem k111_44 : decode (gb 111) 44 = .ok (.isub, 1) := by decide +kernel
theorem k111_45 : decode (gb 111) 45 = .ok (.ishl, 1) := by decide +kernel
theorem k111_46 : decode (gb 111) 46 = .ok (.ior, 1) := by decide +kernel
theorem k111_47 : decode (gb 111) 47 = .ok (.iastore, 1) := by decide +kernel
theorem k111_48 : decode (gb 111) 48 = .ok (.goto 35, 3) := by decide +kernel
theorem k111_51 : decode (gb 111) 51 = .ok (.aload_n 0, 1) := by decide +kernel
theorem k111_52 : decode (gb 111) 52 = .ok (.getfield 19, 3) := by decide +kernel
theorem k111_55 : decode (gb 111) 55 = .ok (.iload_n 2, 1) := by decide +kernel
theorem k111_56 : decode (gb 111) 56 = .ok (.dup2, 1) := by decide +kernel
theorem k111_57 : decode (gb 111) 57 = .ok (.iaload, 1) := by decide +kernel
theorem k111_58 : decode (gb 111) 58 = .ok (.iload_n 1, 1) := by decide +kernel
theorem k111_59 : decode (gb 111) 59 = .ok (.iload_n 3, 1) := by decide +kernel
theorem k111_60 : decode (gb 111) 60 = .ok (.bipush 24, 2) := by decide +kernel
theorem k111_62 : decode (gb 111) 62 = .ok (.isub, 1) := by decide +kernel
theorem k111_63 : decode (gb 111) 63 = .ok (.iushr, 1) := by decide +kernel
theorem k111_64 : decode (gb 111) 64 = .ok (.ior, 1) := by decide +kernel
theorem k111_65 : decode (gb 111) 65 = .ok (.iastore, 1) := by decide +kernel
theorem k111_66 : decode (gb 111) 66 = .ok (.aload_n 0, 1) := by decide +kernel
theorem k111_67 : decode (gb 111) 67 = .ok (.getfield 19, 3) := by decide +kernel
theorem k111_70 : decode (gb 111) 70 = .ok (.iload_n 2, 1) := by decide +kernel
theorem k111_71 : decode (gb 111) 71 = .ok (.iconst 1, 1) := by decide +kernel
theorem k111_72 : decode (gb 111) 72 = .ok (.iadd, 1) := by decide +kernel
theorem k111_73 : decode (gb 111) 73 = .ok (.dup2, 1) := by decide +kernel
theorem k111_74 : decode (gb 111) 74 = .ok (.iaload, 1) := by decide +kernel
theorem k111_75 : decode (gb 111) 75 = .ok (.iload_n 1, 1) := by decide +kernel
theorem k111_76 : decode (gb 111) 76 = .ok (.bipush 56, 2) := by decide +kernel
theorem k111_78 : decode (gb 111) 78 = .ok (.iload_n 3, 1) := by decide +kernel
theorem k111_79 : decode (gb 111) 79 = .ok (.isub, 1) := by decide +kernel
theorem k111_80 : decode (gb 111) 80 = .ok (.ishl, 1) := by decide +kernel
theorem k111_81 : decode (gb 111) 81 = .ok (.ior, 1) := by decide +kernel
theorem k111_82 : decode (gb 111) 82 = .ok (.iastore, 1) := by decide +kernel
theorem k111_83 : decode (gb 111) 83 = .ok (.aload_n 0, 1) := by decide +kernel
theorem k111_84 : decode (gb 111) 84 = .ok (.dup, 1) := by decide +kernel
theorem k111_85 : decode (gb 111) 85 = .ok (.getfield 23, 3) := by decide +kernel
theorem k111_88 : decode (gb 111) 88 = .ok (.bipush 8, 2) := by decide +kernel
theorem k111_90 : decode (gb 111) 90 = .ok (.iadd, 1) := by decide +kernel
theorem k111_91 : decode (gb 111) 91 = .ok (.putfield 23, 3) := by decide +kernel
theorem k111_94 : decode (gb 111) 94 = .ok (.return_, 1) := by decide +kernel
def c111_83 (a0 : Nat) (μ : Mem) : Option (Mem) :=
  (pfI a0 2 ((μ.1 a0 2) + (8 : Int32)) μ).bind fun m1 =>
  some m1
theorem c111_83_ok {L : Nat} (a0 : Nat) (h0 : SK0 a0 = (0, 4)) (μ : Mem) (res : Mem) (h : c111_83 a0 μ = some res) : Sx 111 83 [(0, .ref a0)] [] 0 0 (mk L μ) (mk L res, none) := by
  unfold c111_83 at h
  refine sx_aload_n (i := 0) k111_83 rfl rfl ?_
  refine sx_dup k111_84 rfl ?_
  refine cx_getI (k := 2) k111_85 ow_111 fl_5_23 (by decide) h0 ft_4_2 ?_
  refine sx_bipush (v := 8) k111_88 (by decide) ?_
  refine sx_iadd k111_90 ?_
  obtain ⟨m1, e2, h⟩ := Option.bind_eq_some_iff.mp h
  refine cx_putI (k := 2) k111_91 ow_111 fl_5_23 (by decide) h0 nf_4_2 fu_4_2 e2 ?_
  exact cx_retv k111_94 rt_111 h
/-- Line.putByte(I)V -/
def f111 (a0 : Nat) (p1 : Int32) (μ : Mem) : Option (Mem) :=
  nm (jshr (μ.1 a0 2) (5 : Int32)) fun x1 =>
  nm ((μ.1 a0 2) &&& (31 : Int32)) fun x2 =>
  if (x1 + (1 : Int32)) < (nI (gln (a0 + 1))) then
    if (24 : Int32) < x2 then
      (ldA (a0 + 1) x1 μ).bind fun x5 =>
      (stA (a0 + 1) x1 (x5 ||| (jushr p1 (x2 - (24 : Int32)))) μ).bind fun m7 =>
      (ldA (a0 + 1) (x1 + (1 : Int32)) m7).bind fun x9 =>
      (stA (a0 + 1) (x1 + (1 : Int32)) (x9 ||| (jshl p1 ((56 : Int32) - x2))) m7).bind fun m11 =>
      c111_83 a0 m11
    else
      (ldA (a0 + 1) x1 μ).bind fun x13 =>
      (stA (a0 + 1) x1 (x13 ||| (jshl p1 ((24 : Int32) - x2))) μ).bind fun m15 =>
      c111_83 a0 m15
  else
    some μ
theorem ok111 {L : Nat} (a0 : Nat) (p1 : Int32) (h0 : SK0 a0 = (0, 4)) (μ : Mem) (res : Mem) (h : f111 a0 p1 μ = some res) : Mx 111 [.ref a0, .int p1] (mk L μ) (mk L res, none) := by
  refine Mx_of ml_111 (by rw [mx_111]; exact Nat.le_of_ble_eq_true rfl) ?_
  show Sx 111 0 [(0, .ref a0), (1, .int p1)] [] 0 0 (mk L μ) _
  unfold f111 at h
  refine sx_aload_n (i := 0) k111_0 rfl rfl ?_
  refine cx_getI (k := 2) k111_1 ow_111 fl_5_23 (by decide) h0 ft_4_2 ?_
  refine sx_iconst (v := 5) k111_4 (by decide) ?_
  refine sx_ishr k111_5 ?_
  refine cx_nm h (fun x1 h => ?_)
  refine cx_istore_n (lo2 := [(2, .int x1), (0, .ref a0), (1, .int p1)]) k111_6 rfl (by rw [mx_111]; decide) rfl ?_
  refine sx_aload_n (i := 0) k111_7 rfl rfl ?_
  refine cx_getI (k := 2) k111_8 ow_111 fl_5_23 (by decide) h0 ft_4_2 ?_
  refine sx_bipush (v := 31) k111_11 (by decide) ?_
  refine sx_iand k111_13 ?_
  refine cx_nm h (fun x2 h => ?_)
  refine cx_istore_n (lo2 := [(3, .int x2), (2, .int x1), (0, .ref a0), (1, .int p1)]) k111_14 rfl (by rw [mx_111]; decide) rfl ?_
  refine sx_iload_n (i := 2) k111_15 rfl rfl ?_
  refine sx_iconst (v := 1) k111_16 (by decide) ?_
  refine sx_iadd k111_17 ?_
  refine sx_aload_n (i := 0) k111_18 rfl rfl ?_
  refine cx_getR (k := 1) k111_19 ow_111 fl_5_19 (by decide) h0 ft_4_1 (kf_4_1 h0).1 ?_
  refine cx_alen (t := 0) k111_22 (by decide) (kf_4_1 h0).2 ?_
  by_cases hb3 : (x1 + (1 : Int32)) < (nI (gln (a0 + 1)))
  · rw [if_pos hb3] at h
    refine sx_icmp_lt (tgt := 27) k111_23 (by decide) (fun _ => ?_) (fun q => absurd hb3 q)
    refine sx_iload_n (i := 3) k111_27 rfl rfl ?_
    refine sx_bipush (v := 24) k111_28 (by decide) ?_
    by_cases hb4 : (24 : Int32) < x2
    · rw [if_pos hb4] at h
      refine sx_icmp_gt (tgt := 51) k111_30 (by decide) (fun _ => ?_) (fun q => absurd hb4 q)
      refine sx_aload_n (i := 0) k111_51 rfl rfl ?_
      refine cx_getR (k := 1) k111_52 ow_111 fl_5_19 (by decide) h0 ft_4_1 (kf_4_1 h0).1 ?_
      refine sx_iload_n (i := 2) k111_55 rfl rfl ?_
      refine sx_dup2 k111_56 rfl rfl ?_
      obtain ⟨x5, e6, h⟩ := Option.bind_eq_some_iff.mp h
      refine cx_iald k111_57 (kf_4_1 h0).2 e6 ?_
      refine sx_iload_n (i := 1) k111_58 rfl rfl ?_
      refine sx_iload_n (i := 3) k111_59 rfl rfl ?_
      refine sx_bipush (v := 24) k111_60 (by decide) ?_
      refine sx_isub k111_62 ?_
      refine sx_iushr k111_63 ?_
      refine sx_ior k111_64 ?_
      obtain ⟨m7, e8, h⟩ := Option.bind_eq_some_iff.mp h
      refine cx_iast k111_65 (kf_4_1 h0).2 e8 ?_
      refine sx_aload_n (i := 0) k111_66 rfl rfl ?_
      refine cx_getR (k := 1) k111_67 ow_111 fl_5_19 (by decide) h0 ft_4_1 (kf_4_1 h0).1 ?_
      refine sx_iload_n (i := 2) k111_70 rfl rfl ?_
      refine sx_iconst (v := 1) k111_71 (by decide) ?_
      refine sx_iadd k111_72 ?_
      refine sx_dup2 k111_73 rfl rfl ?_
      obtain ⟨x9, e10, h⟩ := Option.bind_eq_some_iff.mp h
      refine cx_iald k111_74 (kf_4_1 h0).2 e10 ?_
      refine sx_iload_n (i := 1) k111_75 rfl rfl ?_
      refine sx_bipush (v := 56) k111_76 (by decide) ?_
      refine sx_iload_n (i := 3) k111_78 rfl rfl ?_
      refine sx_isub k111_79 ?_
      refine sx_ishl k111_80 ?_
      refine sx_ior k111_81 ?_
      obtain ⟨m11, e12, h⟩ := Option.bind_eq_some_iff.mp h
      refine cx_iast k111_82 (kf_4_1 h0).2 e12 ?_
      refine sx_pick (lo2 := [(0, .ref a0)]) [2] rfl ?_
      exact c111_83_ok a0 h0 _ _ h
    · rw [if_neg hb4] at h
      refine sx_icmp_gt (tgt := 51) k111_30 (by decide) (fun q => absurd q hb4) (fun _ => ?_)
      refine sx_aload_n (i := 0) k111_33 rfl rfl ?_
      refine cx_getR (k := 1) k111_34 ow_111 fl_5_19 (by decide) h0 ft_4_1 (kf_4_1 h0).1 ?_
      refine sx_iload_n (i := 2) k111_37 rfl rfl ?_
      refine sx_dup2 k111_38 rfl rfl ?_
      obtain ⟨x13, e14, h⟩ := Option.bind_eq_some_iff.mp h
      refine cx_iald k111_39 (kf_4_1 h0).2 e14 ?_
      refine sx_iload_n (i := 1) k111_40 rfl rfl ?_
      refine sx_bipush (v := 24) k111_41 (by decide) ?_
      refine sx_iload_n (i := 3) k111_43 rfl rfl ?_
      refine sx_isub k111_44 ?_
      refine sx_ishl k111_45 ?_
      refine sx_ior k111_46 ?_
      obtain ⟨m15, e16, h⟩ := Option.bind_eq_some_iff.mp h
      refine cx_iast k111_47 (kf_4_1 h0).2 e16 ?_
      refine sx_goto (tgt := 83) k111_48 (by decide) ?_
      refine sx_pick (lo2 := [(0, .ref a0)]) [2] rfl ?_
      exact c111_83_ok a0 h0 _ _ h
  · rw [if_neg hb3] at h
    refine sx_icmp_lt (tgt := 27) k111_23 (by decide) (fun q => absurd q hb3) (fun _ => ?_)
    exact cx_retv k111_26 rt_111 h
theorem k110_0 : decode (gb 110) 0 = .ok (.aload_n 0, 1) := by decide +kernel
theorem k110_1 : decode (gb 110) 1 = .ok (.getfield 23, 3) := by decide +kernel
theorem k110_4 : decode (gb 110) 4 = .ok (.bipush 8, 2) := by decide +kernel
theorem k110_6 : decode (gb 110) 6 = .ok (.aload_n 1, 1) := by decide +kernel
theorem k110_7 : decode (gb 110) 7 = .ok (.getfield 26, 3) := by decide +kernel
theorem k110_10 : decode (gb 110) 10 = .ok (.imul, 1) := by decide +kernel
theorem k110_11 : decode (gb 110) 11 = .ok (.iadd, 1) := by decide +kernel
theorem k110_12 : decode (gb 110) 12 = .ok (.aload_n 0, 1) := by decide +kernel
theorem k110_13 : decode (gb 110) 13 = .ok (.getfield 13, 3) := by decide +kernel
theorem k110_16 : decode (gb 110) 16 = .ok (.if_icmp .le 5, 3) := by decide +kernel
theorem k110_19 : decode (gb 110) 19 = .ok (.iconst 0, 1) := by decide +kernel
theorem k110_20 : decode (gb 110) 20 = .ok (.ireturn, 1) := by decide +kernel
theorem k110_21 : decode (gb 110) 21 = .ok (.iconst 0, 1) := by decide +kernel
theorem k110_22 : decode (gb 110) 22 = .ok (.istore_n 2, 1) := by decide +kernel
theorem k110_23 : decode (gb 110) 23 = .ok (.iload_n 2, 1) := by decide +kernel
theorem k110_24 : decode (gb 110) 24 = .ok (.aload_n 1, 1) := by decide +kernel
theorem k110_25 : decode (gb 110) 25 = .ok (.getfield 26, 3) := by decide +kernel
theorem k110_28 : decode (gb 110) 28 = .ok (.if_icmp .ge 18, 3) := by decide +kernel
theorem k110_31 : decode (gb 110) 31 = .ok (.aload_n 0, 1) := by decide +kernel
theorem k110_32 : decode (gb 110) 32 = .ok (.aload_n 1, 1) := by decide +kernel
theorem k110_33 : decode (gb 110) 33 = .ok (.iload_n 2, 1) := by decide +kernel
theorem k110_34 : decode (gb 110) 34 = .ok (.invokevirtual 31, 3) := by decide +kernel
theorem k110_37 : decode (gb 110) 37 = .ok (.invokevirtual 35, 3) := by decide +kernel
theorem k110_40 : decode (gb 110) 40 = .ok (.iinc 2 1, 3) := by decide +kernel
theorem k110_43 : decode (gb 110) 43 = .ok (.goto (-20), 3) := by decide +kernel
theorem k110_46 : decode (gb 110) 46 = .ok (.iconst 1, 1) := by decide +kernel
theorem k110_47 : decode (gb 110) 47 = .ok (.ireturn, 1) := by decide +kernel
def b110_23 (a0 : Nat) (p1 : Nat) (kl23 : Int32 → Mem → Option (Mem × Int32)) (v2 : Int32) (μ : Mem) : Option (Mem × Int32) :=
  if (μ.1 p1 1) ≤ v2 then
    rtZ (1 : Int32) μ
  else
    (f75 p1 v2 μ).bind fun r2 =>
    (f111 a0 r2.2 r2.1).bind fun r4 =>
    nm (v2 + (1 : Int32)) fun x6 =>
    kl23 x6 r4
theorem b110_23_ok {L : Nat} (a0 : Nat) (p1 : Nat) (h0 : SK0 a0 = (0, 4)) (h1 : SK0 p1 = (0, 1)) (kl23 : Int32 → Mem → Option (Mem × Int32)) (hk23 : (∀ (v2 : Int32) (μ : Mem) (res : Mem × Int32), kl23 v2 μ = some res → Sx 110 23 [(0, .ref a0), (1, .ref p1), (2, .int v2)] [] 0 0 (mk L μ) (mk L res.1, some (.int res.2)))) (v2 : Int32) (μ : Mem) (res : Mem × Int32) (h : b110_23 a0 p1 kl23 v2 μ = some res) : Sx 110 23 [(0, .ref a0), (1, .ref p1), (2, .int v2)] [] 0 0 (mk L μ) (mk L res.1, some (.int res.2)) := by
  unfold b110_23 at h
  refine sx_iload_n (i := 2) k110_23 rfl rfl ?_
  refine sx_aload_n (i := 1) k110_24 rfl rfl ?_
  refine cx_getI (k := 1) k110_25 ow_110 fl_5_26 (by decide) h1 ft_1_1 ?_
  by_cases hb1 : (μ.1 p1 1) ≤ v2
  · rw [if_pos hb1] at h
    refine sx_icmp_ge (tgt := 46) k110_28 (by decide) (fun _ => ?_) (fun q => absurd hb1 q)
    refine sx_iconst (v := 1) k110_46 (by decide) ?_
    exact cx_retz k110_47 rt_110 h
  · rw [if_neg hb1] at h
    refine sx_icmp_ge (tgt := 46) k110_28 (by decide) (fun q => absurd q hb1) (fun _ => ?_)
    refine sx_aload_n (i := 0) k110_31 rfl rfl ?_
    refine sx_aload_n (i := 1) k110_32 rfl rfl ?_
    refine sx_iload_n (i := 2) k110_33 rfl rfl ?_
    obtain ⟨r2, e3, h⟩ := Option.bind_eq_some_iff.mp h
    refine cx_V (sk := [.ref a0]) (vs := [.int v2]) st_110_75 k110_34 ow_110 cl_5_31 (by decide) rfl (Nat.le_of_ble_eq_true rfl) h1 (ok75 p1 v2 h1 _ _ e3) (sk3 := [.int r2.2, .ref a0]) rfl rfl ?_
    obtain ⟨r4, e5, h⟩ := Option.bind_eq_some_iff.mp h
    refine cx_V (sk := []) (vs := [.int r2.2]) st_110_111 k110_37 ow_110 cl_5_35 (by decide) rfl (Nat.le_of_ble_eq_true rfl) h0 (ok111 a0 r2.2 h0 _ _ e5) (sk3 := []) rfl rfl ?_
    refine cx_iinc (c := 1) (lo2 := fun x6 => [(2, .int x6), (0, .ref a0), (1, .ref p1)]) k110_40 rfl (by decide) (by rw [mx_110]; decide) (fun _ => rfl) h (fun x6 h => ?_)
    refine sx_goto (tgt := 23) k110_43 (by decide) ?_
    refine sx_pick (lo2 := [(0, .ref a0), (1, .ref p1), (2, .int x6)]) [1, 2, 0] rfl ?_
    exact hk23 x6 _ _ h
def l110_23 (a0 : Nat) (p1 : Nat) : Nat → Int32 × Mem → Option (Mem × Int32) :=
  fixN (fun self x => b110_23 a0 p1 (fun v2 μ => self (v2, μ)) (x.1) (x.2))
theorem l110_23_ok {L : Nat} (a0 : Nat) (p1 : Nat) (h0 : SK0 a0 = (0, 4)) (h1 : SK0 p1 = (0, 1)) (n : Nat) (v2 : Int32) (μ : Mem) (res : Mem × Int32) (h : l110_23 a0 p1 n (v2, μ) = some res) : Sx 110 23 [(0, .ref a0), (1, .ref p1), (2, .int v2)] [] 0 0 (mk L μ) (mk L res.1, some (.int res.2)) := by
  have key := fixN_ind (P := fun x res => Sx 110 23 [(0, .ref a0), (1, .ref p1), (2, .int (x.1))] [] 0 0 (mk L (x.2)) (mk L res.1, some (.int res.2))) (F := fun self x => b110_23 a0 p1 (fun v2 μ => self (v2, μ)) (x.1) (x.2)) (fun self hself x res h => b110_23_ok a0 p1 h0 h1 (fun v2 μ => self (v2, μ)) (fun v2 μ res hh => hself (v2, μ) res hh) (x.1) (x.2) res h) n (v2, μ) res h
  exact key
/-- Line.putAll(LCraftHouse$Bytes;)Z -/
def f110 (a0 : Nat) (p1 : Nat) (μ : Mem) : Option (Mem × Int32) :=
  if ((μ.1 a0 2) + ((8 : Int32) * (μ.1 p1 1))) ≤ (μ.1 a0 0) then
    l110_23 a0 p1 gF ((0 : Int32), μ)
  else
    rtZ (0 : Int32) μ
theorem ok110 {L : Nat} (a0 : Nat) (p1 : Nat) (h0 : SK0 a0 = (0, 4)) (h1 : SK0 p1 = (0, 1)) (μ : Mem) (res : Mem × Int32) (h : f110 a0 p1 μ = some res) : Mx 110 [.ref a0, .ref p1] (mk L μ) (mk L res.1, some (.int res.2)) := by
  refine Mx_of ml_110 (by rw [mx_110]; exact Nat.le_of_ble_eq_true rfl) ?_
  show Sx 110 0 [(0, .ref a0), (1, .ref p1)] [] 0 0 (mk L μ) _
  unfold f110 at h
  refine sx_aload_n (i := 0) k110_0 rfl rfl ?_
  refine cx_getI (k := 2) k110_1 ow_110 fl_5_23 (by decide) h0 ft_4_2 ?_
  refine sx_bipush (v := 8) k110_4 (by decide) ?_
  refine sx_aload_n (i := 1) k110_6 rfl rfl ?_
  refine cx_getI (k := 1) k110_7 ow_110 fl_5_26 (by decide) h1 ft_1_1 ?_
  refine sx_imul k110_10 ?_
  refine sx_iadd k110_11 ?_
  refine sx_aload_n (i := 0) k110_12 rfl rfl ?_
  refine cx_getI (k := 0) k110_13 ow_110 fl_5_13 (by decide) h0 ft_4_0 ?_
  by_cases hb1 : ((μ.1 a0 2) + ((8 : Int32) * (μ.1 p1 1))) ≤ (μ.1 a0 0)
  · rw [if_pos hb1] at h
    refine sx_icmp_le (tgt := 21) k110_16 (by decide) (fun _ => ?_) (fun q => absurd hb1 q)
    refine sx_iconst (v := 0) k110_21 (by decide) ?_
    refine cx_istore_n (lo2 := [(2, .int (0 : Int32)), (0, .ref a0), (1, .ref p1)]) k110_22 rfl (by rw [mx_110]; decide) rfl ?_
    refine sx_pick (lo2 := [(0, .ref a0), (1, .ref p1), (2, .int (0 : Int32))]) [1, 2, 0] rfl ?_
    exact l110_23_ok a0 p1 h0 h1 gF (0 : Int32) _ _ h
  · rw [if_neg hb1] at h
    refine sx_icmp_le (tgt := 21) k110_16 (by decide) (fun q => absurd q hb1) (fun _ => ?_)
    refine sx_iconst (v := 0) k110_19 (by decide) ?_
    exact cx_retz k110_20 rt_110 h
theorem k115_0 : decode (gb 115) 0 = .ok (.aload_n 0, 1) := by decide +kernel
theorem k115_1 : decode (gb 115) 1 = .ok (.getfield 23, 3) := by decide +kernel
theorem k115_4 : decode (gb 115) 4 = .ok (.bipush 31, 2) := by decide +kernel
theorem k115_6 : decode (gb 115) 6 = .ok (.iadd, 1) := by decide +kernel
theorem k115_7 : decode (gb 115) 7 = .ok (.iconst 5, 1) := by decide +kernel
theorem k115_8 : decode (gb 115) 8 = .ok (.ishr, 1) := by decide +kernel
theorem k115_9 : decode (gb 115) 9 = .ok (.aload_n 0, 1) := by decide +kernel
theorem k115_10 : decode (gb 115) 10 = .ok (.getfield 19, 3) := by decide +kernel
theorem k115_13 : decode (gb 115) 13 = .ok (.arraylength, 1) := by decide +kernel
theorem k115_14 : decode (gb 115) 14 = .ok (.iconst 1, 1) := by decide +kernel
theorem k115_15 : decode (gb 115) 15 = .ok (.isub, 1) := by decide +kernel
theorem k115_16 : decode (gb 115) 16 = .ok (.invokestatic 52, 3) := by decide +kernel
theorem k115_19 : decode (gb 115) 19 = .ok (.ireturn, 1) := by decide +kernel
/-- Line.usedWords()I -/
def f115 (a0 : Nat) (μ : Mem) : Option (Mem × Int32) :=
  some (μ, (jmin (jshr ((μ.1 a0 2) + (31 : Int32)) (5 : Int32)) ((nI (gln (a0 + 1))) - (1 : Int32))))
theorem ok115 {L : Nat} (a0 : Nat) (h0 : SK0 a0 = (0, 4)) (μ : Mem) (res : Mem × Int32) (h : f115 a0 μ = some res) : Mx 115 [.ref a0] (mk L μ) (mk L res.1, some (.int res.2)) := by
  refine Mx_of ml_115 (by rw [mx_115]; exact Nat.le_of_ble_eq_true rfl) ?_
  show Sx 115 0 [(0, .ref a0)] [] 0 0 (mk L μ) _
  unfold f115 at h
  refine sx_aload_n (i := 0) k115_0 rfl rfl ?_
  refine cx_getI (k := 2) k115_1 ow_115 fl_5_23 (by decide) h0 ft_4_2 ?_
  refine sx_bipush (v := 31) k115_4 (by decide) ?_
  refine sx_iadd k115_6 ?_
  refine sx_iconst (v := 5) k115_7 (by decide) ?_
  refine sx_ishr k115_8 ?_
  refine sx_aload_n (i := 0) k115_9 rfl rfl ?_
  refine cx_getR (k := 1) k115_10 ow_115 fl_5_19 (by decide) h0 ft_4_1 (kf_4_1 h0).1 ?_
  refine cx_alen (t := 0) k115_13 (by decide) (kf_4_1 h0).2 ?_
  refine sx_iconst (v := 1) k115_14 (by decide) ?_
  refine sx_isub k115_15 ?_
  refine cx_min k115_16 ow_115 yl_5_52 (by decide) (by decide +kernel) (Nat.le_of_ble_eq_true rfl) ?_
  exact cx_reti k115_19 rt_115 h
theorem k113_0 : decode (gb 113) 0 = .ok (.iload_n 1, 1) := by decide +kernel
theorem k113_1 : decode (gb 113) 1 = .ok (.ifCond .gt 4, 3) := by decide +kernel
theorem k113_4 : decode (gb 113) 4 = .ok (.return_, 1) := by decide +kernel
theorem k113_5 : decode (gb 113) 5 = .ok (.aload_n 0, 1) := by decide +kernel
theorem k113_6 : decode (gb 113) 6 = .ok (.invokevirtual 42, 3) := by decide +kernel
theorem k113_9 : decode (gb 113) 9 = .ok (.istore_n 2, 1) := by decide +kernel
theorem k113_10 : decode (gb 113) 10 = .ok (.aload_n 0, 1) := by decide +kernel
theorem k113_11 : decode (gb 113) 11 = .ok (.dup, 1) := by decide +kernel
theorem k113_12 : decode (gb 113) 12 = .ok (.getfield 23, 3) := by decide +kernel
theorem k113_15 : decode (gb 113) 15 = .ok (.iload_n 1, 1) := by decide +kernel
theorem k113_16 : decode (gb 113) 16 = .ok (.aload_n 0, 1) := by decide +kernel
theorem k113_17 : decode (gb 113) 17 = .ok (.getfield 23, 3) := by decide +kernel
theorem k113_20 : decode (gb 113) 20 = .ok (.invokestatic 52, 3) := by decide +kernel
theorem k113_23 : decode (gb 113) 23 = .ok (.isub, 1) := by decide +kernel
theorem k113_24 : decode (gb 113) 24 = .ok (.putfield 23, 3) := by decide +kernel
theorem k113_27 : decode (gb 113) 27 = .ok (.aload_n 0, 1) := by decide +kernel
theorem k113_28 : decode (gb 113) 28 = .ok (.getfield 23, 3) := by decide +kernel
theorem k113_31 : decode (gb 113) 31 = .ok (.iconst 5, 1) := by decide +kernel
theorem k113_32 : decode (gb 113) 32 = .ok (.ishr, 1) := by decide +kernel
theorem k113_33 : decode (gb 113) 33 = .ok (.istore_n 3, 1) := by decide +kernel
theorem k113_34 : decode (gb 113) 34 = .ok (.aload_n 0, 1) := by decide +kernel
theorem k113_35 : decode (gb 113) 35 = .ok (.getfield 19, 3) := by decide +kernel
theorem k113_38 : decode (gb 113) 38 = .ok (.iload_n 3, 1) := by decide +kernel
theorem k113_39 : decode (gb 113) 39 = .ok (.dup2, 1) := by decide +kernel
theorem k113_40 : decode (gb 113) 40 = .ok (.iaload, 1) := by decide +kernel
theorem k113_41 : decode (gb 113) 41 = .ok (.iconst (-1), 1) := by decide +kernel
theorem k113_42 : decode (gb 113) 42 = .ok (.aload_n 0, 1) := by decide +kernel
theorem k113_43 : decode (gb 113) 43 = .ok (.getfield 23, 3) := by decide +kernel
theorem k113_46 : decode (gb 113) 46 = .ok (.bipush 31, 2) := by decide +kernel
theorem k113_48 : decode (gb 113) 48 = .ok (.iand, 1) := by decide +kernel
theorem k113_49 : decode (gb 113) 49 = .ok (.iushr, 1) := by decide +kernel
theorem k113_50 : decode (gb 113) 50 = .ok (.iconst (-1), 1) := by decide +kernel
theorem k113_51 : decode (gb 113) 51 = .ok (.ixor, 1) := by decide +kernel
theorem k113_52 : decode (gb 113) 52 = .ok (.iand, 1) := by decide +kernel
theorem k113_53 : decode (gb 113) 53 = .ok (.iastore, 1) := by decide +kernel
theorem k113_54 : decode (gb 113) 54 = .ok (.iload_n 3, 1) := by decide +kernel
theorem k113_55 : decode (gb 113) 55 = .ok (.iconst 1, 1) := by decide +kernel
theorem k113_56 : decode (gb 113) 56 = .ok (.iadd, 1) := by decide +kernel
theorem k113_57 : decode (gb 113) 57 = .ok (.istore 4, 2) := by decide +kernel
theorem k113_59 : decode (gb 113) 59 = .ok (.iload 4, 2) := by decide +kernel
theorem k113_61 : decode (gb 113) 61 = .ok (.iload_n 2, 1) := by decide +kernel
theorem k113_62 : decode (gb 113) 62 = .ok (.if_icmp .ge 17, 3) := by decide +kernel
theorem k113_65 : decode (gb 113) 65 = .ok (.aload_n 0, 1) := by decide +kernel
theorem k113_66 : decode (gb 113) 66 = .ok (.getfield 19, 3) := by decide +kernel
theorem k113_69 : decode (gb 113) 69 = .ok (.iload 4, 2) := by decide +kernel
theorem k113_71 : decode (gb 113) 71 = .ok (.iconst 0, 1) := by decide +kernel
theorem k113_72 : decode (gb 113) 72 = .ok (.iastore, 1) := by decide +kernel
theorem k113_73 : decode (gb 113) 73 = .ok (.iinc 4 1, 3) := by decide +kernel
theorem k113_76 : decode (gb 113) 76 = .ok (.goto (-17), 3) := by decide +kernel
theorem k113_79 : decode (gb 113) 79 = .ok (.return_, 1) := by decide +kernel
def b113_59 (a0 : Nat) (kl59 : Int32 → Int32 → Mem → Option (Mem)) (v2 : Int32) (v4 : Int32) (μ : Mem) : Option (Mem) :=
  if v2 ≤ v4 then
    some μ
  else
    (stA (a0 + 1) v4 (0 : Int32) μ).bind fun m2 =>
    nm (v4 + (1 : Int32)) fun x4 =>
    kl59 v2 x4 m2
theorem b113_59_ok {L : Nat} (a0 : Nat) (h0 : SK0 a0 = (0, 4)) (kl59 : Int32 → Int32 → Mem → Option (Mem)) (hk59 : (∀ (v2 : Int32) (v4 : Int32) (μ : Mem) (res : Mem), kl59 v2 v4 μ = some res → Sx 113 59 [(0, .ref a0), (2, .int v2), (4, .int v4)] [] 0 0 (mk L μ) (mk L res, none))) (v2 : Int32) (v4 : Int32) (μ : Mem) (res : Mem) (h : b113_59 a0 kl59 v2 v4 μ = some res) : Sx 113 59 [(0, .ref a0), (2, .int v2), (4, .int v4)] [] 0 0 (mk L μ) (mk L res, none) := by
  unfold b113_59 at h
  refine sx_iload k113_59 rfl ?_
  refine sx_iload_n (i := 2) k113_61 rfl rfl ?_
  by_cases hb1 : v2 ≤ v4
  · rw [if_pos hb1] at h
    refine sx_icmp_ge (tgt := 79) k113_62 (by decide) (fun _ => ?_) (fun q => absurd hb1 q)
    exact cx_retv k113_79 rt_113 h
  · rw [if_neg hb1] at h
    refine sx_icmp_ge (tgt := 79) k113_62 (by decide) (fun q => absurd q hb1) (fun _ => ?_)
    refine sx_aload_n (i := 0) k113_65 rfl rfl ?_
    refine cx_getR (k := 1) k113_66 ow_113 fl_5_19 (by decide) h0 ft_4_1 (kf_4_1 h0).1 ?_
    refine sx_iload k113_69 rfl ?_
    refine sx_iconst (v := 0) k113_71 (by decide) ?_
    obtain ⟨m2, e3, h⟩ := Option.bind_eq_some_iff.mp h
    refine cx_iast k113_72 (kf_4_1 h0).2 e3 ?_
    refine cx_iinc (c := 1) (lo2 := fun x4 => [(4, .int x4), (0, .ref a0), (2, .int v2)]) k113_73 rfl (by decide) (by rw [mx_113]; decide) (fun _ => rfl) h (fun x4 h => ?_)
    refine sx_goto (tgt := 59) k113_76 (by decide) ?_
    refine sx_pick (lo2 := [(0, .ref a0), (2, .int v2), (4, .int x4)]) [1, 2, 0] rfl ?_
    exact hk59 v2 x4 _ _ h
def l113_59 (a0 : Nat) : Nat → Int32 × Int32 × Mem → Option (Mem) :=
  fixN (fun self x => b113_59 a0 (fun v2 v4 μ => self (v2, v4, μ)) (x.1) (x.2.1) (x.2.2))
theorem l113_59_ok {L : Nat} (a0 : Nat) (h0 : SK0 a0 = (0, 4)) (n : Nat) (v2 : Int32) (v4 : Int32) (μ : Mem) (res : Mem) (h : l113_59 a0 n (v2, v4, μ) = some res) : Sx 113 59 [(0, .ref a0), (2, .int v2), (4, .int v4)] [] 0 0 (mk L μ) (mk L res, none) := by
  have key := fixN_ind (P := fun x res => Sx 113 59 [(0, .ref a0), (2, .int (x.1)), (4, .int (x.2.1))] [] 0 0 (mk L (x.2.2)) (mk L res, none)) (F := fun self x => b113_59 a0 (fun v2 v4 μ => self (v2, v4, μ)) (x.1) (x.2.1) (x.2.2)) (fun self hself x res h => b113_59_ok a0 h0 (fun v2 v4 μ => self (v2, v4, μ)) (fun v2 v4 μ res hh => hself (v2, v4, μ) res hh) (x.1) (x.2.1) (x.2.2) res h) n (v2, v4, μ) res h
  exact key
/-- Line.dropLast(I)V -/
def f113 (a0 : Nat) (p1 : Int32) (μ : Mem) : Option (Mem) :=
  if 0 < p1 then
    (f115 a0 μ).bind fun r2 =>
    (pfI a0 2 ((r2.1.1 a0 2) - (jmin p1 (r2.1.1 a0 2))) r2.1).bind fun m4 =>
    nm (jshr (m4.1 a0 2) (5 : Int32)) fun x6 =>
    (ldA (a0 + 1) x6 m4).bind fun x7 =>
    (stA (a0 + 1) x6 (x7 &&& ((jushr (-1 : Int32) ((m4.1 a0 2) &&& (31 : Int32))) ^^^ (-1 : Int32))) m4).bind fun m9 =>
    nm (x6 + (1 : Int32)) fun x11 =>
    l113_59 a0 gF (r2.2, x11, m9)
  else
    some μ
theorem ok113 {L : Nat} (a0 : Nat) (p1 : Int32) (h0 : SK0 a0 = (0, 4)) (μ : Mem) (res : Mem) (h : f113 a0 p1 μ = some res) : Mx 113 [.ref a0, .int p1] (mk L μ) (mk L res, none) := by
  refine Mx_of ml_113 (by rw [mx_113]; exact Nat.le_of_ble_eq_true rfl) ?_
  show Sx 113 0 [(0, .ref a0), (1, .int p1)] [] 0 0 (mk L μ) _
  unfold f113 at h
  refine sx_iload_n (i := 1) k113_0 rfl rfl ?_
  by_cases hb1 : 0 < p1
  · rw [if_pos hb1] at h
    refine sx_if_gt (tgt := 5) k113_1 (by decide) (fun _ => ?_) (fun q => absurd hb1 q)
    refine sx_aload_n (i := 0) k113_5 rfl rfl ?_
    obtain ⟨r2, e3, h⟩ := Option.bind_eq_some_iff.mp h
    refine cx_V (sk := []) (vs := []) st_113_115 k113_6 ow_113 cl_5_42 (by decide) rfl (Nat.le_of_ble_eq_true rfl) h0 (ok115 a0 h0 _ _ e3) (sk3 := [.int r2.2]) rfl rfl ?_
    refine cx_istore_n (lo2 := [(2, .int r2.2), (0, .ref a0), (1, .int p1)]) k113_9 rfl (by rw [mx_113]; decide) rfl ?_
    refine sx_aload_n (i := 0) k113_10 rfl rfl ?_
    refine sx_dup k113_11 rfl ?_
    refine cx_getI (k := 2) k113_12 ow_113 fl_5_23 (by decide) h0 ft_4_2 ?_
    refine sx_iload_n (i := 1) k113_15 rfl rfl ?_
    refine sx_aload_n (i := 0) k113_16 rfl rfl ?_
    refine cx_getI (k := 2) k113_17 ow_113 fl_5_23 (by decide) h0 ft_4_2 ?_
    refine cx_min k113_20 ow_113 yl_5_52 (by decide) (by decide +kernel) (Nat.le_of_ble_eq_true rfl) ?_
    refine sx_isub k113_23 ?_
    obtain ⟨m4, e5, h⟩ := Option.bind_eq_some_iff.mp h
    refine cx_putI (k := 2) k113_24 ow_113 fl_5_23 (by decide) h0 nf_4_2 fu_4_2 e5 ?_
    refine sx_aload_n (i := 0) k113_27 rfl rfl ?_
    refine cx_getI (k := 2) k113_28 ow_113 fl_5_23 (by decide) h0 ft_4_2 ?_
    refine sx_iconst (v := 5) k113_31 (by decide) ?_
    refine sx_ishr k113_32 ?_
    refine cx_nm h (fun x6 h => ?_)
    refine cx_istore_n (lo2 := [(3, .int x6), (2, .int r2.2), (0, .ref a0), (1, .int p1)]) k113_33 rfl (by rw [mx_113]; decide) rfl ?_
    refine sx_aload_n (i := 0) k113_34 rfl rfl ?_
    refine cx_getR (k := 1) k113_35 ow_113 fl_5_19 (by decide) h0 ft_4_1 (kf_4_1 h0).1 ?_
    refine sx_iload_n (i := 3) k113_38 rfl rfl ?_
    refine sx_dup2 k113_39 rfl rfl ?_
    obtain ⟨x7, e8, h⟩ := Option.bind_eq_some_iff.mp h
    refine cx_iald k113_40 (kf_4_1 h0).2 e8 ?_
    refine sx_iconst (v := -1) k113_41 (by decide) ?_
    refine sx_aload_n (i := 0) k113_42 rfl rfl ?_
    refine cx_getI (k := 2) k113_43 ow_113 fl_5_23 (by decide) h0 ft_4_2 ?_
    refine sx_bipush (v := 31) k113_46 (by decide) ?_
    refine sx_iand k113_48 ?_
    refine sx_iushr k113_49 ?_
    refine sx_iconst (v := -1) k113_50 (by decide) ?_
    refine sx_ixor k113_51 ?_
    refine sx_iand k113_52 ?_
    obtain ⟨m9, e10, h⟩ := Option.bind_eq_some_iff.mp h
    refine cx_iast k113_53 (kf_4_1 h0).2 e10 ?_
    refine sx_iload_n (i := 3) k113_54 rfl rfl ?_
    refine sx_iconst (v := 1) k113_55 (by decide) ?_
    refine sx_iadd k113_56 ?_
    refine cx_nm h (fun x11 h => ?_)
    refine cx_istore (lo2 := [(4, .int x11), (3, .int x6), (2, .int r2.2), (0, .ref a0), (1, .int p1)]) k113_57 (by rw [mx_113]; decide) rfl ?_
    refine sx_pick (lo2 := [(0, .ref a0), (2, .int r2.2), (4, .int x11)]) [3, 2, 0] rfl ?_
    exact l113_59_ok a0 h0 gF r2.2 x11 _ _ h
  · rw [if_neg hb1] at h
    refine sx_if_gt (tgt := 5) k113_1 (by decide) (fun q => absurd q hb1) (fun _ => ?_)
    exact cx_retv k113_4 rt_113 h
theorem k112_0 : decode (gb 112) 0 = .ok (.iload_n 1, 1) := by decide +kernel
theorem k112_1 : decode (gb 112) 1 = .ok (.ifCond .gt 4, 3) := by decide +kernel
theorem k112_4 : decode (gb 112) 4 = .ok (.return_, 1) := by decide +kernel
theorem k112_5 : decode (gb 112) 5 = .ok (.iload_n 1, 1) := by decide +kernel
theorem k112_6 : decode (gb 112) 6 = .ok (.aload_n 0, 1) := by decide +kernel
theorem k112_7 : decode (gb 112) 7 = .ok (.getfield 23, 3) := by decide +kernel
theorem k112_10 : decode (gb 112) 10 = .ok (.if_icmp .lt 12, 3) := by decide +kernel
theorem k112_13 : decode (gb 112) 13 = .ok (.aload_n 0, 1) := by decide +kernel
theorem k112_14 : decode (gb 112) 14 = .ok (.aload_n 0, 1) := by decide +kernel
theorem k112_15 : decode (gb 112) 15 = .ok (.getfield 23, 3) := by decide +kernel
theorem k112_18 : decode (gb 112) 18 = .ok (.invokevirtual 39, 3) := by decide +kernel
theorem k112_21 : decode (gb 112) 21 = .ok (.return_, 1) := by decide +kernel
theorem k112_22 : decode (gb 112) 22 = .ok (.iload_n 1, 1) := by decide +kernel
theorem k112_23 : decode (gb 112) 23 = .ok (.iconst 5, 1) := by decide +kernel
theorem k112_24 : decode (gb 112) 24 = .ok (.ishr, 1) := by decide +kernel
theorem k112_25 : decode (gb 112) 25 = .ok (.istore_n 2, 1) := by decide +kernel
theorem k112_26 : decode (gb 112) 26 = .ok (.iload_n 1, 1) := by decide +kernel
theorem k112_27 : decode (gb 112) 27 = .ok (.bipush 31, 2) := by decide +kernel
theorem k112_29 : decode (gb 112) 29 = .ok (.iand, 1) := by decide +kernel
theorem k112_30 : decode (gb 112) 30 = .ok (.istore_n 3, 1) := by decide +kernel
theorem k112_31 : decode (gb 112) 31 = .ok (.aload_n 0, 1) := by decide +kernel
theorem k112_32 : decode (gb 112) 32 = .ok (.invokevirtual 42, 3) := by decide +kernel
theorem k112_35 : decode (gb 112) 35 = .ok (.istore 4, 2) := by decide +kernel
theorem k112_37 : decode (gb 112) 37 = .ok (.iload_n 2, 1) := by decide +kernel
theorem k112_38 : decode (gb 112) 38 = .ok (.istore 5, 2) := by decide +kernel
theorem k112_40 : decode (gb 112) 40 = .ok (.iload 5, 2) := by decide +kernel
theorem k112_42 : decode (gb 112) 42 = .ok (.iload 4, 2) := by decide +kernel
theorem k112_44 : decode (gb 112) 44 = .ok (.if_icmp .ge 58, 3) := by decide +kernel
theorem k112_47 : decode (gb 112) 47 = .ok (.aload_n 0, 1) := by decide +kernel
theorem k112_48 : decode (gb 112) 48 = .ok (.getfield 19, 3) := by decide +kernel
theorem k112_51 : decode (gb 112) 51 = .ok (.iload 5, 2) := by decide +kernel
theorem k112_53 : decode (gb 112) 53 = .ok (.iaload, 1) := by decide +kernel
theorem k112_54 : decode (gb 112) 54 = .ok (.iload_n 3, 1) := by decide +kernel
theorem k112_55 : decode (gb 112) 55 = .ok (.ishl, 1) := by decide +kernel
theorem k112_56 : decode (gb 112) 56 = .ok (.istore 6, 2) := by decide +kernel
theorem k112_58 : decode (gb 112) 58 = .ok (.iload_n 3, 1) := by decide +kernel
theorem k112_59 : decode (gb 112) 59 = .ok (.ifCond .ne 7, 3) := by decide +kernel
theorem k112_62 : decode (gb 112) 62 = .ok (.iconst 0, 1) := by decide +kernel
theorem k112_63 : decode (gb 112) 63 = .ok (.goto 17, 3) := by decide +kernel
theorem k112_66 : decode (gb 112) 66 = .ok (.aload_n 0, 1) := by decide +kernel
theorem k112_67 : decode (gb 112) 67 = .ok (.getfield 19, 3) := by decide +kernel
theorem k112_70 : decode (gb 112) 70 = .ok (.iload 5, 2) := by decide +kernel
theorem k112_72 : decode (gb 112) 72 = .ok (.iconst 1, 1) := by decide +kernel
theorem k112_73 : decode (gb 112) 73 = .ok (.iadd, 1) := by decide +kernel
theorem k112_74 : decode (gb 112) 74 = .ok (.iaload, 1) := by decide +kernel
theorem k112_75 : decode (gb 112) 75 = .ok (.bipush 32, 2) := by decide +kernel
theorem k112_77 : decode (gb 112) 77 = .ok (.iload_n 3, 1) := by decide +kernel
theorem k112_78 : decode (gb 112) 78 = .ok (.isub, 1) := by decide +kernel
theorem k112_79 : decode (gb 112) 79 = .ok (.iushr, 1) := by decide +kernel
theorem k112_80 : decode (gb 112) 80 = .ok (.istore 7, 2) := by decide +kernel
theorem k112_82 : decode (gb 112) 82 = .ok (.aload_n 0, 1) := by decide +kernel
theorem k112_83 : decode (gb 112) 83 = .ok (.getfield 19, 3) := by decide +kernel
theorem k112_86 : decode (gb 112) 86 = .ok (.iload 5, 2) := by decide +kernel
theorem k112_88 : decode (gb 112) 88 = .ok (.iload_n 2, 1) := by decide +kernel
theorem k112_89 : decode (gb 112) 89 = .ok (.isub, 1) := by decide +kernel
theorem k112_90 : decode (gb 112) 90 = .ok (.iload 6, 2) := by decide +kernel
theorem k112_92 : decode (gb 112) 92 = .ok (.iload 7, 2) := by decide +kernel
theorem k112_94 : decode (gb 112) 94 = .ok (.ior, 1) := by decide +kernel
theorem k112_95 : decode (gb 112) 95 = .ok (.iastore, 1) := by decide +kernel
theorem k112_96 : decode (gb 112) 96 = .ok (.iinc 5 1, 3) := by decide +kernel
theorem k112_99 : decode (gb 112) 99 = .ok (.goto (-59), 3) := by decide +kernel
theorem k112_102 : decode (gb 112) 102 = .ok (.aload_n 0, 1) := by decide +kernel
theorem k112_103 : decode (gb 112) 103 = .ok (.getfield 19, 3) := by decide +kernel
theorem k112_106 : decode (gb 112) 106 = .ok (.iload 4, 2) := by decide +kernel
theorem k112_108 : decode (gb 112) 108 = .ok (.iload_n 2, 1) := by decide +kernel
theorem k112_109 : decode (gb 112) 109 = .ok (.isub, 1) := by decide +kernel
theorem k112_110 : decode (gb 112) 110 = .ok (.iload 4, 2) := by decide +kernel
theorem k112_112 : decode (gb 112) 112 = .ok (.iconst 0, 1) := by decide +kernel
theorem k112_113 : decode (gb 112) 113 = .ok (.invokestatic 46, 3) := by decide +kernel
theorem k112_116 : decode (gb 112) 116 = .ok (.aload_n 0, 1) := by decide +kernel
theorem k112_117 : decode (gb 112) 117 = .ok (.dup, 1) := by decide +kernel
theorem k112_118 : decode (gb 112) 118 = .ok (.getfield 23, 3) := by decide +kernel
theorem k112_121 : decode (gb 112) 121 = .ok (.iload_n 1, 1) := by decide +kernel
theorem k112_122 : decode (gb 112) 122 = .ok (.isub, 1) := by decide +kernel
theorem k112_123 : decode (gb 112) 123 = .ok (.putfield 23, 3) := by decide +kernel
theorem k112_126 : decode (gb 112) 126 = .ok (.return_, 1) := by decide +kernel
def c112_80 (a0 : Nat) (kl40 : Int32 → Int32 → Int32 → Int32 → Int32 → Mem → Option (Mem)) (v1 : Int32) (v2 : Int32) (v3 : Int32) (v4 : Int32) (v5 : Int32) (v6 : Int32) (s0 : Int32) (μ : Mem) : Option (Mem) :=
  (stA (a0 + 1) (v5 - v2) (v6 ||| s0) μ).bind fun m1 =>
  nm (v5 + (1 : Int32)) fun x3 =>
  kl40 v1 v2 v3 v4 x3 m1
theorem c112_80_ok {L : Nat} (a0 : Nat) (h0 : SK0 a0 = (0, 4)) (kl40 : Int32 → Int32 → Int32 → Int32 → Int32 → Mem → Option (Mem)) (hk40 : (∀ (v1 : Int32) (v2 : Int32) (v3 : Int32) (v4 : Int32) (v5 : Int32) (μ : Mem) (res : Mem), kl40 v1 v2 v3 v4 v5 μ = some res → Sx 112 40 [(0, .ref a0), (1, .int v1), (2, .int v2), (3, .int v3), (4, .int v4), (5, .int v5)] [] 0 0 (mk L μ) (mk L res, none))) (v1 : Int32) (v2 : Int32) (v3 : Int32) (v4 : Int32) (v5 : Int32) (v6 : Int32) (s0 : Int32) (μ : Mem) (res : Mem) (h : c112_80 a0 kl40 v1 v2 v3 v4 v5 v6 s0 μ = some res) : Sx 112 80 [(0, .ref a0), (1, .int v1), (2, .int v2), (3, .int v3), (4, .int v4), (5, .int v5), (6, .int v6)] [.int s0] 0 0 (mk L μ) (mk L res, none) := by
  unfold c112_80 at h
  refine cx_istore (lo2 := [(7, .int s0), (0, .ref a0), (1, .int v1), (2, .int v2), (3, .int v3), (4, .int v4), (5, .int v5), (6, .int v6)]) k112_80 (by rw [mx_112]; decide) rfl ?_
  refine sx_aload_n (i := 0) k112_82 rfl rfl ?_
  refine cx_getR (k := 1) k112_83 ow_112 fl_5_19 (by decide) h0 ft_4_1 (kf_4_1 h0).1 ?_
  refine sx_iload k112_86 rfl ?_
  refine sx_iload_n (i := 2) k112_88 rfl rfl ?_
  refine sx_isub k112_89 ?_
  refine sx_iload k112_90 rfl ?_
  refine sx_iload k112_92 rfl ?_
  refine sx_ior k112_94 ?_
  obtain ⟨m1, e2, h⟩ := Option.bind_eq_some_iff.mp h
  refine cx_iast k112_95 (kf_4_1 h0).2 e2 ?_
  refine cx_iinc (c := 1) (lo2 := fun x3 => [(5, .int x3), (7, .int s0), (0, .ref a0), (1, .int v1), (2, .int v2), (3, .int v3), (4, .int v4), (6, .int v6)]) k112_96 rfl (by decide) (by rw [mx_112]; decide) (fun _ => rfl) h (fun x3 h => ?_)
  refine sx_goto (tgt := 40) k112_99 (by decide) ?_
  refine sx_pick (lo2 := [(0, .ref a0), (1, .int v1), (2, .int v2), (3, .int v3), (4, .int v4), (5, .int x3)]) [2, 3, 4, 5, 6, 0] rfl ?_
  exact hk40 v1 v2 v3 v4 x3 _ _ h
def b112_40 (a0 : Nat) (kl40 : Int32 → Int32 → Int32 → Int32 → Int32 → Mem → Option (Mem)) (v1 : Int32) (v2 : Int32) (v3 : Int32) (v4 : Int32) (v5 : Int32) (μ : Mem) : Option (Mem) :=
  if v4 ≤ v5 then
    (f368 (a0 + 1) (v4 - v2) v4 (0 : Int32) μ).bind fun r2 =>
    (pfI a0 2 ((r2.1 a0 2) - v1) r2).bind fun m4 =>
    some m4
  else
    (ldA (a0 + 1) v5 μ).bind fun x6 =>
    nm (jshl x6 v3) fun x8 =>
    if v3 = 0 then
      c112_80 a0 kl40 v1 v2 v3 v4 v5 x8 (0 : Int32) μ
    else
      (ldA (a0 + 1) (v5 + (1 : Int32)) μ).bind fun x10 =>
      c112_80 a0 kl40 v1 v2 v3 v4 v5 x8 (jushr x10 ((32 : Int32) - v3)) μ
theorem b112_40_ok {L : Nat} (a0 : Nat) (h0 : SK0 a0 = (0, 4)) (kl40 : Int32 → Int32 → Int32 → Int32 → Int32 → Mem → Option (Mem)) (hk40 : (∀ (v1 : Int32) (v2 : Int32) (v3 : Int32) (v4 : Int32) (v5 : Int32) (μ : Mem) (res : Mem), kl40 v1 v2 v3 v4 v5 μ = some res → Sx 112 40 [(0, .ref a0), (1, .int v1), (2, .int v2), (3, .int v3), (4, .int v4), (5, .int v5)] [] 0 0 (mk L μ) (mk L res, none))) (v1 : Int32) (v2 : Int32) (v3 : Int32) (v4 : Int32) (v5 : Int32) (μ : Mem) (res : Mem) (h : b112_40 a0 kl40 v1 v2 v3 v4 v5 μ = some res) : Sx 112 40 [(0, .ref a0), (1, .int v1), (2, .int v2), (3, .int v3), (4, .int v4), (5, .int v5)] [] 0 0 (mk L μ) (mk L res, none) := by
  unfold b112_40 at h
  refine sx_iload k112_40 rfl ?_
  refine sx_iload k112_42 rfl ?_
  by_cases hb1 : v4 ≤ v5
  · rw [if_pos hb1] at h
    refine sx_icmp_ge (tgt := 102) k112_44 (by decide) (fun _ => ?_) (fun q => absurd hb1 q)
    refine sx_aload_n (i := 0) k112_102 rfl rfl ?_
    refine cx_getR (k := 1) k112_103 ow_112 fl_5_19 (by decide) h0 ft_4_1 (kf_4_1 h0).1 ?_
    refine sx_iload k112_106 rfl ?_
    refine sx_iload_n (i := 2) k112_108 rfl rfl ?_
    refine sx_isub k112_109 ?_
    refine sx_iload k112_110 rfl ?_
    refine sx_iconst (v := 0) k112_112 (by decide) ?_
    obtain ⟨r2, e3, h⟩ := Option.bind_eq_some_iff.mp h
    refine cx_S (sk := []) (vs := [.ref (a0 + 1), .int (v4 - v2), .int v4, .int (0 : Int32)]) st_112_368 k112_113 ow_112 cl_5_46 (by decide) rfl (Nat.le_of_ble_eq_true rfl) (ok368 (a0 + 1) (v4 - v2) v4 (0 : Int32) (kf_4_1 h0).2 _ _ e3) (sk3 := []) rfl rfl ?_
    refine sx_aload_n (i := 0) k112_116 rfl rfl ?_
    refine sx_dup k112_117 rfl ?_
    refine cx_getI (k := 2) k112_118 ow_112 fl_5_23 (by decide) h0 ft_4_2 ?_
    refine sx_iload_n (i := 1) k112_121 rfl rfl ?_
    refine sx_isub k112_122 ?_
    obtain ⟨m4, e5, h⟩ := Option.bind_eq_some_iff.mp h
    refine cx_putI (k := 2) k112_123 ow_112 fl_5_23 (by decide) h0 nf_4_2 fu_4_2 e5 ?_
    exact cx_retv k112_126 rt_112 h
  · rw [if_neg hb1] at h
    refine sx_icmp_ge (tgt := 102) k112_44 (by decide) (fun q => absurd q hb1) (fun _ => ?_)
    refine sx_aload_n (i := 0) k112_47 rfl rfl ?_
    refine cx_getR (k := 1) k112_48 ow_112 fl_5_19 (by decide) h0 ft_4_1 (kf_4_1 h0).1 ?_
    refine sx_iload k112_51 rfl ?_
    obtain ⟨x6, e7, h⟩ := Option.bind_eq_some_iff.mp h
    refine cx_iald k112_53 (kf_4_1 h0).2 e7 ?_
    refine sx_iload_n (i := 3) k112_54 rfl rfl ?_
    refine sx_ishl k112_55 ?_
    refine cx_nm h (fun x8 h => ?_)
    refine cx_istore (lo2 := [(6, .int x8), (0, .ref a0), (1, .int v1), (2, .int v2), (3, .int v3), (4, .int v4), (5, .int v5)]) k112_56 (by rw [mx_112]; decide) rfl ?_
    refine sx_iload_n (i := 3) k112_58 rfl rfl ?_
    by_cases hb9 : v3 = 0
    · rw [if_pos hb9] at h
      refine sx_if_ne (tgt := 66) k112_59 (by decide) (fun q => absurd hb9 q) (fun _ => ?_)
      refine sx_iconst (v := 0) k112_62 (by decide) ?_
      refine sx_goto (tgt := 80) k112_63 (by decide) ?_
      refine sx_pick (lo2 := [(0, .ref a0), (1, .int v1), (2, .int v2), (3, .int v3), (4, .int v4), (5, .int v5), (6, .int x8)]) [1, 2, 3, 4, 5, 6, 0] rfl ?_
      exact c112_80_ok a0 h0 kl40 hk40 v1 v2 v3 v4 v5 x8 (0 : Int32) _ _ h
    · rw [if_neg hb9] at h
      refine sx_if_ne (tgt := 66) k112_59 (by decide) (fun _ => ?_) (fun q => absurd q hb9)
      refine sx_aload_n (i := 0) k112_66 rfl rfl ?_
      refine cx_getR (k := 1) k112_67 ow_112 fl_5_19 (by decide) h0 ft_4_1 (kf_4_1 h0).1 ?_
      refine sx_iload k112_70 rfl ?_
      refine sx_iconst (v := 1) k112_72 (by decide) ?_
      refine sx_iadd k112_73 ?_
      obtain ⟨x10, e11, h⟩ := Option.bind_eq_some_iff.mp h
      refine cx_iald k112_74 (kf_4_1 h0).2 e11 ?_
      refine sx_bipush (v := 32) k112_75 (by decide) ?_
      refine sx_iload_n (i := 3) k112_77 rfl rfl ?_
      refine sx_isub k112_78 ?_
      refine sx_iushr k112_79 ?_
      refine sx_pick (lo2 := [(0, .ref a0), (1, .int v1), (2, .int v2), (3, .int v3), (4, .int v4), (5, .int v5), (6, .int x8)]) [1, 2, 3, 4, 5, 6, 0] rfl ?_
      exact c112_80_ok a0 h0 kl40 hk40 v1 v2 v3 v4 v5 x8 (jushr x10 ((32 : Int32) - v3)) _ _ h
def l112_40 (a0 : Nat) : Nat → Int32 × Int32 × Int32 × Int32 × Int32 × Mem → Option (Mem) :=
  fixN (fun self x => b112_40 a0 (fun v1 v2 v3 v4 v5 μ => self (v1, v2, v3, v4, v5, μ)) (x.1) (x.2.1) (x.2.2.1) (x.2.2.2.1) (x.2.2.2.2.1) (x.2.2.2.2.2))
theorem l112_40_ok {L : Nat} (a0 : Nat) (h0 : SK0 a0 = (0, 4)) (n : Nat) (v1 : Int32) (v2 : Int32) (v3 : Int32) (v4 : Int32) (v5 : Int32) (μ : Mem) (res : Mem) (h : l112_40 a0 n (v1, v2, v3, v4, v5, μ) = some res) : Sx 112 40 [(0, .ref a0), (1, .int v1), (2, .int v2), (3, .int v3), (4, .int v4), (5, .int v5)] [] 0 0 (mk L μ) (mk L res, none) := by
  have key := fixN_ind (P := fun x res => Sx 112 40 [(0, .ref a0), (1, .int (x.1)), (2, .int (x.2.1)), (3, .int (x.2.2.1)), (4, .int (x.2.2.2.1)), (5, .int (x.2.2.2.2.1))] [] 0 0 (mk L (x.2.2.2.2.2)) (mk L res, none)) (F := fun self x => b112_40 a0 (fun v1 v2 v3 v4 v5 μ => self (v1, v2, v3, v4, v5, μ)) (x.1) (x.2.1) (x.2.2.1) (x.2.2.2.1) (x.2.2.2.2.1) (x.2.2.2.2.2)) (fun self hself x res h => b112_40_ok a0 h0 (fun v1 v2 v3 v4 v5 μ => self (v1, v2, v3, v4, v5, μ)) (fun v1 v2 v3 v4 v5 μ res hh => hself (v1, v2, v3, v4, v5, μ) res hh) (x.1) (x.2.1) (x.2.2.1) (x.2.2.2.1) (x.2.2.2.2.1) (x.2.2.2.2.2) res h) n (v1, v2, v3, v4, v5, μ) res h
  exact key
/-- Line.dropFirst(I)V -/
def f112 (a0 : Nat) (p1 : Int32) (μ : Mem) : Option (Mem) :=
  if 0 < p1 then
    if p1 < (μ.1 a0 2) then
      nm (jshr p1 (5 : Int32)) fun x3 =>
      nm (p1 &&& (31 : Int32)) fun x4 =>
      (f115 a0 μ).bind fun r5 =>
      l112_40 a0 gF (p1, x3, x4, r5.2, x3, r5.1)
    else
      (f113 a0 (μ.1 a0 2) μ).bind fun r7 =>
      some r7
  else
    some μ
theorem ok112 {L : Nat} (a0 : Nat) (p1 : Int32) (h0 : SK0 a0 = (0, 4)) (μ : Mem) (res : Mem) (h : f112 a0 p1 μ = some res) : Mx 112 [.ref a0, .int p1] (mk L μ) (mk L res, none) := by
  refine Mx_of ml_112 (by rw [mx_112]; exact Nat.le_of_ble_eq_true rfl) ?_
  show Sx 112 0 [(0, .ref a0), (1, .int p1)] [] 0 0 (mk L μ) _
  unfold f112 at h
  refine sx_iload_n (i := 1) k112_0 rfl rfl ?_
  by_cases hb1 : 0 < p1
  · rw [if_pos hb1] at h
    refine sx_if_gt (tgt := 5) k112_1 (by decide) (fun _ => ?_) (fun q => absurd hb1 q)
    refine sx_iload_n (i := 1) k112_5 rfl rfl ?_
    refine sx_aload_n (i := 0) k112_6 rfl rfl ?_
    refine cx_getI (k := 2) k112_7 ow_112 fl_5_23 (by decide) h0 ft_4_2 ?_
    by_cases hb2 : p1 < (μ.1 a0 2)
    · rw [if_pos hb2] at h
      refine sx_icmp_lt (tgt := 22) k112_10 (by decide) (fun _ => ?_) (fun q => absurd hb2 q)
      refine sx_iload_n (i := 1) k112_22 rfl rfl ?_
      refine sx_iconst (v := 5) k112_23 (by decide) ?_
      refine sx_ishr k112_24 ?_
      refine cx_nm h (fun x3 h => ?_)
      refine cx_istore_n (lo2 := [(2, .int x3), (0, .ref a0), (1, .int p1)]) k112_25 rfl (by rw [mx_112]; decide) rfl ?_
      refine sx_iload_n (i := 1) k112_26 rfl rfl ?_
      refine sx_bipush (v := 31) k112_27 (by decide) ?_
      refine sx_iand k112_29 ?_
      refine cx_nm h (fun x4 h => ?_)
      refine cx_istore_n (lo2 := [(3, .int x4), (2, .int x3), (0, .ref a0), (1, .int p1)]) k112_30 rfl (by rw [mx_112]; decide) rfl ?_
      refine sx_aload_n (i := 0) k112_31 rfl rfl ?_
      obtain ⟨r5, e6, h⟩ := Option.bind_eq_some_iff.mp h
      refine cx_V (sk := []) (vs := []) st_112_115 k112_32 ow_112 cl_5_42 (by decide) rfl (Nat.le_of_ble_eq_true rfl) h0 (ok115 a0 h0 _ _ e6) (sk3 := [.int r5.2]) rfl rfl ?_
      refine cx_istore (lo2 := [(4, .int r5.2), (3, .int x4), (2, .int x3), (0, .ref a0), (1, .int p1)]) k112_35 (by rw [mx_112]; decide) rfl ?_
      refine sx_iload_n (i := 2) k112_37 rfl rfl ?_
      refine cx_istore (lo2 := [(5, .int x3), (4, .int r5.2), (3, .int x4), (2, .int x3), (0, .ref a0), (1, .int p1)]) k112_38 (by rw [mx_112]; decide) rfl ?_
      refine sx_pick (lo2 := [(0, .ref a0), (1, .int p1), (2, .int x3), (3, .int x4), (4, .int r5.2), (5, .int x3)]) [4, 5, 3, 2, 1, 0] rfl ?_
      exact l112_40_ok a0 h0 gF p1 x3 x4 r5.2 x3 _ _ h
    · rw [if_neg hb2] at h
      refine sx_icmp_lt (tgt := 22) k112_10 (by decide) (fun q => absurd q hb2) (fun _ => ?_)
      refine sx_aload_n (i := 0) k112_13 rfl rfl ?_
      refine sx_aload_n (i := 0) k112_14 rfl rfl ?_
      refine cx_getI (k := 2) k112_15 ow_112 fl_5_23 (by decide) h0 ft_4_2 ?_
      obtain ⟨r7, e8, h⟩ := Option.bind_eq_some_iff.mp h
      refine cx_V (sk := []) (vs := [.int (μ.1 a0 2)]) st_112_113 k112_18 ow_112 cl_5_39 (by decide) rfl (Nat.le_of_ble_eq_true rfl) h0 (ok113 a0 (μ.1 a0 2) h0 _ _ e8) (sk3 := []) rfl rfl ?_
      exact cx_retv k112_21 rt_112 h
  · rw [if_neg hb1] at h
    refine sx_if_gt (tgt := 5) k112_1 (by decide) (fun q => absurd q hb1) (fun _ => ?_)
    exact cx_retv k112_4 rt_112 h
theorem k114_0 : decode (gb 114) 0 = .ok (.iload_n 1, 1) := by decide +kernel
theorem k114_1 : decode (gb 114) 1 = .ok (.ifCond .lt 11, 3) := by decide +kernel
theorem k114_4 : decode (gb 114) 4 = .ok (.iload_n 1, 1) := by decide +kernel
theorem k114_5 : decode (gb 114) 5 = .ok (.aload_n 0, 1) := by decide +kernel
theorem k114_6 : decode (gb 114) 6 = .ok (.getfield 23, 3) := by decide +kernel
theorem k114_9 : decode (gb 114) 9 = .ok (.if_icmp .lt 4, 3) := by decide +kernel
theorem k114_12 : decode (gb 114) 12 = .ok (.return_, 1) := by decide +kernel
theorem k114_13 : decode (gb 114) 13 = .ok (.aload_n 0, 1) := by decide +kernel
theorem k114_14 : decode (gb 114) 14 = .ok (.invokevirtual 42, 3) := by decide +kernel
theorem k114_17 : decode (gb 114) 17 = .ok (.istore_n 2, 1) := by decide +kernel
theorem k114_18 : decode (gb 114) 18 = .ok (.iload_n 1, 1) := by decide +kernel
theorem k114_19 : decode (gb 114) 19 = .ok (.iconst 5, 1) := by decide +kernel
theorem k114_20 : decode (gb 114) 20 = .ok (.ishr, 1) := by decide +kernel
theorem k114_21 : decode (gb 114) 21 = .ok (.istore_n 3, 1) := by decide +kernel
theorem k114_22 : decode (gb 114) 22 = .ok (.iconst (-1), 1) := by decide +kernel
theorem k114_23 : decode (gb 114) 23 = .ok (.iload_n 1, 1) := by decide +kernel
theorem k114_24 : decode (gb 114) 24 = .ok (.bipush 31, 2) := by decide +kernel
theorem k114_26 : decode (gb 114) 26 = .ok (.iand, 1) := by decide +kernel
theorem k114_27 : decode (gb 114) 27 = .ok (.iushr, 1) := by decide +kernel
theorem k114_28 : decode (gb 114) 28 = .ok (.istore 4, 2) := by decide +kernel
theorem k114_30 : decode (gb 114) 30 = .ok (.aload_n 0, 1) := by decide +kernel
theorem k114_31 : decode (gb 114) 31 = .ok (.getfield 19, 3) := by decide +kernel
theorem k114_34 : decode (gb 114) 34 = .ok (.iload_n 3, 1) := by decide +kernel
theorem k114_35 : decode (gb 114) 35 = .ok (.aload_n 0, 1) := by decide +kernel
theorem k114_36 : decode (gb 114) 36 = .ok (.getfield 19, 3) := by decide +kernel
theorem k114_39 : decode (gb 114) 39 = .ok (.iload_n 3, 1) := by decide +kernel
theorem k114_40 : decode (gb 114) 40 = .ok (.iaload, 1) := by decide +kernel
theorem k114_41 : decode (gb 114) 41 = .ok (.iload 4, 2) := by decide +kernel
theorem k114_43 : decode (gb 114) 43 = .ok (.iconst (-1), 1) := by decide +kernel
theorem k114_44 : decode (gb 114) 44 = .ok (.ixor, 1) := by decide +kernel
theorem k114_45 : decode (gb 114) 45 = .ok (.iand, 1) := by decide +kernel
theorem k114_46 : decode (gb 114) 46 = .ok (.aload_n 0, 1) := by decide +kernel
theorem k114_47 : decode (gb 114) 47 = .ok (.getfield 19, 3) := by decide +kernel
theorem k114_50 : decode (gb 114) 50 = .ok (.iload_n 3, 1) := by decide +kernel
theorem k114_51 : decode (gb 114) 51 = .ok (.iaload, 1) := by decide +kernel
theorem k114_52 : decode (gb 114) 52 = .ok (.iconst 1, 1) := by decide +kernel
theorem k114_53 : decode (gb 114) 53 = .ok (.ishl, 1) := by decide +kernel
theorem k114_54 : decode (gb 114) 54 = .ok (.iload 4, 2) := by decide +kernel
theorem k114_56 : decode (gb 114) 56 = .ok (.iand, 1) := by decide +kernel
theorem k114_57 : decode (gb 114) 57 = .ok (.ior, 1) := by decide +kernel
theorem k114_58 : decode (gb 114) 58 = .ok (.aload_n 0, 1) := by decide +kernel
theorem k114_59 : decode (gb 114) 59 = .ok (.getfield 19, 3) := by decide +kernel
theorem k114_62 : decode (gb 114) 62 = .ok (.iload_n 3, 1) := by decide +kernel
theorem k114_63 : decode (gb 114) 63 = .ok (.iconst 1, 1) := by decide +kernel
theorem k114_64 : decode (gb 114) 64 = .ok (.iadd, 1) := by decide +kernel
theorem k114_65 : decode (gb 114) 65 = .ok (.iaload, 1) := by decide +kernel
theorem k114_66 : decode (gb 114) 66 = .ok (.bipush 31, 2) := by decide +kernel
theorem k114_68 : decode (gb 114) 68 = .ok (.iushr, 1) := by decide +kernel
theorem k114_69 : decode (gb 114) 69 = .ok (.ior, 1) := by decide +kernel
theorem k114_70 : decode (gb 114) 70 = .ok (.iastore, 1) := by decide +kernel
theorem k114_71 : decode (gb 114) 71 = .ok (.iload_n 3, 1) := by decide +kernel
theorem k114_72 : decode (gb 114) 72 = .ok (.iconst 1, 1) := by decide +kernel
theorem k114_73 : decode (gb 114) 73 = .ok (.iadd, 1) := by decide +kernel
theorem k114_74 : decode (gb 114) 74 = .ok (.istore 5, 2) := by decide +kernel
theorem k114_76 : decode (gb 114) 76 = .ok (.iload 5, 2) := by decide +kernel
theorem k114_78 : decode (gb 114) 78 = .ok (.iload_n 2, 1) := by decide +kernel
theorem k114_79 : decode (gb 114) 79 = .ok (.if_icmp .ge 38, 3) := by decide +kernel
theorem k114_82 : decode (gb 114) 82 = .ok (.aload_n 0, 1) := by decide +kernel
theorem k114_83 : decode (gb 114) 83 = .ok (.getfield 19, 3) := by decide +kernel
theorem k114_86 : decode (gb 114) 86 = .ok (.iload 5, 2) := by decide +kernel
theorem k114_88 : decode (gb 114) 88 = .ok (.aload_n 0, 1) := by decide +kernel
theorem k114_89 : decode (gb 114) 89 = .ok (.getfield 19, 3) := by decide +kernel
theorem k114_92 : decode (gb 114) 92 = .ok (.iload 5, 2) := by decide +kernel
theorem k114_94 : decode (gb 114) 94 = .ok (.iaload, 1) := by decide +kernel
theorem k114_95 : decode (gb 114) 95 = .ok (.iconst 1, 1) := by decide +kernel
theorem k114_96 : decode (gb 114) 96 = .ok (.ishl, 1) := by decide +kernel
theorem k114_97 : decode (gb 114) 97 = .ok (.aload_n 0, 1) := by decide +kernel
theorem k114_98 : decode (gb 114) 98 = .ok (.getfield 19, 3) := by decide +kernel
theorem k114_101 : decode (gb 114) 101 = .ok (.iload 5, 2) := by decide +kernel
theorem k114_103 : decode (gb 114) 103 = .ok (.iconst 1, 1) := by decide +kernel
theorem k114_104 : decode (gb 114) 104 = .ok (.iadd, 1) := by decide +kernel
theorem k114_105 : decode (gb 114) 105 = .ok (.iaload, 1) := by decide +kernel
theorem k114_106 : decode (gb 114) 106 = .ok (.bipush 31, 2) := by decide +kernel
theorem k114_108 : decode (gb 114) 108 = .ok (.iushr, 1) := by decide +kernel
theorem k114_109 : decode (gb 114) 109 = .ok (.ior, 1) := by decide +kernel
theorem k114_110 : decode (gb 114) 110 = .ok (.iastore, 1) := by decide +kernel
theorem k114_111 : decode (gb 114) 111 = .ok (.iinc 5 1, 3) := by decide +kernel
theorem k114_114 : decode (gb 114) 114 = .ok (.goto (-38), 3) := by decide +kernel
theorem k114_117 : decode (gb 114) 117 = .ok (.aload_n 0, 1) := by decide +kernel
theorem k114_118 : decode (gb 114) 118 = .ok (.dup, 1) := by decide +kernel
theorem k114_119 : decode (gb 114) 119 = .ok (.getfield 23, 3) := by decide +kernel
theorem k114_122 : decode (gb 114) 122 = .ok (.iconst 1, 1) := by decide +kernel
theorem k114_123 : decode (gb 114) 123 = .ok (.isub, 1) := by decide +kernel
theorem k114_124 : decode (gb 114) 124 = .ok (.putfield 23, 3) := by decide +kernel
theorem k114_127 : decode (gb 114) 127 = .ok (.return_, 1) := by decide +kernel
def b114_76 (a0 : Nat) (kl76 : Int32 → Int32 → Mem → Option (Mem)) (v2 : Int32) (v5 : Int32) (μ : Mem) : Option (Mem) :=
  if v2 ≤ v5 then
    (pfI a0 2 ((μ.1 a0 2) - (1 : Int32)) μ).bind fun m2 =>
    some m2
  else
    (ldA (a0 + 1) v5 μ).bind fun x4 =>
    (ldA (a0 + 1) (v5 + (1 : Int32)) μ).bind fun x6 =>
    (stA (a0 + 1) v5 ((jshl x4 (1 : Int32)) ||| (jushr x6 (31 : Int32))) μ).bind fun m8 =>
    nm (v5 + (1 : Int32)) fun x10 =>
    kl76 v2 x10 m8
theorem b114_76_ok {L : Nat} (a0 : Nat) (h0 : SK0 a0 = (0, 4)) (kl76 : Int32 → Int32 → Mem → Option (Mem)) (hk76 : (∀ (v2 : Int32) (v5 : Int32) (μ : Mem) (res : Mem), kl76 v2 v5 μ = some res → Sx 114 76 [(0, .ref a0), (2, .int v2), (5, .int v5)] [] 0 0 (mk L μ) (mk L res, none))) (v2 : Int32) (v5 : Int32) (μ : Mem) (res : Mem) (h : b114_76 a0 kl76 v2 v5 μ = some res) : Sx 114 76 [(0, .ref a0), (2, .int v2), (5, .int v5)] [] 0 0 (mk L μ) (mk L res, none) := by
  unfold b114_76 at h
  refine sx_iload k114_76 rfl ?_
  refine sx_iload_n (i := 2) k114_78 rfl rfl ?_
  by_cases hb1 : v2 ≤ v5
  · rw [if_pos hb1] at h
    refine sx_icmp_ge (tgt := 117) k114_79 (by decide) (fun _ => ?_) (fun q => absurd hb1 q)
    refine sx_aload_n (i := 0) k114_117 rfl rfl ?_
    refine sx_dup k114_118 rfl ?_
    refine cx_getI (k := 2) k114_119 ow_114 fl_5_23 (by decide) h0 ft_4_2 ?_
    refine sx_iconst (v := 1) k114_122 (by decide) ?_
    refine sx_isub k114_123 ?_
    obtain ⟨m2, e3, h⟩ := Option.bind_eq_some_iff.mp h
    refine cx_putI (k := 2) k114_124 ow_114 fl_5_23 (by decide) h0 nf_4_2 fu_4_2 e3 ?_
    exact cx_retv k114_127 rt_114 h
  · rw [if_neg hb1] at h
    refine sx_icmp_ge (tgt := 117) k114_79 (by decide) (fun q => absurd q hb1) (fun _ => ?_)
    refine sx_aload_n (i := 0) k114_82 rfl rfl ?_
    refine cx_getR (k := 1) k114_83 ow_114 fl_5_19 (by decide) h0 ft_4_1 (kf_4_1 h0).1 ?_
    refine sx_iload k114_86 rfl ?_
    refine sx_aload_n (i := 0) k114_88 rfl rfl ?_
    refine cx_getR (k := 1) k114_89 ow_114 fl_5_19 (by decide) h0 ft_4_1 (kf_4_1 h0).1 ?_
    refine sx_iload k114_92 rfl ?_
    obtain ⟨x4, e5, h⟩ := Option.bind_eq_some_iff.mp h
    refine cx_iald k114_94 (kf_4_1 h0).2 e5 ?_
    refine sx_iconst (v := 1) k114_95 (by decide) ?_
    refine sx_ishl k114_96 ?_
    refine sx_aload_n (i := 0) k114_97 rfl rfl ?_
    refine cx_getR (k := 1) k114_98 ow_114 fl_5_19 (by decide) h0 ft_4_1 (kf_4_1 h0).1 ?_
    refine sx_iload k114_101 rfl ?_
    refine sx_iconst (v := 1) k114_103 (by decide) ?_
    refine sx_iadd k114_104 ?_
    obtain ⟨x6, e7, h⟩ := Option.bind_eq_some_iff.mp h
    refine cx_iald k114_105 (kf_4_1 h0).2 e7 ?_
    refine sx_bipush (v := 31) k114_106 (by decide) ?_
    refine sx_iushr k114_108 ?_
    refine sx_ior k114_109 ?_
    obtain ⟨m8, e9, h⟩ := Option.bind_eq_some_iff.mp h
    refine cx_iast k114_110 (kf_4_1 h0).2 e9 ?_
    refine cx_iinc (c := 1) (lo2 := fun x10 => [(5, .int x10), (0, .ref a0), (2, .int v2)]) k114_111 rfl (by decide) (by rw [mx_114]; decide) (fun _ => rfl) h (fun x10 h => ?_)
    refine sx_goto (tgt := 76) k114_114 (by decide) ?_
    refine sx_pick (lo2 := [(0, .ref a0), (2, .int v2), (5, .int x10)]) [1, 2, 0] rfl ?_
    exact hk76 v2 x10 _ _ h
def l114_76 (a0 : Nat) : Nat → Int32 × Int32 × Mem → Option (Mem) :=
  fixN (fun self x => b114_76 a0 (fun v2 v5 μ => self (v2, v5, μ)) (x.1) (x.2.1) (x.2.2))
theorem l114_76_ok {L : Nat} (a0 : Nat) (h0 : SK0 a0 = (0, 4)) (n : Nat) (v2 : Int32) (v5 : Int32) (μ : Mem) (res : Mem) (h : l114_76 a0 n (v2, v5, μ) = some res) : Sx 114 76 [(0, .ref a0), (2, .int v2), (5, .int v5)] [] 0 0 (mk L μ) (mk L res, none) := by
  have key := fixN_ind (P := fun x res => Sx 114 76 [(0, .ref a0), (2, .int (x.1)), (5, .int (x.2.1))] [] 0 0 (mk L (x.2.2)) (mk L res, none)) (F := fun self x => b114_76 a0 (fun v2 v5 μ => self (v2, v5, μ)) (x.1) (x.2.1) (x.2.2)) (fun self hself x res h => b114_76_ok a0 h0 (fun v2 v5 μ => self (v2, v5, μ)) (fun v2 v5 μ res hh => hself (v2, v5, μ) res hh) (x.1) (x.2.1) (x.2.2) res h) n (v2, v5, μ) res h
  exact key
/-- Line.dropOne(I)V -/
def f114 (a0 : Nat) (p1 : Int32) (μ : Mem) : Option (Mem) :=
  if p1 < 0 then
    some μ
  else
    if p1 < (μ.1 a0 2) then
      (f115 a0 μ).bind fun r3 =>
      nm (jshr p1 (5 : Int32)) fun x5 =>
      nm (jushr (-1 : Int32) (p1 &&& (31 : Int32))) fun x6 =>
      (ldA (a0 + 1) x5 r3.1).bind fun x7 =>
      (ldA (a0 + 1) x5 r3.1).bind fun x9 =>
      (ldA (a0 + 1) (x5 + (1 : Int32)) r3.1).bind fun x11 =>
      (stA (a0 + 1) x5 (((x7 &&& (x6 ^^^ (-1 : Int32))) ||| ((jshl x9 (1 : Int32)) &&& x6)) ||| (jushr x11 (31 : Int32))) r3.1).bind fun m13 =>
      nm (x5 + (1 : Int32)) fun x15 =>
      l114_76 a0 gF (r3.2, x15, m13)
    else
      some μ
theorem ok114 {L : Nat} (a0 : Nat) (p1 : Int32) (h0 : SK0 a0 = (0, 4)) (μ : Mem) (res : Mem) (h : f114 a0 p1 μ = some res) : Mx 114 [.ref a0, .int p1] (mk L μ) (mk L res, none) := by
  refine Mx_of ml_114 (by rw [mx_114]; exact Nat.le_of_ble_eq_true rfl) ?_
  show Sx 114 0 [(0, .ref a0), (1, .int p1)] [] 0 0 (mk L μ) _
  unfold f114 at h
  refine sx_iload_n (i := 1) k114_0 rfl rfl ?_
  by_cases hb1 : p1 < 0
  · rw [if_pos hb1] at h
    refine sx_if_lt (tgt := 12) k114_1 (by decide) (fun _ => ?_) (fun q => absurd hb1 q)
    exact cx_retv k114_12 rt_114 h
  · rw [if_neg hb1] at h
    refine sx_if_lt (tgt := 12) k114_1 (by decide) (fun q => absurd q hb1) (fun _ => ?_)
    refine sx_iload_n (i := 1) k114_4 rfl rfl ?_
    refine sx_aload_n (i := 0) k114_5 rfl rfl ?_
    refine cx_getI (k := 2) k114_6 ow_114 fl_5_23 (by decide) h0 ft_4_2 ?_
    by_cases hb2 : p1 < (μ.1 a0 2)
    · rw [if_pos hb2] at h
      refine sx_icmp_lt (tgt := 13) k114_9 (by decide) (fun _ => ?_) (fun q => absurd hb2 q)
      refine sx_aload_n (i := 0) k114_13 rfl rfl ?_
      obtain ⟨r3, e4, h⟩ := Option.bind_eq_some_iff.mp h
      refine cx_V (sk := []) (vs := []) st_114_115 k114_14 ow_114 cl_5_42 (by decide) rfl (Nat.le_of_ble_eq_true rfl) h0 (ok115 a0 h0 _ _ e4) (sk3 := [.int r3.2]) rfl rfl ?_
      refine cx_istore_n (lo2 := [(2, .int r3.2), (0, .ref a0), (1, .int p1)]) k114_17 rfl (by rw [mx_114]; decide) rfl ?_
      refine sx_iload_n (i := 1) k114_18 rfl rfl ?_
      refine sx_iconst (v := 5) k114_19 (by decide) ?_
      refine sx_ishr k114_20 ?_
      refine cx_nm h (fun x5 h => ?_)
      refine cx_istore_n (lo2 := [(3, .int x5), (2, .int r3.2), (0, .ref a0), (1, .int p1)]) k114_21 rfl (by rw [mx_114]; decide) rfl ?_
      refine sx_iconst (v := -1) k114_22 (by decide) ?_
      refine sx_iload_n (i := 1) k114_23 rfl rfl ?_
      refine sx_bipush (v := 31) k114_24 (by decide) ?_
      refine sx_iand k114_26 ?_
      refine sx_iushr k114_27 ?_
      refine cx_nm h (fun x6 h => ?_)
      refine cx_istore (lo2 := [(4, .int x6), (3, .int x5), (2, .int r3.2), (0, .ref a0), (1, .int p1)]) k114_28 (by rw [mx_114]; decide) rfl ?_
      refine sx_aload_n (i := 0) k114_30 rfl rfl ?_
      refine cx_getR (k := 1) k114_31 ow_114 fl_5_19 (by decide) h0 ft_4_1 (kf_4_1 h0).1 ?_
      refine sx_iload_n (i := 3) k114_34 rfl rfl ?_
      refine sx_aload_n (i := 0) k114_35 rfl rfl ?_
      refine cx_getR (k := 1) k114_36 ow_114 fl_5_19 (by decide) h0 ft_4_1 (kf_4_1 h0).1 ?_
      refine sx_iload_n (i := 3) k114_39 rfl rfl ?_
      obtain ⟨x7, e8, h⟩ := Option.bind_eq_some_iff.mp h
      refine cx_iald k114_40 (kf_4_1 h0).2 e8 ?_
      refine sx_iload k114_41 rfl ?_
      refine sx_iconst (v := -1) k114_43 (by decide) ?_
      refine sx_ixor k114_44 ?_
      refine sx_iand k114_45 ?_
      refine sx_aload_n (i := 0) k114_46 rfl rfl ?_
      refine cx_getR (k := 1) k114_47 ow_114 fl_5_19 (by decide) h0 ft_4_1 (kf_4_1 h0).1 ?_
      refine sx_iload_n (i := 3) k114_50 rfl rfl ?_
      obtain ⟨x9, e10, h⟩ := Option.bind_eq_some_iff.mp h
      refine cx_iald k114_51 (kf_4_1 h0).2 e10 ?_
      refine sx_iconst (v := 1) k114_52 (by decide) ?_
      refine sx_ishl k114_53 ?_
      refine sx_iload k114_54 rfl ?_
      refine sx_iand k114_56 ?_
      refine sx_ior k114_57 ?_
      refine sx_aload_n (i := 0) k114_58 rfl rfl ?_
      refine cx_getR (k := 1) k114_59 ow_114 fl_5_19 (by decide) h0 ft_4_1 (kf_4_1 h0).1 ?_
      refine sx_iload_n (i := 3) k114_62 rfl rfl ?_
      refine sx_iconst (v := 1) k114_63 (by decide) ?_
      refine sx_iadd k114_64 ?_
      obtain ⟨x11, e12, h⟩ := Option.bind_eq_some_iff.mp h
      refine cx_iald k114_65 (kf_4_1 h0).2 e12 ?_
      refine sx_bipush (v := 31) k114_66 (by decide) ?_
      refine sx_iushr k114_68 ?_
      refine sx_ior k114_69 ?_
      obtain ⟨m13, e14, h⟩ := Option.bind_eq_some_iff.mp h
      refine cx_iast k114_70 (kf_4_1 h0).2 e14 ?_
      refine sx_iload_n (i := 3) k114_71 rfl rfl ?_
      refine sx_iconst (v := 1) k114_72 (by decide) ?_
      refine sx_iadd k114_73 ?_
      refine cx_nm h (fun x15 h => ?_)
      refine cx_istore (lo2 := [(5, .int x15), (4, .int x6), (3, .int x5), (2, .int r3.2), (0, .ref a0), (1, .int p1)]) k114_74 (by rw [mx_114]; decide) rfl ?_
      refine sx_pick (lo2 := [(0, .ref a0), (2, .int r3.2), (5, .int x15)]) [4, 3, 0] rfl ?_
      exact l114_76_ok a0 h0 gF r3.2 x15 _ _ h
    · rw [if_neg hb2] at h
      refine sx_icmp_lt (tgt := 13) k114_9 (by decide) (fun q => absurd q hb2) (fun _ => ?_)
      exact cx_retv k114_12 rt_114 h
