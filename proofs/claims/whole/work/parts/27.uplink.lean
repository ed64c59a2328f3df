theorem k182_0 : decode (gb 182) 0 = .ok (.aload_n 0, 1) := by decide +kernel
theorem k182_1 : decode (gb 182) 1 = .ok (.aload_n 0, 1) := by decide +kernel
theorem k182_2 : decode (gb 182) 2 = .ok (.getfield 42, 3) := by decide +kernel
theorem k182_5 : decode (gb 182) 5 = .ok (.iconst 1, 1) := by decide +kernel
theorem k182_6 : decode (gb 182) 6 = .ok (.ishl, 1) := by decide +kernel
theorem k182_7 : decode (gb 182) 7 = .ok (.iload_n 1, 1) := by decide +kernel
theorem k182_8 : decode (gb 182) 8 = .ok (.ior, 1) := by decide +kernel
theorem k182_9 : decode (gb 182) 9 = .ok (.ldc 45, 2) := by decide +kernel
theorem k182_11 : decode (gb 182) 11 = .ok (.iand, 1) := by decide +kernel
theorem k182_12 : decode (gb 182) 12 = .ok (.putfield 42, 3) := by decide +kernel
theorem k182_15 : decode (gb 182) 15 = .ok (.aload_n 0, 1) := by decide +kernel
theorem k182_16 : decode (gb 182) 16 = .ok (.getfield 46, 3) := by decide +kernel
theorem k182_19 : decode (gb 182) 19 = .ok (.bipush 16, 2) := by decide +kernel
theorem k182_21 : decode (gb 182) 21 = .ok (.if_icmp .ge 13, 3) := by decide +kernel
theorem k182_24 : decode (gb 182) 24 = .ok (.aload_n 0, 1) := by decide +kernel
theorem k182_25 : decode (gb 182) 25 = .ok (.dup, 1) := by decide +kernel
theorem k182_26 : decode (gb 182) 26 = .ok (.getfield 46, 3) := by decide +kernel
theorem k182_29 : decode (gb 182) 29 = .ok (.iconst 1, 1) := by decide +kernel
theorem k182_30 : decode (gb 182) 30 = .ok (.iadd, 1) := by decide +kernel
theorem k182_31 : decode (gb 182) 31 = .ok (.putfield 46, 3) := by decide +kernel
theorem k182_34 : decode (gb 182) 34 = .ok (.aload_n 0, 1) := by decide +kernel
theorem k182_35 : decode (gb 182) 35 = .ok (.getfield 46, 3) := by decide +kernel
theorem k182_38 : decode (gb 182) 38 = .ok (.bipush 16, 2) := by decide +kernel
theorem k182_40 : decode (gb 182) 40 = .ok (.if_icmp .ne 37, 3) := by decide +kernel
theorem k182_43 : decode (gb 182) 43 = .ok (.aload_n 0, 1) := by decide +kernel
theorem k182_44 : decode (gb 182) 44 = .ok (.getfield 42, 3) := by decide +kernel
theorem k182_47 : decode (gb 182) 47 = .ok (.ldc 49, 2) := by decide +kernel
theorem k182_49 : decode (gb 182) 49 = .ok (.ixor, 1) := by decide +kernel
theorem k182_50 : decode (gb 182) 50 = .ok (.invokestatic 50, 3) := by decide +kernel
theorem k182_53 : decode (gb 182) 53 = .ok (.iconst 1, 1) := by decide +kernel
theorem k182_54 : decode (gb 182) 54 = .ok (.if_icmp .gt 23, 3) := by decide +kernel
theorem k182_57 : decode (gb 182) 57 = .ok (.aload_n 0, 1) := by decide +kernel
theorem k182_58 : decode (gb 182) 58 = .ok (.iconst 1, 1) := by decide +kernel
theorem k182_59 : decode (gb 182) 59 = .ok (.putfield 24, 3) := by decide +kernel
theorem k182_62 : decode (gb 182) 62 = .ok (.aload_n 0, 1) := by decide +kernel
theorem k182_63 : decode (gb 182) 63 = .ok (.iconst 0, 1) := by decide +kernel
theorem k182_64 : decode (gb 182) 64 = .ok (.putfield 35, 3) := by decide +kernel
theorem k182_67 : decode (gb 182) 67 = .ok (.aload_n 0, 1) := by decide +kernel
theorem k182_68 : decode (gb 182) 68 = .ok (.dup, 1) := by decide +kernel
theorem k182_69 : decode (gb 182) 69 = .ok (.getfield 56, 3) := by decide +kernel
theorem k182_72 : decode (gb 182) 72 = .ok (.iconst 1, 1) := by decide +kernel
theorem k182_73 : decode (gb 182) 73 = .ok (.iadd, 1) := by decide +kernel
theorem k182_74 : decode (gb 182) 74 = .ok (.putfield 56, 3) := by decide +kernel
theorem k182_77 : decode (gb 182) 77 = .ok (.return_, 1) := by decide +kernel
def c182_34 (μ : Mem) : Option (Mem) :=
  if (μ.1 9 3) = (16 : Int32) then
    (f364 ((μ.1 9 2) ^^^ (60304 : Int32)) μ).bind fun r2 =>
    if (1 : Int32) < r2.2 then
      some r2.1
    else
      (pfZ 9 1 (1 : Int32) r2.1).bind fun m5 =>
      (pfI 9 5 (0 : Int32) m5).bind fun m7 =>
      (pfI 9 7 ((m7.1 9 7) + (1 : Int32)) m7).bind fun m9 =>
      some m9
  else
    some μ
theorem c182_34_ok {L : Nat} (μ : Mem) (res : Mem) (h : c182_34 μ = some res) : Sx 182 34 [(0, .ref 9)] [] 0 0 (mk L μ) (mk L res, none) := by
  unfold c182_34 at h
  refine sx_aload_n (i := 0) k182_34 rfl rfl ?_
  refine cx_getI (k := 3) k182_35 ow_182 fl_10_46 (by decide) sk_9 ft_9_3 ?_
  refine sx_bipush (v := 16) k182_38 (by decide) ?_
  by_cases hb1 : (μ.1 9 3) = (16 : Int32)
  · rw [if_pos hb1] at h
    refine sx_icmp_ne (tgt := 77) k182_40 (by decide) (fun q => absurd hb1 q) (fun _ => ?_)
    refine sx_aload_n (i := 0) k182_43 rfl rfl ?_
    refine cx_getI (k := 2) k182_44 ow_182 fl_10_42 (by decide) sk_9 ft_9_2 ?_
    refine cx_ldc (v := 60304) k182_47 ow_182 kl_10_49 (by decide) ?_
    refine sx_ixor k182_49 ?_
    obtain ⟨r2, e3, h⟩ := Option.bind_eq_some_iff.mp h
    refine cx_S (sk := []) (vs := [.int ((μ.1 9 2) ^^^ (60304 : Int32))]) st_182_364 k182_50 ow_182 cl_10_50 (by decide) rfl (Nat.le_of_ble_eq_true rfl) (ok364 ((μ.1 9 2) ^^^ (60304 : Int32)) _ _ e3) (sk3 := [.int r2.2]) rfl rfl ?_
    refine sx_iconst (v := 1) k182_53 (by decide) ?_
    by_cases hb4 : (1 : Int32) < r2.2
    · rw [if_pos hb4] at h
      refine sx_icmp_gt (tgt := 77) k182_54 (by decide) (fun _ => ?_) (fun q => absurd hb4 q)
      exact cx_retv k182_77 rt_182 h
    · rw [if_neg hb4] at h
      refine sx_icmp_gt (tgt := 77) k182_54 (by decide) (fun q => absurd q hb4) (fun _ => ?_)
      refine sx_aload_n (i := 0) k182_57 rfl rfl ?_
      refine sx_iconst (v := 1) k182_58 (by decide) ?_
      obtain ⟨m5, e6, h⟩ := Option.bind_eq_some_iff.mp h
      refine cx_putZ (k := 1) k182_59 ow_182 fl_10_24 (by decide) sk_9 nf_9_1 fu_9_1 e6 ?_
      refine sx_aload_n (i := 0) k182_62 rfl rfl ?_
      refine sx_iconst (v := 0) k182_63 (by decide) ?_
      obtain ⟨m7, e8, h⟩ := Option.bind_eq_some_iff.mp h
      refine cx_putI (k := 5) k182_64 ow_182 fl_10_35 (by decide) sk_9 nf_9_5 fu_9_5 e8 ?_
      refine sx_aload_n (i := 0) k182_67 rfl rfl ?_
      refine sx_dup k182_68 rfl ?_
      refine cx_getI (k := 7) k182_69 ow_182 fl_10_56 (by decide) sk_9 ft_9_7 ?_
      refine sx_iconst (v := 1) k182_72 (by decide) ?_
      refine sx_iadd k182_73 ?_
      obtain ⟨m9, e10, h⟩ := Option.bind_eq_some_iff.mp h
      refine cx_putI (k := 7) k182_74 ow_182 fl_10_56 (by decide) sk_9 nf_9_7 fu_9_7 e10 ?_
      exact cx_retv k182_77 rt_182 h
  · rw [if_neg hb1] at h
    refine sx_icmp_ne (tgt := 77) k182_40 (by decide) (fun _ => ?_) (fun q => absurd q hb1)
    exact cx_retv k182_77 rt_182 h
/-- Uplink.search(I)V -/
def f182 (p1 : Int32) (μ : Mem) : Option (Mem) :=
  (pfI 9 2 (((jshl (μ.1 9 2) (1 : Int32)) ||| p1) &&& (65535 : Int32)) μ).bind fun m1 =>
  if (16 : Int32) ≤ (m1.1 9 3) then
    c182_34 m1
  else
    (pfI 9 3 ((m1.1 9 3) + (1 : Int32)) m1).bind fun m4 =>
    c182_34 m4
theorem ok182 {L : Nat} (p1 : Int32) (μ : Mem) (res : Mem) (h : f182 p1 μ = some res) : Mx 182 [.ref 9, .int p1] (mk L μ) (mk L res, none) := by
  refine Mx_of ml_182 (by rw [mx_182]; exact Nat.le_of_ble_eq_true rfl) ?_
  show Sx 182 0 [(0, .ref 9), (1, .int p1)] [] 0 0 (mk L μ) _
  unfold f182 at h
  refine sx_aload_n (i := 0) k182_0 rfl rfl ?_
  refine sx_aload_n (i := 0) k182_1 rfl rfl ?_
  refine cx_getI (k := 2) k182_2 ow_182 fl_10_42 (by decide) sk_9 ft_9_2 ?_
  refine sx_iconst (v := 1) k182_5 (by decide) ?_
  refine sx_ishl k182_6 ?_
  refine sx_iload_n (i := 1) k182_7 rfl rfl ?_
  refine sx_ior k182_8 ?_
  refine cx_ldc (v := 65535) k182_9 ow_182 kl_10_45 (by decide) ?_
  refine sx_iand k182_11 ?_
  obtain ⟨m1, e2, h⟩ := Option.bind_eq_some_iff.mp h
  refine cx_putI (k := 2) k182_12 ow_182 fl_10_42 (by decide) sk_9 nf_9_2 fu_9_2 e2 ?_
  refine sx_aload_n (i := 0) k182_15 rfl rfl ?_
  refine cx_getI (k := 3) k182_16 ow_182 fl_10_46 (by decide) sk_9 ft_9_3 ?_
  refine sx_bipush (v := 16) k182_19 (by decide) ?_
  by_cases hb3 : (16 : Int32) ≤ (m1.1 9 3)
  · rw [if_pos hb3] at h
    refine sx_icmp_ge (tgt := 34) k182_21 (by decide) (fun _ => ?_) (fun q => absurd hb3 q)
    refine sx_pick (lo2 := [(0, .ref 9)]) [0] rfl ?_
    exact c182_34_ok _ _ h
  · rw [if_neg hb3] at h
    refine sx_icmp_ge (tgt := 34) k182_21 (by decide) (fun q => absurd q hb3) (fun _ => ?_)
    refine sx_aload_n (i := 0) k182_24 rfl rfl ?_
    refine sx_dup k182_25 rfl ?_
    refine cx_getI (k := 3) k182_26 ow_182 fl_10_46 (by decide) sk_9 ft_9_3 ?_
    refine sx_iconst (v := 1) k182_29 (by decide) ?_
    refine sx_iadd k182_30 ?_
    obtain ⟨m4, e5, h⟩ := Option.bind_eq_some_iff.mp h
    refine cx_putI (k := 3) k182_31 ow_182 fl_10_46 (by decide) sk_9 nf_9_3 fu_9_3 e5 ?_
    refine sx_pick (lo2 := [(0, .ref 9)]) [0] rfl ?_
    exact c182_34_ok _ _ h
theorem k183_0 : decode (gb 183) 0 = .ok (.aload_n 0, 1) := by decide +kernel
theorem k183_1 : decode (gb 183) 1 = .ok (.getfield 14, 3) := by decide +kernel
theorem k183_4 : decode (gb 183) 4 = .ok (.getfield 59, 3) := by decide +kernel
theorem k183_7 : decode (gb 183) 7 = .ok (.bipush 112, 2) := by decide +kernel
theorem k183_9 : decode (gb 183) 9 = .ok (.if_icmp .lt 5, 3) := by decide +kernel
theorem k183_12 : decode (gb 183) 12 = .ok (.iconst 0, 1) := by decide +kernel
theorem k183_13 : decode (gb 183) 13 = .ok (.ireturn, 1) := by decide +kernel
theorem k183_14 : decode (gb 183) 14 = .ok (.aload_n 0, 1) := by decide +kernel
theorem k183_15 : decode (gb 183) 15 = .ok (.getfield 31, 3) := by decide +kernel
theorem k183_18 : decode (gb 183) 18 = .ok (.invokestatic 62, 3) := by decide +kernel
theorem k183_21 : decode (gb 183) 21 = .ok (.lstore_n 1, 1) := by decide +kernel
theorem k183_22 : decode (gb 183) 22 = .ok (.lload_n 1, 1) := by decide +kernel
theorem k183_23 : decode (gb 183) 23 = .ok (.lconst 1, 1) := by decide +kernel
theorem k183_24 : decode (gb 183) 24 = .ok (.lcmp, 1) := by decide +kernel
theorem k183_25 : decode (gb 183) 25 = .ok (.ifCond .ne 5, 3) := by decide +kernel
theorem k183_28 : decode (gb 183) 28 = .ok (.iconst 0, 1) := by decide +kernel
theorem k183_29 : decode (gb 183) 29 = .ok (.ireturn, 1) := by decide +kernel
theorem k183_30 : decode (gb 183) 30 = .ok (.lload_n 1, 1) := by decide +kernel
theorem k183_31 : decode (gb 183) 31 = .ok (.lconst 0, 1) := by decide +kernel
theorem k183_32 : decode (gb 183) 32 = .ok (.lcmp, 1) := by decide +kernel
theorem k183_33 : decode (gb 183) 33 = .ok (.ifCond .eq 13, 3) := by decide +kernel
theorem k183_36 : decode (gb 183) 36 = .ok (.aload_n 0, 1) := by decide +kernel
theorem k183_37 : decode (gb 183) 37 = .ok (.dup, 1) := by decide +kernel
theorem k183_38 : decode (gb 183) 38 = .ok (.getfield 66, 3) := by decide +kernel
theorem k183_41 : decode (gb 183) 41 = .ok (.iconst 1, 1) := by decide +kernel
theorem k183_42 : decode (gb 183) 42 = .ok (.iadd, 1) := by decide +kernel
theorem k183_43 : decode (gb 183) 43 = .ok (.putfield 66, 3) := by decide +kernel
theorem k183_46 : decode (gb 183) 46 = .ok (.aload_n 0, 1) := by decide +kernel
theorem k183_47 : decode (gb 183) 47 = .ok (.getfield 14, 3) := by decide +kernel
theorem k183_50 : decode (gb 183) 50 = .ok (.aload_n 0, 1) := by decide +kernel
theorem k183_51 : decode (gb 183) 51 = .ok (.getfield 31, 3) := by decide +kernel
theorem k183_54 : decode (gb 183) 54 = .ok (.lload_n 1, 1) := by decide +kernel
theorem k183_55 : decode (gb 183) 55 = .ok (.lxor, 1) := by decide +kernel
theorem k183_56 : decode (gb 183) 56 = .ok (.invokevirtual 69, 3) := by decide +kernel
theorem k183_59 : decode (gb 183) 59 = .ok (.iconst 1, 1) := by decide +kernel
theorem k183_60 : decode (gb 183) 60 = .ok (.ireturn, 1) := by decide +kernel
def c183_46 (w1 : Int64) (μ : Mem) : Option (Mem × Int32) :=
  (f68 10 ((μ.2 9 4) ^^^ w1) μ).bind fun r1 =>
  rtZ (1 : Int32) r1
theorem c183_46_ok {L : Nat} (w1 : Int64) (μ : Mem) (res : Mem × Int32) (h : c183_46 w1 μ = some res) : Sx 183 46 [(0, .ref 9), (1, .long w1)] [] 0 0 (mk L μ) (mk L res.1, some (.int res.2)) := by
  unfold c183_46 at h
  refine sx_aload_n (i := 0) k183_46 rfl rfl ?_
  refine cx_getR (k := 0) k183_47 ow_183 fl_10_14 (by decide) sk_9 ft_9_0 sr_9_0 ?_
  refine sx_aload_n (i := 0) k183_50 rfl rfl ?_
  refine cx_getL (k := 4) k183_51 ow_183 fl_10_31 (by decide) sk_9 ft_9_4 ?_
  refine sx_lload_n (i := 1) k183_54 rfl rfl ?_
  refine sx_lxor k183_55 ?_
  obtain ⟨r1, e2, h⟩ := Option.bind_eq_some_iff.mp h
  refine cx_V (sk := []) (vs := [.long ((μ.2 9 4) ^^^ w1)]) st_183_68 k183_56 ow_183 cl_10_69 (by decide) rfl (Nat.le_of_ble_eq_true rfl) sk_10 (ok68 10 ((μ.2 9 4) ^^^ w1) sk_10 _ _ e2) (sk3 := []) rfl rfl ?_
  refine sx_iconst (v := 1) k183_59 (by decide) ?_
  exact cx_retz k183_60 rt_183 h
/-- Uplink.keepBlock()Z -/
def f183 (μ : Mem) : Option (Mem × Int32) :=
  if (μ.1 10 1) < (112 : Int32) then
    (f2 (μ.2 9 4) μ).bind fun r2 =>
    if (lg_cmp r2.2 (1 : Int64)) = 0 then
      rtZ (0 : Int32) r2.1
    else
      if (lg_cmp r2.2 (0 : Int64)) = 0 then
        c183_46 r2.2 r2.1
      else
        (pfI 9 6 ((r2.1.1 9 6) + (1 : Int32)) r2.1).bind fun m6 =>
        c183_46 r2.2 m6
  else
    rtZ (0 : Int32) μ
theorem ok183 {L : Nat} (μ : Mem) (res : Mem × Int32) (h : f183 μ = some res) : Mx 183 [.ref 9] (mk L μ) (mk L res.1, some (.int res.2)) := by
  refine Mx_of ml_183 (by rw [mx_183]; exact Nat.le_of_ble_eq_true rfl) ?_
  show Sx 183 0 [(0, .ref 9)] [] 0 0 (mk L μ) _
  unfold f183 at h
  refine sx_aload_n (i := 0) k183_0 rfl rfl ?_
  refine cx_getR (k := 0) k183_1 ow_183 fl_10_14 (by decide) sk_9 ft_9_0 sr_9_0 ?_
  refine cx_getI (k := 1) k183_4 ow_183 fl_10_59 (by decide) sk_10 ft_1_1 ?_
  refine sx_bipush (v := 112) k183_7 (by decide) ?_
  by_cases hb1 : (μ.1 10 1) < (112 : Int32)
  · rw [if_pos hb1] at h
    refine sx_icmp_lt (tgt := 14) k183_9 (by decide) (fun _ => ?_) (fun q => absurd hb1 q)
    refine sx_aload_n (i := 0) k183_14 rfl rfl ?_
    refine cx_getL (k := 4) k183_15 ow_183 fl_10_31 (by decide) sk_9 ft_9_4 ?_
    obtain ⟨r2, e3, h⟩ := Option.bind_eq_some_iff.mp h
    refine cx_S (sk := []) (vs := [.long (μ.2 9 4)]) st_183_2 k183_18 ow_183 cl_10_62 (by decide) rfl (Nat.le_of_ble_eq_true rfl) (ok2 (μ.2 9 4) _ _ e3) (sk3 := [.long r2.2]) rfl rfl ?_
    refine cx_lstore_n (lo2 := [(1, .long r2.2), (0, .ref 9)]) k183_21 rfl (by rw [mx_183]; decide) rfl ?_
    refine sx_lload_n (i := 1) k183_22 rfl rfl ?_
    refine sx_lconst (v := 1) k183_23 (by decide) ?_
    refine sx_lcmp k183_24 ?_
    by_cases hb4 : (lg_cmp r2.2 (1 : Int64)) = 0
    · rw [if_pos hb4] at h
      refine sx_if_ne (tgt := 30) k183_25 (by decide) (fun q => absurd hb4 q) (fun _ => ?_)
      refine sx_iconst (v := 0) k183_28 (by decide) ?_
      exact cx_retz k183_29 rt_183 h
    · rw [if_neg hb4] at h
      refine sx_if_ne (tgt := 30) k183_25 (by decide) (fun _ => ?_) (fun q => absurd q hb4)
      refine sx_lload_n (i := 1) k183_30 rfl rfl ?_
      refine sx_lconst (v := 0) k183_31 (by decide) ?_
      refine sx_lcmp k183_32 ?_
      by_cases hb5 : (lg_cmp r2.2 (0 : Int64)) = 0
      · rw [if_pos hb5] at h
        refine sx_if_eq (tgt := 46) k183_33 (by decide) (fun _ => ?_) (fun q => absurd hb5 q)
        refine sx_pick (lo2 := [(0, .ref 9), (1, .long r2.2)]) [1, 0] rfl ?_
        exact c183_46_ok r2.2 _ _ h
      · rw [if_neg hb5] at h
        refine sx_if_eq (tgt := 46) k183_33 (by decide) (fun q => absurd q hb5) (fun _ => ?_)
        refine sx_aload_n (i := 0) k183_36 rfl rfl ?_
        refine sx_dup k183_37 rfl ?_
        refine cx_getI (k := 6) k183_38 ow_183 fl_10_66 (by decide) sk_9 ft_9_6 ?_
        refine sx_iconst (v := 1) k183_41 (by decide) ?_
        refine sx_iadd k183_42 ?_
        obtain ⟨m6, e7, h⟩ := Option.bind_eq_some_iff.mp h
        refine cx_putI (k := 6) k183_43 ow_183 fl_10_66 (by decide) sk_9 nf_9_6 fu_9_6 e7 ?_
        refine sx_pick (lo2 := [(0, .ref 9), (1, .long r2.2)]) [1, 0] rfl ?_
        exact c183_46_ok r2.2 _ _ h
  · rw [if_neg hb1] at h
    refine sx_icmp_lt (tgt := 14) k183_9 (by decide) (fun q => absurd q hb1) (fun _ => ?_)
    refine sx_iconst (v := 0) k183_12 (by decide) ?_
    exact cx_retz k183_13 rt_183 h
theorem k181_0 : decode (gb 181) 0 = .ok (.aload_n 0, 1) := by decide +kernel
theorem k181_1 : decode (gb 181) 1 = .ok (.getfield 24, 3) := by decide +kernel
theorem k181_4 : decode (gb 181) 4 = .ok (.ifCond .ne 10, 3) := by decide +kernel
theorem k181_7 : decode (gb 181) 7 = .ok (.aload_n 0, 1) := by decide +kernel
theorem k181_8 : decode (gb 181) 8 = .ok (.iload_n 1, 1) := by decide +kernel
theorem k181_9 : decode (gb 181) 9 = .ok (.invokevirtual 28, 3) := by decide +kernel
theorem k181_12 : decode (gb 181) 12 = .ok (.iconst 0, 1) := by decide +kernel
theorem k181_13 : decode (gb 181) 13 = .ok (.ireturn, 1) := by decide +kernel
theorem k181_14 : decode (gb 181) 14 = .ok (.aload_n 0, 1) := by decide +kernel
theorem k181_15 : decode (gb 181) 15 = .ok (.aload_n 0, 1) := by decide +kernel
theorem k181_16 : decode (gb 181) 16 = .ok (.getfield 31, 3) := by decide +kernel
theorem k181_19 : decode (gb 181) 19 = .ok (.iconst 1, 1) := by decide +kernel
theorem k181_20 : decode (gb 181) 20 = .ok (.lshl, 1) := by decide +kernel
theorem k181_21 : decode (gb 181) 21 = .ok (.iload_n 1, 1) := by decide +kernel
theorem k181_22 : decode (gb 181) 22 = .ok (.i2l, 1) := by decide +kernel
theorem k181_23 : decode (gb 181) 23 = .ok (.lor, 1) := by decide +kernel
theorem k181_24 : decode (gb 181) 24 = .ok (.putfield 31, 3) := by decide +kernel
theorem k181_27 : decode (gb 181) 27 = .ok (.aload_n 0, 1) := by decide +kernel
theorem k181_28 : decode (gb 181) 28 = .ok (.dup, 1) := by decide +kernel
theorem k181_29 : decode (gb 181) 29 = .ok (.getfield 35, 3) := by decide +kernel
theorem k181_32 : decode (gb 181) 32 = .ok (.iconst 1, 1) := by decide +kernel
theorem k181_33 : decode (gb 181) 33 = .ok (.iadd, 1) := by decide +kernel
theorem k181_34 : decode (gb 181) 34 = .ok (.putfield 35, 3) := by decide +kernel
theorem k181_37 : decode (gb 181) 37 = .ok (.aload_n 0, 1) := by decide +kernel
theorem k181_38 : decode (gb 181) 38 = .ok (.getfield 35, 3) := by decide +kernel
theorem k181_41 : decode (gb 181) 41 = .ok (.bipush 64, 2) := by decide +kernel
theorem k181_43 : decode (gb 181) 43 = .ok (.if_icmp .ge 5, 3) := by decide +kernel
theorem k181_46 : decode (gb 181) 46 = .ok (.iconst 0, 1) := by decide +kernel
theorem k181_47 : decode (gb 181) 47 = .ok (.ireturn, 1) := by decide +kernel
theorem k181_48 : decode (gb 181) 48 = .ok (.aload_n 0, 1) := by decide +kernel
theorem k181_49 : decode (gb 181) 49 = .ok (.iconst 0, 1) := by decide +kernel
theorem k181_50 : decode (gb 181) 50 = .ok (.putfield 35, 3) := by decide +kernel
theorem k181_53 : decode (gb 181) 53 = .ok (.aload_n 0, 1) := by decide +kernel
theorem k181_54 : decode (gb 181) 54 = .ok (.invokevirtual 38, 3) := by decide +kernel
theorem k181_57 : decode (gb 181) 57 = .ok (.ifCond .ne 7, 3) := by decide +kernel
theorem k181_60 : decode (gb 181) 60 = .ok (.iconst 1, 1) := by decide +kernel
theorem k181_61 : decode (gb 181) 61 = .ok (.goto 4, 3) := by decide +kernel
theorem k181_64 : decode (gb 181) 64 = .ok (.iconst 0, 1) := by decide +kernel
theorem k181_65 : decode (gb 181) 65 = .ok (.ireturn, 1) := by decide +kernel
/-- Uplink.take(I)Z -/
def f181 (p1 : Int32) (μ : Mem) : Option (Mem × Int32) :=
  if (μ.1 9 1) = 0 then
    (f182 p1 μ).bind fun r12 =>
    rtZ (0 : Int32) r12
  else
    (pfL 9 4 ((jlshl (μ.2 9 4) (1 : Int32)) ||| (Int32.toInt64 p1)) μ).bind fun m2 =>
    (pfI 9 5 ((m2.1 9 5) + (1 : Int32)) m2).bind fun m4 =>
    if (64 : Int32) ≤ (m4.1 9 5) then
      (pfI 9 5 (0 : Int32) m4).bind fun m7 =>
      (f183 m7).bind fun r9 =>
      if r9.2 = 0 then
        rtZ (1 : Int32) r9.1
      else
        rtZ (0 : Int32) r9.1
    else
      rtZ (0 : Int32) m4
theorem ok181 {L : Nat} (p1 : Int32) (μ : Mem) (res : Mem × Int32) (h : f181 p1 μ = some res) : Mx 181 [.ref 9, .int p1] (mk L μ) (mk L res.1, some (.int res.2)) := by
  refine Mx_of ml_181 (by rw [mx_181]; exact Nat.le_of_ble_eq_true rfl) ?_
  show Sx 181 0 [(0, .ref 9), (1, .int p1)] [] 0 0 (mk L μ) _
  unfold f181 at h
  refine sx_aload_n (i := 0) k181_0 rfl rfl ?_
  refine cx_getI (k := 1) k181_1 ow_181 fl_10_24 (by decide) sk_9 ft_9_1 ?_
  by_cases hb1 : (μ.1 9 1) = 0
  · rw [if_pos hb1] at h
    refine sx_if_ne (tgt := 14) k181_4 (by decide) (fun q => absurd hb1 q) (fun _ => ?_)
    refine sx_aload_n (i := 0) k181_7 rfl rfl ?_
    refine sx_iload_n (i := 1) k181_8 rfl rfl ?_
    obtain ⟨r12, e13, h⟩ := Option.bind_eq_some_iff.mp h
    refine cx_V (sk := []) (vs := [.int p1]) st_181_182 k181_9 ow_181 cl_10_28 (by decide) rfl (Nat.le_of_ble_eq_true rfl) sk_9 (ok182 p1 _ _ e13) (sk3 := []) rfl rfl ?_
    refine sx_iconst (v := 0) k181_12 (by decide) ?_
    exact cx_retz k181_13 rt_181 h
  · rw [if_neg hb1] at h
    refine sx_if_ne (tgt := 14) k181_4 (by decide) (fun _ => ?_) (fun q => absurd q hb1)
    refine sx_aload_n (i := 0) k181_14 rfl rfl ?_
    refine sx_aload_n (i := 0) k181_15 rfl rfl ?_
    refine cx_getL (k := 4) k181_16 ow_181 fl_10_31 (by decide) sk_9 ft_9_4 ?_
    refine sx_iconst (v := 1) k181_19 (by decide) ?_
    refine sx_lshl k181_20 ?_
    refine sx_iload_n (i := 1) k181_21 rfl rfl ?_
    refine sx_i2l k181_22 ?_
    refine sx_lor k181_23 ?_
    obtain ⟨m2, e3, h⟩ := Option.bind_eq_some_iff.mp h
    refine cx_putL (k := 4) k181_24 ow_181 fl_10_31 (by decide) sk_9 nf_9_4 fu_9_4 e3 ?_
    refine sx_aload_n (i := 0) k181_27 rfl rfl ?_
    refine sx_dup k181_28 rfl ?_
    refine cx_getI (k := 5) k181_29 ow_181 fl_10_35 (by decide) sk_9 ft_9_5 ?_
    refine sx_iconst (v := 1) k181_32 (by decide) ?_
    refine sx_iadd k181_33 ?_
    obtain ⟨m4, e5, h⟩ := Option.bind_eq_some_iff.mp h
    refine cx_putI (k := 5) k181_34 ow_181 fl_10_35 (by decide) sk_9 nf_9_5 fu_9_5 e5 ?_
    refine sx_aload_n (i := 0) k181_37 rfl rfl ?_
    refine cx_getI (k := 5) k181_38 ow_181 fl_10_35 (by decide) sk_9 ft_9_5 ?_
    refine sx_bipush (v := 64) k181_41 (by decide) ?_
    by_cases hb6 : (64 : Int32) ≤ (m4.1 9 5)
    · rw [if_pos hb6] at h
      refine sx_icmp_ge (tgt := 48) k181_43 (by decide) (fun _ => ?_) (fun q => absurd hb6 q)
      refine sx_aload_n (i := 0) k181_48 rfl rfl ?_
      refine sx_iconst (v := 0) k181_49 (by decide) ?_
      obtain ⟨m7, e8, h⟩ := Option.bind_eq_some_iff.mp h
      refine cx_putI (k := 5) k181_50 ow_181 fl_10_35 (by decide) sk_9 nf_9_5 fu_9_5 e8 ?_
      refine sx_aload_n (i := 0) k181_53 rfl rfl ?_
      obtain ⟨r9, e10, h⟩ := Option.bind_eq_some_iff.mp h
      refine cx_V (sk := []) (vs := []) st_181_183 k181_54 ow_181 cl_10_38 (by decide) rfl (Nat.le_of_ble_eq_true rfl) sk_9 (ok183 _ _ e10) (sk3 := [.int r9.2]) rfl rfl ?_
      by_cases hb11 : r9.2 = 0
      · rw [if_pos hb11] at h
        refine sx_if_ne (tgt := 64) k181_57 (by decide) (fun q => absurd hb11 q) (fun _ => ?_)
        refine sx_iconst (v := 1) k181_60 (by decide) ?_
        refine sx_goto (tgt := 65) k181_61 (by decide) ?_
        exact cx_retz k181_65 rt_181 h
      · rw [if_neg hb11] at h
        refine sx_if_ne (tgt := 64) k181_57 (by decide) (fun _ => ?_) (fun q => absurd q hb11)
        refine sx_iconst (v := 0) k181_64 (by decide) ?_
        exact cx_retz k181_65 rt_181 h
    · rw [if_neg hb6] at h
      refine sx_icmp_ge (tgt := 48) k181_43 (by decide) (fun q => absurd q hb6) (fun _ => ?_)
      refine sx_iconst (v := 0) k181_46 (by decide) ?_
      exact cx_retz k181_47 rt_181 h
theorem k184_0 : decode (gb 184) 0 = .ok (.aload_n 0, 1) := by decide +kernel
theorem k184_1 : decode (gb 184) 1 = .ok (.iconst 0, 1) := by decide +kernel
theorem k184_2 : decode (gb 184) 2 = .ok (.putfield 24, 3) := by decide +kernel
theorem k184_5 : decode (gb 184) 5 = .ok (.aload_n 0, 1) := by decide +kernel
theorem k184_6 : decode (gb 184) 6 = .ok (.iconst 0, 1) := by decide +kernel
theorem k184_7 : decode (gb 184) 7 = .ok (.putfield 42, 3) := by decide +kernel
theorem k184_10 : decode (gb 184) 10 = .ok (.aload_n 0, 1) := by decide +kernel
theorem k184_11 : decode (gb 184) 11 = .ok (.iconst 0, 1) := by decide +kernel
theorem k184_12 : decode (gb 184) 12 = .ok (.putfield 46, 3) := by decide +kernel
theorem k184_15 : decode (gb 184) 15 = .ok (.aload_n 0, 1) := by decide +kernel
theorem k184_16 : decode (gb 184) 16 = .ok (.getfield 14, 3) := by decide +kernel
theorem k184_19 : decode (gb 184) 19 = .ok (.invokevirtual 73, 3) := by decide +kernel
theorem k184_22 : decode (gb 184) 22 = .ok (.return_, 1) := by decide +kernel
/-- Uplink.endUnit()V -/
def f184 (μ : Mem) : Option (Mem) :=
  (pfZ 9 1 (0 : Int32) μ).bind fun m1 =>
  (pfI 9 2 (0 : Int32) m1).bind fun m3 =>
  (pfI 9 3 (0 : Int32) m3).bind fun m5 =>
  (f64 10 m5).bind fun r7 =>
  some r7
theorem ok184 {L : Nat} (μ : Mem) (res : Mem) (h : f184 μ = some res) : Mx 184 [.ref 9] (mk L μ) (mk L res, none) := by
  refine Mx_of ml_184 (by rw [mx_184]; exact Nat.le_of_ble_eq_true rfl) ?_
  show Sx 184 0 [(0, .ref 9)] [] 0 0 (mk L μ) _
  unfold f184 at h
  refine sx_aload_n (i := 0) k184_0 rfl rfl ?_
  refine sx_iconst (v := 0) k184_1 (by decide) ?_
  obtain ⟨m1, e2, h⟩ := Option.bind_eq_some_iff.mp h
  refine cx_putZ (k := 1) k184_2 ow_184 fl_10_24 (by decide) sk_9 nf_9_1 fu_9_1 e2 ?_
  refine sx_aload_n (i := 0) k184_5 rfl rfl ?_
  refine sx_iconst (v := 0) k184_6 (by decide) ?_
  obtain ⟨m3, e4, h⟩ := Option.bind_eq_some_iff.mp h
  refine cx_putI (k := 2) k184_7 ow_184 fl_10_42 (by decide) sk_9 nf_9_2 fu_9_2 e4 ?_
  refine sx_aload_n (i := 0) k184_10 rfl rfl ?_
  refine sx_iconst (v := 0) k184_11 (by decide) ?_
  obtain ⟨m5, e6, h⟩ := Option.bind_eq_some_iff.mp h
  refine cx_putI (k := 3) k184_12 ow_184 fl_10_46 (by decide) sk_9 nf_9_3 fu_9_3 e6 ?_
  refine sx_aload_n (i := 0) k184_15 rfl rfl ?_
  refine cx_getR (k := 0) k184_16 ow_184 fl_10_14 (by decide) sk_9 ft_9_0 sr_9_0 ?_
  obtain ⟨r7, e8, h⟩ := Option.bind_eq_some_iff.mp h
  refine cx_V (sk := []) (vs := []) st_184_64 k184_19 ow_184 cl_10_73 (by decide) rfl (Nat.le_of_ble_eq_true rfl) sk_10 (ok64 10 sk_10 _ _ e8) (sk3 := []) rfl rfl ?_
  exact cx_retv k184_22 rt_184 h
theorem k185_0 : decode (gb 185) 0 = .ok (.aload_n 0, 1) := by decide +kernel
theorem k185_1 : decode (gb 185) 1 = .ok (.getfield 14, 3) := by decide +kernel
theorem k185_4 : decode (gb 185) 4 = .ok (.getfield 59, 3) := by decide +kernel
theorem k185_7 : decode (gb 185) 7 = .ok (.iload_n 1, 1) := by decide +kernel
theorem k185_8 : decode (gb 185) 8 = .ok (.isub, 1) := by decide +kernel
theorem k185_9 : decode (gb 185) 9 = .ok (.istore_n 2, 1) := by decide +kernel
theorem k185_10 : decode (gb 185) 10 = .ok (.iload_n 2, 1) := by decide +kernel
theorem k185_11 : decode (gb 185) 11 = .ok (.bipush 7, 2) := by decide +kernel
theorem k185_13 : decode (gb 185) 13 = .ok (.if_icmp .lt 18, 3) := by decide +kernel
theorem k185_16 : decode (gb 185) 16 = .ok (.aload_n 0, 1) := by decide +kernel
theorem k185_17 : decode (gb 185) 17 = .ok (.getfield 14, 3) := by decide +kernel
theorem k185_20 : decode (gb 185) 20 = .ok (.iload_n 1, 1) := by decide +kernel
theorem k185_21 : decode (gb 185) 21 = .ok (.invokevirtual 76, 3) := by decide +kernel
theorem k185_24 : decode (gb 185) 24 = .ok (.sipush 192, 3) := by decide +kernel
theorem k185_27 : decode (gb 185) 27 = .ok (.iand, 1) := by decide +kernel
theorem k185_28 : decode (gb 185) 28 = .ok (.ifCond .eq 5, 3) := by decide +kernel
theorem k185_31 : decode (gb 185) 31 = .ok (.iconst 0, 1) := by decide +kernel
theorem k185_32 : decode (gb 185) 32 = .ok (.ireturn, 1) := by decide +kernel
theorem k185_33 : decode (gb 185) 33 = .ok (.aload_n 0, 1) := by decide +kernel
theorem k185_34 : decode (gb 185) 34 = .ok (.getfield 14, 3) := by decide +kernel
theorem k185_37 : decode (gb 185) 37 = .ok (.iload_n 1, 1) := by decide +kernel
theorem k185_38 : decode (gb 185) 38 = .ok (.iconst 2, 1) := by decide +kernel
theorem k185_39 : decode (gb 185) 39 = .ok (.iadd, 1) := by decide +kernel
theorem k185_40 : decode (gb 185) 40 = .ok (.invokevirtual 79, 3) := by decide +kernel
theorem k185_43 : decode (gb 185) 43 = .ok (.sipush 1023, 3) := by decide +kernel
theorem k185_46 : decode (gb 185) 46 = .ok (.iand, 1) := by decide +kernel
theorem k185_47 : decode (gb 185) 47 = .ok (.iconst 1, 1) := by decide +kernel
theorem k185_48 : decode (gb 185) 48 = .ok (.iadd, 1) := by decide +kernel
theorem k185_49 : decode (gb 185) 49 = .ok (.istore_n 3, 1) := by decide +kernel
theorem k185_50 : decode (gb 185) 50 = .ok (.iload_n 3, 1) := by decide +kernel
theorem k185_51 : decode (gb 185) 51 = .ok (.iload_n 2, 1) := by decide +kernel
theorem k185_52 : decode (gb 185) 52 = .ok (.if_icmp .le 15, 3) := by decide +kernel
theorem k185_55 : decode (gb 185) 55 = .ok (.aload_n 0, 1) := by decide +kernel
theorem k185_56 : decode (gb 185) 56 = .ok (.dup, 1) := by decide +kernel
theorem k185_57 : decode (gb 185) 57 = .ok (.getfield 82, 3) := by decide +kernel
theorem k185_60 : decode (gb 185) 60 = .ok (.iconst 1, 1) := by decide +kernel
theorem k185_61 : decode (gb 185) 61 = .ok (.iadd, 1) := by decide +kernel
theorem k185_62 : decode (gb 185) 62 = .ok (.putfield 82, 3) := by decide +kernel
theorem k185_65 : decode (gb 185) 65 = .ok (.iconst 0, 1) := by decide +kernel
theorem k185_66 : decode (gb 185) 66 = .ok (.ireturn, 1) := by decide +kernel
theorem k185_67 : decode (gb 185) 67 = .ok (.iload_n 3, 1) := by decide +kernel
theorem k185_68 : decode (gb 185) 68 = .ok (.ireturn, 1) := by decide +kernel
/-- Uplink.frameBytes(I)I -/
def f185 (p1 : Int32) (μ : Mem) : Option (Mem × Int32) :=
  nm ((μ.1 10 1) - p1) fun x1 =>
  if x1 < (7 : Int32) then
    some (μ, (0 : Int32))
  else
    (f75 10 p1 μ).bind fun r3 =>
    if (r3.2 &&& (192 : Int32)) = 0 then
      (f76 10 (p1 + (2 : Int32)) r3.1).bind fun r6 =>
      nm ((r6.2 &&& (1023 : Int32)) + (1 : Int32)) fun x8 =>
      if x8 ≤ x1 then
        some (r6.1, x8)
      else
        (pfI 9 9 ((r6.1.1 9 9) + (1 : Int32)) r6.1).bind fun m10 =>
        some (m10, (0 : Int32))
    else
      some (r3.1, (0 : Int32))
theorem ok185 {L : Nat} (p1 : Int32) (μ : Mem) (res : Mem × Int32) (h : f185 p1 μ = some res) : Mx 185 [.ref 9, .int p1] (mk L μ) (mk L res.1, some (.int res.2)) := by
  refine Mx_of ml_185 (by rw [mx_185]; exact Nat.le_of_ble_eq_true rfl) ?_
  show Sx 185 0 [(0, .ref 9), (1, .int p1)] [] 0 0 (mk L μ) _
  unfold f185 at h
  refine sx_aload_n (i := 0) k185_0 rfl rfl ?_
  refine cx_getR (k := 0) k185_1 ow_185 fl_10_14 (by decide) sk_9 ft_9_0 sr_9_0 ?_
  refine cx_getI (k := 1) k185_4 ow_185 fl_10_59 (by decide) sk_10 ft_1_1 ?_
  refine sx_iload_n (i := 1) k185_7 rfl rfl ?_
  refine sx_isub k185_8 ?_
  refine cx_nm h (fun x1 h => ?_)
  refine cx_istore_n (lo2 := [(2, .int x1), (0, .ref 9), (1, .int p1)]) k185_9 rfl (by rw [mx_185]; decide) rfl ?_
  refine sx_iload_n (i := 2) k185_10 rfl rfl ?_
  refine sx_bipush (v := 7) k185_11 (by decide) ?_
  by_cases hb2 : x1 < (7 : Int32)
  · rw [if_pos hb2] at h
    refine sx_icmp_lt (tgt := 31) k185_13 (by decide) (fun _ => ?_) (fun q => absurd hb2 q)
    refine sx_iconst (v := 0) k185_31 (by decide) ?_
    exact cx_reti k185_32 rt_185 h
  · rw [if_neg hb2] at h
    refine sx_icmp_lt (tgt := 31) k185_13 (by decide) (fun q => absurd q hb2) (fun _ => ?_)
    refine sx_aload_n (i := 0) k185_16 rfl rfl ?_
    refine cx_getR (k := 0) k185_17 ow_185 fl_10_14 (by decide) sk_9 ft_9_0 sr_9_0 ?_
    refine sx_iload_n (i := 1) k185_20 rfl rfl ?_
    obtain ⟨r3, e4, h⟩ := Option.bind_eq_some_iff.mp h
    refine cx_V (sk := []) (vs := [.int p1]) st_185_75 k185_21 ow_185 cl_10_76 (by decide) rfl (Nat.le_of_ble_eq_true rfl) sk_10 (ok75 10 p1 sk_10 _ _ e4) (sk3 := [.int r3.2]) rfl rfl ?_
    refine sx_sipush (v := 192) k185_24 (by decide) ?_
    refine sx_iand k185_27 ?_
    by_cases hb5 : (r3.2 &&& (192 : Int32)) = 0
    · rw [if_pos hb5] at h
      refine sx_if_eq (tgt := 33) k185_28 (by decide) (fun _ => ?_) (fun q => absurd hb5 q)
      refine sx_aload_n (i := 0) k185_33 rfl rfl ?_
      refine cx_getR (k := 0) k185_34 ow_185 fl_10_14 (by decide) sk_9 ft_9_0 sr_9_0 ?_
      refine sx_iload_n (i := 1) k185_37 rfl rfl ?_
      refine sx_iconst (v := 2) k185_38 (by decide) ?_
      refine sx_iadd k185_39 ?_
      obtain ⟨r6, e7, h⟩ := Option.bind_eq_some_iff.mp h
      refine cx_V (sk := []) (vs := [.int (p1 + (2 : Int32))]) st_185_76 k185_40 ow_185 cl_10_79 (by decide) rfl (Nat.le_of_ble_eq_true rfl) sk_10 (ok76 10 (p1 + (2 : Int32)) sk_10 _ _ e7) (sk3 := [.int r6.2]) rfl rfl ?_
      refine sx_sipush (v := 1023) k185_43 (by decide) ?_
      refine sx_iand k185_46 ?_
      refine sx_iconst (v := 1) k185_47 (by decide) ?_
      refine sx_iadd k185_48 ?_
      refine cx_nm h (fun x8 h => ?_)
      refine cx_istore_n (lo2 := [(3, .int x8), (2, .int x1), (0, .ref 9), (1, .int p1)]) k185_49 rfl (by rw [mx_185]; decide) rfl ?_
      refine sx_iload_n (i := 3) k185_50 rfl rfl ?_
      refine sx_iload_n (i := 2) k185_51 rfl rfl ?_
      by_cases hb9 : x8 ≤ x1
      · rw [if_pos hb9] at h
        refine sx_icmp_le (tgt := 67) k185_52 (by decide) (fun _ => ?_) (fun q => absurd hb9 q)
        refine sx_iload_n (i := 3) k185_67 rfl rfl ?_
        exact cx_reti k185_68 rt_185 h
      · rw [if_neg hb9] at h
        refine sx_icmp_le (tgt := 67) k185_52 (by decide) (fun q => absurd q hb9) (fun _ => ?_)
        refine sx_aload_n (i := 0) k185_55 rfl rfl ?_
        refine sx_dup k185_56 rfl ?_
        refine cx_getI (k := 9) k185_57 ow_185 fl_10_82 (by decide) sk_9 ft_9_9 ?_
        refine sx_iconst (v := 1) k185_60 (by decide) ?_
        refine sx_iadd k185_61 ?_
        obtain ⟨m10, e11, h⟩ := Option.bind_eq_some_iff.mp h
        refine cx_putI (k := 9) k185_62 ow_185 fl_10_82 (by decide) sk_9 nf_9_9 fu_9_9 e11 ?_
        refine sx_iconst (v := 0) k185_65 (by decide) ?_
        exact cx_reti k185_66 rt_185 h
    · rw [if_neg hb5] at h
      refine sx_if_eq (tgt := 33) k185_28 (by decide) (fun q => absurd q hb5) (fun _ => ?_)
      refine sx_iconst (v := 0) k185_31 (by decide) ?_
      exact cx_reti k185_32 rt_185 h
theorem k188_0 : decode (gb 188) 0 = .ok (.iload_n 2, 1) := by decide +kernel
theorem k188_1 : decode (gb 188) 1 = .ok (.bipush 8, 2) := by decide +kernel
theorem k188_3 : decode (gb 188) 3 = .ok (.if_icmp .ne 20, 3) := by decide +kernel
theorem k188_6 : decode (gb 188) 6 = .ok (.aload_n 0, 1) := by decide +kernel
theorem k188_7 : decode (gb 188) 7 = .ok (.getfield 14, 3) := by decide +kernel
theorem k188_10 : decode (gb 188) 10 = .ok (.iload_n 1, 1) := by decide +kernel
theorem k188_11 : decode (gb 188) 11 = .ok (.iconst 5, 1) := by decide +kernel
theorem k188_12 : decode (gb 188) 12 = .ok (.iadd, 1) := by decide +kernel
theorem k188_13 : decode (gb 188) 13 = .ok (.invokevirtual 76, 3) := by decide +kernel
theorem k188_16 : decode (gb 188) 16 = .ok (.ifCond .ne 7, 3) := by decide +kernel
theorem k188_19 : decode (gb 188) 19 = .ok (.iconst 1, 1) := by decide +kernel
theorem k188_20 : decode (gb 188) 20 = .ok (.goto 4, 3) := by decide +kernel
theorem k188_23 : decode (gb 188) 23 = .ok (.iconst 0, 1) := by decide +kernel
theorem k188_24 : decode (gb 188) 24 = .ok (.ireturn, 1) := by decide +kernel
/-- Uplink.isUnlock(II)Z -/
def f188 (p1 : Int32) (p2 : Int32) (μ : Mem) : Option (Mem × Int32) :=
  if p2 = (8 : Int32) then
    (f75 10 (p1 + (5 : Int32)) μ).bind fun r2 =>
    if r2.2 = 0 then
      rtZ (1 : Int32) r2.1
    else
      rtZ (0 : Int32) r2.1
  else
    rtZ (0 : Int32) μ
theorem ok188 {L : Nat} (p1 : Int32) (p2 : Int32) (μ : Mem) (res : Mem × Int32) (h : f188 p1 p2 μ = some res) : Mx 188 [.ref 9, .int p1, .int p2] (mk L μ) (mk L res.1, some (.int res.2)) := by
  refine Mx_of ml_188 (by rw [mx_188]; exact Nat.le_of_ble_eq_true rfl) ?_
  show Sx 188 0 [(0, .ref 9), (1, .int p1), (2, .int p2)] [] 0 0 (mk L μ) _
  unfold f188 at h
  refine sx_iload_n (i := 2) k188_0 rfl rfl ?_
  refine sx_bipush (v := 8) k188_1 (by decide) ?_
  by_cases hb1 : p2 = (8 : Int32)
  · rw [if_pos hb1] at h
    refine sx_icmp_ne (tgt := 23) k188_3 (by decide) (fun q => absurd hb1 q) (fun _ => ?_)
    refine sx_aload_n (i := 0) k188_6 rfl rfl ?_
    refine cx_getR (k := 0) k188_7 ow_188 fl_10_14 (by decide) sk_9 ft_9_0 sr_9_0 ?_
    refine sx_iload_n (i := 1) k188_10 rfl rfl ?_
    refine sx_iconst (v := 5) k188_11 (by decide) ?_
    refine sx_iadd k188_12 ?_
    obtain ⟨r2, e3, h⟩ := Option.bind_eq_some_iff.mp h
    refine cx_V (sk := []) (vs := [.int (p1 + (5 : Int32))]) st_188_75 k188_13 ow_188 cl_10_76 (by decide) rfl (Nat.le_of_ble_eq_true rfl) sk_10 (ok75 10 (p1 + (5 : Int32)) sk_10 _ _ e3) (sk3 := [.int r2.2]) rfl rfl ?_
    by_cases hb4 : r2.2 = 0
    · rw [if_pos hb4] at h
      refine sx_if_ne (tgt := 23) k188_16 (by decide) (fun q => absurd hb4 q) (fun _ => ?_)
      refine sx_iconst (v := 1) k188_19 (by decide) ?_
      refine sx_goto (tgt := 24) k188_20 (by decide) ?_
      exact cx_retz k188_24 rt_188 h
    · rw [if_neg hb4] at h
      refine sx_if_ne (tgt := 23) k188_16 (by decide) (fun _ => ?_) (fun q => absurd q hb4)
      refine sx_iconst (v := 0) k188_23 (by decide) ?_
      exact cx_retz k188_24 rt_188 h
  · rw [if_neg hb1] at h
    refine sx_icmp_ne (tgt := 23) k188_3 (by decide) (fun _ => ?_) (fun q => absurd q hb1)
    refine sx_iconst (v := 0) k188_23 (by decide) ?_
    exact cx_retz k188_24 rt_188 h
theorem k189_0 : decode (gb 189) 0 = .ok (.iload_n 2, 1) := by decide +kernel
theorem k189_1 : decode (gb 189) 1 = .ok (.bipush 10, 2) := by decide +kernel
theorem k189_3 : decode (gb 189) 3 = .ok (.if_icmp .ne 22, 3) := by decide +kernel
theorem k189_6 : decode (gb 189) 6 = .ok (.aload_n 0, 1) := by decide +kernel
theorem k189_7 : decode (gb 189) 7 = .ok (.getfield 14, 3) := by decide +kernel
theorem k189_10 : decode (gb 189) 10 = .ok (.iload_n 1, 1) := by decide +kernel
theorem k189_11 : decode (gb 189) 11 = .ok (.iconst 5, 1) := by decide +kernel
theorem k189_12 : decode (gb 189) 12 = .ok (.iadd, 1) := by decide +kernel
theorem k189_13 : decode (gb 189) 13 = .ok (.invokevirtual 79, 3) := by decide +kernel
theorem k189_16 : decode (gb 189) 16 = .ok (.ldc 116, 2) := by decide +kernel
theorem k189_18 : decode (gb 189) 18 = .ok (.if_icmp .ne 7, 3) := by decide +kernel
theorem k189_21 : decode (gb 189) 21 = .ok (.iconst 1, 1) := by decide +kernel
theorem k189_22 : decode (gb 189) 22 = .ok (.goto 4, 3) := by decide +kernel
theorem k189_25 : decode (gb 189) 25 = .ok (.iconst 0, 1) := by decide +kernel
theorem k189_26 : decode (gb 189) 26 = .ok (.ireturn, 1) := by decide +kernel
/-- Uplink.isSet(II)Z -/
def f189 (p1 : Int32) (p2 : Int32) (μ : Mem) : Option (Mem × Int32) :=
  if p2 = (10 : Int32) then
    (f76 10 (p1 + (5 : Int32)) μ).bind fun r2 =>
    if r2.2 = (33280 : Int32) then
      rtZ (1 : Int32) r2.1
    else
      rtZ (0 : Int32) r2.1
  else
    rtZ (0 : Int32) μ
theorem ok189 {L : Nat} (p1 : Int32) (p2 : Int32) (μ : Mem) (res : Mem × Int32) (h : f189 p1 p2 μ = some res) : Mx 189 [.ref 9, .int p1, .int p2] (mk L μ) (mk L res.1, some (.int res.2)) := by
  refine Mx_of ml_189 (by rw [mx_189]; exact Nat.le_of_ble_eq_true rfl) ?_
  show Sx 189 0 [(0, .ref 9), (1, .int p1), (2, .int p2)] [] 0 0 (mk L μ) _
  unfold f189 at h
  refine sx_iload_n (i := 2) k189_0 rfl rfl ?_
  refine sx_bipush (v := 10) k189_1 (by decide) ?_
  by_cases hb1 : p2 = (10 : Int32)
  · rw [if_pos hb1] at h
    refine sx_icmp_ne (tgt := 25) k189_3 (by decide) (fun q => absurd hb1 q) (fun _ => ?_)
    refine sx_aload_n (i := 0) k189_6 rfl rfl ?_
    refine cx_getR (k := 0) k189_7 ow_189 fl_10_14 (by decide) sk_9 ft_9_0 sr_9_0 ?_
    refine sx_iload_n (i := 1) k189_10 rfl rfl ?_
    refine sx_iconst (v := 5) k189_11 (by decide) ?_
    refine sx_iadd k189_12 ?_
    obtain ⟨r2, e3, h⟩ := Option.bind_eq_some_iff.mp h
    refine cx_V (sk := []) (vs := [.int (p1 + (5 : Int32))]) st_189_76 k189_13 ow_189 cl_10_79 (by decide) rfl (Nat.le_of_ble_eq_true rfl) sk_10 (ok76 10 (p1 + (5 : Int32)) sk_10 _ _ e3) (sk3 := [.int r2.2]) rfl rfl ?_
    refine cx_ldc (v := 33280) k189_16 ow_189 kl_10_116 (by decide) ?_
    by_cases hb4 : r2.2 = (33280 : Int32)
    · rw [if_pos hb4] at h
      refine sx_icmp_ne (tgt := 25) k189_18 (by decide) (fun q => absurd hb4 q) (fun _ => ?_)
      refine sx_iconst (v := 1) k189_21 (by decide) ?_
      refine sx_goto (tgt := 26) k189_22 (by decide) ?_
      exact cx_retz k189_26 rt_189 h
    · rw [if_neg hb4] at h
      refine sx_icmp_ne (tgt := 25) k189_18 (by decide) (fun _ => ?_) (fun q => absurd q hb4)
      refine sx_iconst (v := 0) k189_25 (by decide) ?_
      exact cx_retz k189_26 rt_189 h
  · rw [if_neg hb1] at h
    refine sx_icmp_ne (tgt := 25) k189_3 (by decide) (fun _ => ?_) (fun q => absurd q hb1)
    refine sx_iconst (v := 0) k189_25 (by decide) ?_
    exact cx_retz k189_26 rt_189 h
theorem k187_0 : decode (gb 187) 0 = .ok (.iload_n 2, 1) := by decide +kernel
theorem k187_1 : decode (gb 187) 1 = .ok (.bipush 8, 2) := by decide +kernel
theorem k187_3 : decode (gb 187) 3 = .ok (.if_icmp .lt 36, 3) := by decide +kernel
theorem k187_6 : decode (gb 187) 6 = .ok (.aload_n 0, 1) := by decide +kernel
theorem k187_7 : decode (gb 187) 7 = .ok (.getfield 14, 3) := by decide +kernel
theorem k187_10 : decode (gb 187) 10 = .ok (.iload_n 1, 1) := by decide +kernel
theorem k187_11 : decode (gb 187) 11 = .ok (.invokevirtual 79, 3) := by decide +kernel
theorem k187_14 : decode (gb 187) 14 = .ok (.ldc 104, 2) := by decide +kernel
theorem k187_16 : decode (gb 187) 16 = .ok (.iand, 1) := by decide +kernel
theorem k187_17 : decode (gb 187) 17 = .ok (.sipush 171, 3) := by decide +kernel
theorem k187_20 : decode (gb 187) 20 = .ok (.if_icmp .ne 19, 3) := by decide +kernel
theorem k187_23 : decode (gb 187) 23 = .ok (.aload_n 0, 1) := by decide +kernel
theorem k187_24 : decode (gb 187) 24 = .ok (.getfield 14, 3) := by decide +kernel
theorem k187_27 : decode (gb 187) 27 = .ok (.iload_n 1, 1) := by decide +kernel
theorem k187_28 : decode (gb 187) 28 = .ok (.iconst 2, 1) := by decide +kernel
theorem k187_29 : decode (gb 187) 29 = .ok (.iadd, 1) := by decide +kernel
theorem k187_30 : decode (gb 187) 30 = .ok (.invokevirtual 79, 3) := by decide +kernel
theorem k187_33 : decode (gb 187) 33 = .ok (.ldc 105, 2) := by decide +kernel
theorem k187_35 : decode (gb 187) 35 = .ok (.iand, 1) := by decide +kernel
theorem k187_36 : decode (gb 187) 36 = .ok (.ifCond .eq 5, 3) := by decide +kernel
theorem k187_39 : decode (gb 187) 39 = .ok (.iconst 0, 1) := by decide +kernel
theorem k187_40 : decode (gb 187) 40 = .ok (.ireturn, 1) := by decide +kernel
theorem k187_41 : decode (gb 187) 41 = .ok (.iload_n 1, 1) := by decide +kernel
theorem k187_42 : decode (gb 187) 42 = .ok (.iload_n 2, 1) := by decide +kernel
theorem k187_43 : decode (gb 187) 43 = .ok (.iadd, 1) := by decide +kernel
theorem k187_44 : decode (gb 187) 44 = .ok (.iconst 2, 1) := by decide +kernel
theorem k187_45 : decode (gb 187) 45 = .ok (.isub, 1) := by decide +kernel
theorem k187_46 : decode (gb 187) 46 = .ok (.istore_n 3, 1) := by decide +kernel
theorem k187_47 : decode (gb 187) 47 = .ok (.aload_n 0, 1) := by decide +kernel
theorem k187_48 : decode (gb 187) 48 = .ok (.getfield 14, 3) := by decide +kernel
theorem k187_51 : decode (gb 187) 51 = .ok (.iload_n 1, 1) := by decide +kernel
theorem k187_52 : decode (gb 187) 52 = .ok (.iload_n 3, 1) := by decide +kernel
theorem k187_53 : decode (gb 187) 53 = .ok (.invokevirtual 106, 3) := by decide +kernel
theorem k187_56 : decode (gb 187) 56 = .ok (.aload_n 0, 1) := by decide +kernel
theorem k187_57 : decode (gb 187) 57 = .ok (.getfield 14, 3) := by decide +kernel
theorem k187_60 : decode (gb 187) 60 = .ok (.iload_n 3, 1) := by decide +kernel
theorem k187_61 : decode (gb 187) 61 = .ok (.invokevirtual 79, 3) := by decide +kernel
theorem k187_64 : decode (gb 187) 64 = .ok (.if_icmp .eq 5, 3) := by decide +kernel
theorem k187_67 : decode (gb 187) 67 = .ok (.iconst 0, 1) := by decide +kernel
theorem k187_68 : decode (gb 187) 68 = .ok (.ireturn, 1) := by decide +kernel
theorem k187_69 : decode (gb 187) 69 = .ok (.aload_n 0, 1) := by decide +kernel
theorem k187_70 : decode (gb 187) 70 = .ok (.getfield 14, 3) := by decide +kernel
theorem k187_73 : decode (gb 187) 73 = .ok (.iload_n 1, 1) := by decide +kernel
theorem k187_74 : decode (gb 187) 74 = .ok (.invokevirtual 76, 3) := by decide +kernel
theorem k187_77 : decode (gb 187) 77 = .ok (.bipush 16, 2) := by decide +kernel
theorem k187_79 : decode (gb 187) 79 = .ok (.iand, 1) := by decide +kernel
theorem k187_80 : decode (gb 187) 80 = .ok (.ifCond .ne 18, 3) := by decide +kernel
theorem k187_83 : decode (gb 187) 83 = .ok (.iload_n 2, 1) := by decide +kernel
theorem k187_84 : decode (gb 187) 84 = .ok (.bipush 7, 2) := by decide +kernel
theorem k187_86 : decode (gb 187) 86 = .ok (.isub, 1) := by decide +kernel
theorem k187_87 : decode (gb 187) 87 = .ok (.bipush 60, 2) := by decide +kernel
theorem k187_89 : decode (gb 187) 89 = .ok (.if_icmp .gt 7, 3) := by decide +kernel
theorem k187_92 : decode (gb 187) 92 = .ok (.iconst 1, 1) := by decide +kernel
theorem k187_93 : decode (gb 187) 93 = .ok (.goto 4, 3) := by decide +kernel
theorem k187_96 : decode (gb 187) 96 = .ok (.iconst 0, 1) := by decide +kernel
theorem k187_97 : decode (gb 187) 97 = .ok (.ireturn, 1) := by decide +kernel
theorem k187_98 : decode (gb 187) 98 = .ok (.aload_n 0, 1) := by decide +kernel
theorem k187_99 : decode (gb 187) 99 = .ok (.getfield 14, 3) := by decide +kernel
theorem k187_102 : decode (gb 187) 102 = .ok (.iload_n 1, 1) := by decide +kernel
theorem k187_103 : decode (gb 187) 103 = .ok (.invokevirtual 76, 3) := by decide +kernel
theorem k187_106 : decode (gb 187) 106 = .ok (.bipush 32, 2) := by decide +kernel
theorem k187_108 : decode (gb 187) 108 = .ok (.iand, 1) := by decide +kernel
theorem k187_109 : decode (gb 187) 109 = .ok (.ifCond .eq 25, 3) := by decide +kernel
theorem k187_112 : decode (gb 187) 112 = .ok (.aload_n 0, 1) := by decide +kernel
theorem k187_113 : decode (gb 187) 113 = .ok (.iload_n 1, 1) := by decide +kernel
theorem k187_114 : decode (gb 187) 114 = .ok (.iload_n 2, 1) := by decide +kernel
theorem k187_115 : decode (gb 187) 115 = .ok (.invokevirtual 110, 3) := by decide +kernel
theorem k187_118 : decode (gb 187) 118 = .ok (.ifCond .ne 12, 3) := by decide +kernel
theorem k187_121 : decode (gb 187) 121 = .ok (.aload_n 0, 1) := by decide +kernel
theorem k187_122 : decode (gb 187) 122 = .ok (.iload_n 1, 1) := by decide +kernel
theorem k187_123 : decode (gb 187) 123 = .ok (.iload_n 2, 1) := by decide +kernel
theorem k187_124 : decode (gb 187) 124 = .ok (.invokevirtual 113, 3) := by decide +kernel
theorem k187_127 : decode (gb 187) 127 = .ok (.ifCond .eq 7, 3) := by decide +kernel
theorem k187_130 : decode (gb 187) 130 = .ok (.iconst 1, 1) := by decide +kernel
theorem k187_131 : decode (gb 187) 131 = .ok (.goto 4, 3) := by decide +kernel
theorem k187_134 : decode (gb 187) 134 = .ok (.iconst 0, 1) := by decide +kernel
theorem k187_135 : decode (gb 187) 135 = .ok (.ireturn, 1) := by decide +kernel
def c187_130 (μ : Mem) : Option (Mem × Int32) :=
  rtZ (1 : Int32) μ
theorem c187_130_ok {L : Nat} (μ : Mem) (res : Mem × Int32) (h : c187_130 μ = some res) : Sx 187 130 [] [] 0 0 (mk L μ) (mk L res.1, some (.int res.2)) := by
  unfold c187_130 at h
  refine sx_iconst (v := 1) k187_130 (by decide) ?_
  refine sx_goto (tgt := 135) k187_131 (by decide) ?_
  exact cx_retz k187_135 rt_187 h
/-- Uplink.isSound(II)Z -/
def f187 (p1 : Int32) (p2 : Int32) (μ : Mem) : Option (Mem × Int32) :=
  if p2 < (8 : Int32) then
    rtZ (0 : Int32) μ
  else
    (f76 10 p1 μ).bind fun r2 =>
    if (r2.2 &&& (53247 : Int32)) = (171 : Int32) then
      (f76 10 (p1 + (2 : Int32)) r2.1).bind fun r5 =>
      if (r5.2 &&& (64512 : Int32)) = 0 then
        nm ((p1 + p2) - (2 : Int32)) fun x8 =>
        (f78 10 p1 x8 r5.1).bind fun r9 =>
        (f76 10 x8 r9.1).bind fun r11 =>
        if r9.2 = r11.2 then
          (f75 10 p1 r11.1).bind fun r14 =>
          if (r14.2 &&& (16 : Int32)) = 0 then
            if (60 : Int32) < (p2 - (7 : Int32)) then
              rtZ (0 : Int32) r14.1
            else
              rtZ (1 : Int32) r14.1
          else
            (f75 10 p1 r14.1).bind fun r17 =>
            if (r17.2 &&& (32 : Int32)) = 0 then
              rtZ (0 : Int32) r17.1
            else
              (f188 p1 p2 r17.1).bind fun r20 =>
              if r20.2 = 0 then
                (f189 p1 p2 r20.1).bind fun r23 =>
                if r23.2 = 0 then
                  rtZ (0 : Int32) r23.1
                else
                  c187_130 r23.1
              else
                c187_130 r20.1
        else
          rtZ (0 : Int32) r11.1
      else
        rtZ (0 : Int32) r5.1
    else
      rtZ (0 : Int32) r2.1
theorem ok187 {L : Nat} (p1 : Int32) (p2 : Int32) (μ : Mem) (res : Mem × Int32) (h : f187 p1 p2 μ = some res) : Mx 187 [.ref 9, .int p1, .int p2] (mk L μ) (mk L res.1, some (.int res.2)) := by
  refine Mx_of ml_187 (by rw [mx_187]; exact Nat.le_of_ble_eq_true rfl) ?_
  show Sx 187 0 [(0, .ref 9), (1, .int p1), (2, .int p2)] [] 0 0 (mk L μ) _
  unfold f187 at h
  refine sx_iload_n (i := 2) k187_0 rfl rfl ?_
  refine sx_bipush (v := 8) k187_1 (by decide) ?_
  by_cases hb1 : p2 < (8 : Int32)
  · rw [if_pos hb1] at h
    refine sx_icmp_lt (tgt := 39) k187_3 (by decide) (fun _ => ?_) (fun q => absurd hb1 q)
    refine sx_iconst (v := 0) k187_39 (by decide) ?_
    exact cx_retz k187_40 rt_187 h
  · rw [if_neg hb1] at h
    refine sx_icmp_lt (tgt := 39) k187_3 (by decide) (fun q => absurd q hb1) (fun _ => ?_)
    refine sx_aload_n (i := 0) k187_6 rfl rfl ?_
    refine cx_getR (k := 0) k187_7 ow_187 fl_10_14 (by decide) sk_9 ft_9_0 sr_9_0 ?_
    refine sx_iload_n (i := 1) k187_10 rfl rfl ?_
    obtain ⟨r2, e3, h⟩ := Option.bind_eq_some_iff.mp h
    refine cx_V (sk := []) (vs := [.int p1]) st_187_76 k187_11 ow_187 cl_10_79 (by decide) rfl (Nat.le_of_ble_eq_true rfl) sk_10 (ok76 10 p1 sk_10 _ _ e3) (sk3 := [.int r2.2]) rfl rfl ?_
    refine cx_ldc (v := 53247) k187_14 ow_187 kl_10_104 (by decide) ?_
    refine sx_iand k187_16 ?_
    refine sx_sipush (v := 171) k187_17 (by decide) ?_
    by_cases hb4 : (r2.2 &&& (53247 : Int32)) = (171 : Int32)
    · rw [if_pos hb4] at h
      refine sx_icmp_ne (tgt := 39) k187_20 (by decide) (fun q => absurd hb4 q) (fun _ => ?_)
      refine sx_aload_n (i := 0) k187_23 rfl rfl ?_
      refine cx_getR (k := 0) k187_24 ow_187 fl_10_14 (by decide) sk_9 ft_9_0 sr_9_0 ?_
      refine sx_iload_n (i := 1) k187_27 rfl rfl ?_
      refine sx_iconst (v := 2) k187_28 (by decide) ?_
      refine sx_iadd k187_29 ?_
      obtain ⟨r5, e6, h⟩ := Option.bind_eq_some_iff.mp h
      refine cx_V (sk := []) (vs := [.int (p1 + (2 : Int32))]) st_187_76 k187_30 ow_187 cl_10_79 (by decide) rfl (Nat.le_of_ble_eq_true rfl) sk_10 (ok76 10 (p1 + (2 : Int32)) sk_10 _ _ e6) (sk3 := [.int r5.2]) rfl rfl ?_
      refine cx_ldc (v := 64512) k187_33 ow_187 kl_10_105 (by decide) ?_
      refine sx_iand k187_35 ?_
      by_cases hb7 : (r5.2 &&& (64512 : Int32)) = 0
      · rw [if_pos hb7] at h
        refine sx_if_eq (tgt := 41) k187_36 (by decide) (fun _ => ?_) (fun q => absurd hb7 q)
        refine sx_iload_n (i := 1) k187_41 rfl rfl ?_
        refine sx_iload_n (i := 2) k187_42 rfl rfl ?_
        refine sx_iadd k187_43 ?_
        refine sx_iconst (v := 2) k187_44 (by decide) ?_
        refine sx_isub k187_45 ?_
        refine cx_nm h (fun x8 h => ?_)
        refine cx_istore_n (lo2 := [(3, .int x8), (0, .ref 9), (1, .int p1), (2, .int p2)]) k187_46 rfl (by rw [mx_187]; decide) rfl ?_
        refine sx_aload_n (i := 0) k187_47 rfl rfl ?_
        refine cx_getR (k := 0) k187_48 ow_187 fl_10_14 (by decide) sk_9 ft_9_0 sr_9_0 ?_
        refine sx_iload_n (i := 1) k187_51 rfl rfl ?_
        refine sx_iload_n (i := 3) k187_52 rfl rfl ?_
        obtain ⟨r9, e10, h⟩ := Option.bind_eq_some_iff.mp h
        refine cx_V (sk := []) (vs := [.int p1, .int x8]) st_187_78 k187_53 ow_187 cl_10_106 (by decide) rfl (Nat.le_of_ble_eq_true rfl) sk_10 (ok78 10 p1 x8 sk_10 _ _ e10) (sk3 := [.int r9.2]) rfl rfl ?_
        refine sx_aload_n (i := 0) k187_56 rfl rfl ?_
        refine cx_getR (k := 0) k187_57 ow_187 fl_10_14 (by decide) sk_9 ft_9_0 sr_9_0 ?_
        refine sx_iload_n (i := 3) k187_60 rfl rfl ?_
        obtain ⟨r11, e12, h⟩ := Option.bind_eq_some_iff.mp h
        refine cx_V (sk := [.int r9.2]) (vs := [.int x8]) st_187_76 k187_61 ow_187 cl_10_79 (by decide) rfl (Nat.le_of_ble_eq_true rfl) sk_10 (ok76 10 x8 sk_10 _ _ e12) (sk3 := [.int r11.2, .int r9.2]) rfl rfl ?_
        by_cases hb13 : r9.2 = r11.2
        · rw [if_pos hb13] at h
          refine sx_icmp_eq (tgt := 69) k187_64 (by decide) (fun _ => ?_) (fun q => absurd hb13 q)
          refine sx_aload_n (i := 0) k187_69 rfl rfl ?_
          refine cx_getR (k := 0) k187_70 ow_187 fl_10_14 (by decide) sk_9 ft_9_0 sr_9_0 ?_
          refine sx_iload_n (i := 1) k187_73 rfl rfl ?_
          obtain ⟨r14, e15, h⟩ := Option.bind_eq_some_iff.mp h
          refine cx_V (sk := []) (vs := [.int p1]) st_187_75 k187_74 ow_187 cl_10_76 (by decide) rfl (Nat.le_of_ble_eq_true rfl) sk_10 (ok75 10 p1 sk_10 _ _ e15) (sk3 := [.int r14.2]) rfl rfl ?_
          refine sx_bipush (v := 16) k187_77 (by decide) ?_
          refine sx_iand k187_79 ?_
          by_cases hb16 : (r14.2 &&& (16 : Int32)) = 0
          · rw [if_pos hb16] at h
            refine sx_if_ne (tgt := 98) k187_80 (by decide) (fun q => absurd hb16 q) (fun _ => ?_)
            refine sx_iload_n (i := 2) k187_83 rfl rfl ?_
            refine sx_bipush (v := 7) k187_84 (by decide) ?_
            refine sx_isub k187_86 ?_
            refine sx_bipush (v := 60) k187_87 (by decide) ?_
            by_cases hb26 : (60 : Int32) < (p2 - (7 : Int32))
            · rw [if_pos hb26] at h
              refine sx_icmp_gt (tgt := 96) k187_89 (by decide) (fun _ => ?_) (fun q => absurd hb26 q)
              refine sx_iconst (v := 0) k187_96 (by decide) ?_
              exact cx_retz k187_97 rt_187 h
            · rw [if_neg hb26] at h
              refine sx_icmp_gt (tgt := 96) k187_89 (by decide) (fun q => absurd q hb26) (fun _ => ?_)
              refine sx_iconst (v := 1) k187_92 (by decide) ?_
              refine sx_goto (tgt := 97) k187_93 (by decide) ?_
              exact cx_retz k187_97 rt_187 h
          · rw [if_neg hb16] at h
            refine sx_if_ne (tgt := 98) k187_80 (by decide) (fun _ => ?_) (fun q => absurd q hb16)
            refine sx_aload_n (i := 0) k187_98 rfl rfl ?_
            refine cx_getR (k := 0) k187_99 ow_187 fl_10_14 (by decide) sk_9 ft_9_0 sr_9_0 ?_
            refine sx_iload_n (i := 1) k187_102 rfl rfl ?_
            obtain ⟨r17, e18, h⟩ := Option.bind_eq_some_iff.mp h
            refine cx_V (sk := []) (vs := [.int p1]) st_187_75 k187_103 ow_187 cl_10_76 (by decide) rfl (Nat.le_of_ble_eq_true rfl) sk_10 (ok75 10 p1 sk_10 _ _ e18) (sk3 := [.int r17.2]) rfl rfl ?_
            refine sx_bipush (v := 32) k187_106 (by decide) ?_
            refine sx_iand k187_108 ?_
            by_cases hb19 : (r17.2 &&& (32 : Int32)) = 0
            · rw [if_pos hb19] at h
              refine sx_if_eq (tgt := 134) k187_109 (by decide) (fun _ => ?_) (fun q => absurd hb19 q)
              refine sx_iconst (v := 0) k187_134 (by decide) ?_
              exact cx_retz k187_135 rt_187 h
            · rw [if_neg hb19] at h
              refine sx_if_eq (tgt := 134) k187_109 (by decide) (fun q => absurd q hb19) (fun _ => ?_)
              refine sx_aload_n (i := 0) k187_112 rfl rfl ?_
              refine sx_iload_n (i := 1) k187_113 rfl rfl ?_
              refine sx_iload_n (i := 2) k187_114 rfl rfl ?_
              obtain ⟨r20, e21, h⟩ := Option.bind_eq_some_iff.mp h
              refine cx_V (sk := []) (vs := [.int p1, .int p2]) st_187_188 k187_115 ow_187 cl_10_110 (by decide) rfl (Nat.le_of_ble_eq_true rfl) sk_9 (ok188 p1 p2 _ _ e21) (sk3 := [.int r20.2]) rfl rfl ?_
              by_cases hb22 : r20.2 = 0
              · rw [if_pos hb22] at h
                refine sx_if_ne (tgt := 130) k187_118 (by decide) (fun q => absurd hb22 q) (fun _ => ?_)
                refine sx_aload_n (i := 0) k187_121 rfl rfl ?_
                refine sx_iload_n (i := 1) k187_122 rfl rfl ?_
                refine sx_iload_n (i := 2) k187_123 rfl rfl ?_
                obtain ⟨r23, e24, h⟩ := Option.bind_eq_some_iff.mp h
                refine cx_V (sk := []) (vs := [.int p1, .int p2]) st_187_189 k187_124 ow_187 cl_10_113 (by decide) rfl (Nat.le_of_ble_eq_true rfl) sk_9 (ok189 p1 p2 _ _ e24) (sk3 := [.int r23.2]) rfl rfl ?_
                by_cases hb25 : r23.2 = 0
                · rw [if_pos hb25] at h
                  refine sx_if_eq (tgt := 134) k187_127 (by decide) (fun _ => ?_) (fun q => absurd hb25 q)
                  refine sx_iconst (v := 0) k187_134 (by decide) ?_
                  exact cx_retz k187_135 rt_187 h
                · rw [if_neg hb25] at h
                  refine sx_if_eq (tgt := 134) k187_127 (by decide) (fun q => absurd q hb25) (fun _ => ?_)
                  refine sx_pick (lo2 := []) [] rfl ?_
                  exact c187_130_ok _ _ h
              · rw [if_neg hb22] at h
                refine sx_if_ne (tgt := 130) k187_118 (by decide) (fun _ => ?_) (fun q => absurd q hb22)
                refine sx_pick (lo2 := []) [] rfl ?_
                exact c187_130_ok _ _ h
        · rw [if_neg hb13] at h
          refine sx_icmp_eq (tgt := 69) k187_64 (by decide) (fun q => absurd q hb13) (fun _ => ?_)
          refine sx_iconst (v := 0) k187_67 (by decide) ?_
          exact cx_retz k187_68 rt_187 h
      · rw [if_neg hb7] at h
        refine sx_if_eq (tgt := 41) k187_36 (by decide) (fun q => absurd q hb7) (fun _ => ?_)
        refine sx_iconst (v := 0) k187_39 (by decide) ?_
        exact cx_retz k187_40 rt_187 h
    · rw [if_neg hb4] at h
      refine sx_icmp_ne (tgt := 39) k187_20 (by decide) (fun _ => ?_) (fun q => absurd q hb4)
      refine sx_iconst (v := 0) k187_39 (by decide) ?_
      exact cx_retz k187_40 rt_187 h
theorem k190_0 : decode (gb 190) 0 = .ok (.aload_n 0, 1) := by decide +kernel
theorem k190_1 : decode (gb 190) 1 = .ok (.aload_n 0, 1) := by decide +kernel
theorem k190_2 : decode (gb 190) 2 = .ok (.getfield 117, 3) := by decide +kernel
theorem k190_5 : decode (gb 190) 5 = .ok (.iconst 1, 1) := by decide +kernel
theorem k190_6 : decode (gb 190) 6 = .ok (.iadd, 1) := by decide +kernel
theorem k190_7 : decode (gb 190) 7 = .ok (.iconst 3, 1) := by decide +kernel
theorem k190_8 : decode (gb 190) 8 = .ok (.iand, 1) := by decide +kernel
theorem k190_9 : decode (gb 190) 9 = .ok (.putfield 117, 3) := by decide +kernel
theorem k190_12 : decode (gb 190) 12 = .ok (.aload_n 0, 1) := by decide +kernel
theorem k190_13 : decode (gb 190) 13 = .ok (.iload_n 1, 1) := by decide +kernel
theorem k190_14 : decode (gb 190) 14 = .ok (.iload_n 2, 1) := by decide +kernel
theorem k190_15 : decode (gb 190) 15 = .ok (.invokevirtual 110, 3) := by decide +kernel
theorem k190_18 : decode (gb 190) 18 = .ok (.ifCond .eq 11, 3) := by decide +kernel
theorem k190_21 : decode (gb 190) 21 = .ok (.aload_n 0, 1) := by decide +kernel
theorem k190_22 : decode (gb 190) 22 = .ok (.iconst 0, 1) := by decide +kernel
theorem k190_23 : decode (gb 190) 23 = .ok (.putfield 120, 3) := by decide +kernel
theorem k190_26 : decode (gb 190) 26 = .ok (.goto 29, 3) := by decide +kernel
theorem k190_29 : decode (gb 190) 29 = .ok (.aload_n 0, 1) := by decide +kernel
theorem k190_30 : decode (gb 190) 30 = .ok (.getfield 120, 3) := by decide +kernel
theorem k190_33 : decode (gb 190) 33 = .ok (.ifCond .ne 21, 3) := by decide +kernel
theorem k190_36 : decode (gb 190) 36 = .ok (.aload_n 0, 1) := by decide +kernel
theorem k190_37 : decode (gb 190) 37 = .ok (.aload_n 0, 1) := by decide +kernel
theorem k190_38 : decode (gb 190) 38 = .ok (.getfield 14, 3) := by decide +kernel
theorem k190_41 : decode (gb 190) 41 = .ok (.iload_n 1, 1) := by decide +kernel
theorem k190_42 : decode (gb 190) 42 = .ok (.bipush 7, 2) := by decide +kernel
theorem k190_44 : decode (gb 190) 44 = .ok (.iadd, 1) := by decide +kernel
theorem k190_45 : decode (gb 190) 45 = .ok (.invokevirtual 76, 3) := by decide +kernel
theorem k190_48 : decode (gb 190) 48 = .ok (.putfield 123, 3) := by decide +kernel
theorem k190_51 : decode (gb 190) 51 = .ok (.goto 4, 3) := by decide +kernel
theorem k190_54 : decode (gb 190) 54 = .ok (.return_, 1) := by decide +kernel
theorem k190_55 : decode (gb 190) 55 = .ok (.aload_n 0, 1) := by decide +kernel
theorem k190_56 : decode (gb 190) 56 = .ok (.iconst 0, 1) := by decide +kernel
theorem k190_57 : decode (gb 190) 57 = .ok (.putfield 126, 3) := by decide +kernel
theorem k190_60 : decode (gb 190) 60 = .ok (.aload_n 0, 1) := by decide +kernel
theorem k190_61 : decode (gb 190) 61 = .ok (.iconst 0, 1) := by decide +kernel
theorem k190_62 : decode (gb 190) 62 = .ok (.putfield 129, 3) := by decide +kernel
theorem k190_65 : decode (gb 190) 65 = .ok (.return_, 1) := by decide +kernel
def c190_55 (μ : Mem) : Option (Mem) :=
  (pfI 9 13 (0 : Int32) μ).bind fun m1 =>
  (pfI 9 14 (0 : Int32) m1).bind fun m3 =>
  some m3
theorem c190_55_ok {L : Nat} (μ : Mem) (res : Mem) (h : c190_55 μ = some res) : Sx 190 55 [(0, .ref 9)] [] 0 0 (mk L μ) (mk L res, none) := by
  unfold c190_55 at h
  refine sx_aload_n (i := 0) k190_55 rfl rfl ?_
  refine sx_iconst (v := 0) k190_56 (by decide) ?_
  obtain ⟨m1, e2, h⟩ := Option.bind_eq_some_iff.mp h
  refine cx_putI (k := 13) k190_57 ow_190 fl_10_126 (by decide) sk_9 nf_9_13 fu_9_13 e2 ?_
  refine sx_aload_n (i := 0) k190_60 rfl rfl ?_
  refine sx_iconst (v := 0) k190_61 (by decide) ?_
  obtain ⟨m3, e4, h⟩ := Option.bind_eq_some_iff.mp h
  refine cx_putI (k := 14) k190_62 ow_190 fl_10_129 (by decide) sk_9 nf_9_14 fu_9_14 e4 ?_
  exact cx_retv k190_65 rt_190 h
/-- Uplink.obey(II)V -/
def f190 (p1 : Int32) (p2 : Int32) (μ : Mem) : Option (Mem) :=
  (pfI 9 15 (((μ.1 9 15) + (1 : Int32)) &&& (3 : Int32)) μ).bind fun m1 =>
  (f188 p1 p2 m1).bind fun r3 =>
  if r3.2 = 0 then
    if (r3.1.1 9 12) = 0 then
      (f75 10 (p1 + (7 : Int32)) r3.1).bind fun r7 =>
      (pfI 9 11 r7.2 r7.1).bind fun m9 =>
      c190_55 m9
    else
      some r3.1
  else
    (pfI 9 12 (0 : Int32) r3.1).bind fun m11 =>
    c190_55 m11
theorem ok190 {L : Nat} (p1 : Int32) (p2 : Int32) (μ : Mem) (res : Mem) (h : f190 p1 p2 μ = some res) : Mx 190 [.ref 9, .int p1, .int p2] (mk L μ) (mk L res, none) := by
  refine Mx_of ml_190 (by rw [mx_190]; exact Nat.le_of_ble_eq_true rfl) ?_
  show Sx 190 0 [(0, .ref 9), (1, .int p1), (2, .int p2)] [] 0 0 (mk L μ) _
  unfold f190 at h
  refine sx_aload_n (i := 0) k190_0 rfl rfl ?_
  refine sx_aload_n (i := 0) k190_1 rfl rfl ?_
  refine cx_getI (k := 15) k190_2 ow_190 fl_10_117 (by decide) sk_9 ft_9_15 ?_
  refine sx_iconst (v := 1) k190_5 (by decide) ?_
  refine sx_iadd k190_6 ?_
  refine sx_iconst (v := 3) k190_7 (by decide) ?_
  refine sx_iand k190_8 ?_
  obtain ⟨m1, e2, h⟩ := Option.bind_eq_some_iff.mp h
  refine cx_putI (k := 15) k190_9 ow_190 fl_10_117 (by decide) sk_9 nf_9_15 fu_9_15 e2 ?_
  refine sx_aload_n (i := 0) k190_12 rfl rfl ?_
  refine sx_iload_n (i := 1) k190_13 rfl rfl ?_
  refine sx_iload_n (i := 2) k190_14 rfl rfl ?_
  obtain ⟨r3, e4, h⟩ := Option.bind_eq_some_iff.mp h
  refine cx_V (sk := []) (vs := [.int p1, .int p2]) st_190_188 k190_15 ow_190 cl_10_110 (by decide) rfl (Nat.le_of_ble_eq_true rfl) sk_9 (ok188 p1 p2 _ _ e4) (sk3 := [.int r3.2]) rfl rfl ?_
  by_cases hb5 : r3.2 = 0
  · rw [if_pos hb5] at h
    refine sx_if_eq (tgt := 29) k190_18 (by decide) (fun _ => ?_) (fun q => absurd hb5 q)
    refine sx_aload_n (i := 0) k190_29 rfl rfl ?_
    refine cx_getI (k := 12) k190_30 ow_190 fl_10_120 (by decide) sk_9 ft_9_12 ?_
    by_cases hb6 : (r3.1.1 9 12) = 0
    · rw [if_pos hb6] at h
      refine sx_if_ne (tgt := 54) k190_33 (by decide) (fun q => absurd hb6 q) (fun _ => ?_)
      refine sx_aload_n (i := 0) k190_36 rfl rfl ?_
      refine sx_aload_n (i := 0) k190_37 rfl rfl ?_
      refine cx_getR (k := 0) k190_38 ow_190 fl_10_14 (by decide) sk_9 ft_9_0 sr_9_0 ?_
      refine sx_iload_n (i := 1) k190_41 rfl rfl ?_
      refine sx_bipush (v := 7) k190_42 (by decide) ?_
      refine sx_iadd k190_44 ?_
      obtain ⟨r7, e8, h⟩ := Option.bind_eq_some_iff.mp h
      refine cx_V (sk := [.ref 9]) (vs := [.int (p1 + (7 : Int32))]) st_190_75 k190_45 ow_190 cl_10_76 (by decide) rfl (Nat.le_of_ble_eq_true rfl) sk_10 (ok75 10 (p1 + (7 : Int32)) sk_10 _ _ e8) (sk3 := [.int r7.2, .ref 9]) rfl rfl ?_
      obtain ⟨m9, e10, h⟩ := Option.bind_eq_some_iff.mp h
      refine cx_putI (k := 11) k190_48 ow_190 fl_10_123 (by decide) sk_9 nf_9_11 fu_9_11 e10 ?_
      refine sx_goto (tgt := 55) k190_51 (by decide) ?_
      refine sx_pick (lo2 := [(0, .ref 9)]) [0] rfl ?_
      exact c190_55_ok _ _ h
    · rw [if_neg hb6] at h
      refine sx_if_ne (tgt := 54) k190_33 (by decide) (fun _ => ?_) (fun q => absurd q hb6)
      exact cx_retv k190_54 rt_190 h
  · rw [if_neg hb5] at h
    refine sx_if_eq (tgt := 29) k190_18 (by decide) (fun q => absurd q hb5) (fun _ => ?_)
    refine sx_aload_n (i := 0) k190_21 rfl rfl ?_
    refine sx_iconst (v := 0) k190_22 (by decide) ?_
    obtain ⟨m11, e12, h⟩ := Option.bind_eq_some_iff.mp h
    refine cx_putI (k := 12) k190_23 ow_190 fl_10_120 (by decide) sk_9 nf_9_12 fu_9_12 e12 ?_
    refine sx_goto (tgt := 55) k190_26 (by decide) ?_
    refine sx_pick (lo2 := [(0, .ref 9)]) [0] rfl ?_
    exact c190_55_ok _ _ h
theorem k191_0 : decode (gb 191) 0 = .ok (.aload_n 0, 1) := by decide +kernel
theorem k191_1 : decode (gb 191) 1 = .ok (.aload_n 0, 1) := by decide +kernel
theorem k191_2 : decode (gb 191) 2 = .ok (.getfield 117, 3) := by decide +kernel
theorem k191_5 : decode (gb 191) 5 = .ok (.iconst 1, 1) := by decide +kernel
theorem k191_6 : decode (gb 191) 6 = .ok (.iadd, 1) := by decide +kernel
theorem k191_7 : decode (gb 191) 7 = .ok (.iconst 3, 1) := by decide +kernel
theorem k191_8 : decode (gb 191) 8 = .ok (.iand, 1) := by decide +kernel
theorem k191_9 : decode (gb 191) 9 = .ok (.putfield 117, 3) := by decide +kernel
theorem k191_12 : decode (gb 191) 12 = .ok (.iload_n 1, 1) := by decide +kernel
theorem k191_13 : decode (gb 191) 13 = .ok (.ifCond .ne 13, 3) := by decide +kernel
theorem k191_16 : decode (gb 191) 16 = .ok (.aload_n 0, 1) := by decide +kernel
theorem k191_17 : decode (gb 191) 17 = .ok (.dup, 1) := by decide +kernel
theorem k191_18 : decode (gb 191) 18 = .ok (.getfield 132, 3) := by decide +kernel
theorem k191_21 : decode (gb 191) 21 = .ok (.iconst 1, 1) := by decide +kernel
theorem k191_22 : decode (gb 191) 22 = .ok (.iadd, 1) := by decide +kernel
theorem k191_23 : decode (gb 191) 23 = .ok (.putfield 132, 3) := by decide +kernel
theorem k191_26 : decode (gb 191) 26 = .ok (.iload_n 1, 1) := by decide +kernel
theorem k191_27 : decode (gb 191) 27 = .ok (.ireturn, 1) := by decide +kernel
/-- Uplink.takesBypass(Z)Z -/
def f191 (p1 : Int32) (μ : Mem) : Option (Mem × Int32) :=
  (pfI 9 15 (((μ.1 9 15) + (1 : Int32)) &&& (3 : Int32)) μ).bind fun m1 =>
  if p1 = 0 then
    (pfI 9 10 ((m1.1 9 10) + (1 : Int32)) m1).bind fun m4 =>
    rtZ p1 m4
  else
    rtZ p1 m1
theorem ok191 {L : Nat} (p1 : Int32) (μ : Mem) (res : Mem × Int32) (h : f191 p1 μ = some res) : Mx 191 [.ref 9, .int p1] (mk L μ) (mk L res.1, some (.int res.2)) := by
  refine Mx_of ml_191 (by rw [mx_191]; exact Nat.le_of_ble_eq_true rfl) ?_
  show Sx 191 0 [(0, .ref 9), (1, .int p1)] [] 0 0 (mk L μ) _
  unfold f191 at h
  refine sx_aload_n (i := 0) k191_0 rfl rfl ?_
  refine sx_aload_n (i := 0) k191_1 rfl rfl ?_
  refine cx_getI (k := 15) k191_2 ow_191 fl_10_117 (by decide) sk_9 ft_9_15 ?_
  refine sx_iconst (v := 1) k191_5 (by decide) ?_
  refine sx_iadd k191_6 ?_
  refine sx_iconst (v := 3) k191_7 (by decide) ?_
  refine sx_iand k191_8 ?_
  obtain ⟨m1, e2, h⟩ := Option.bind_eq_some_iff.mp h
  refine cx_putI (k := 15) k191_9 ow_191 fl_10_117 (by decide) sk_9 nf_9_15 fu_9_15 e2 ?_
  refine sx_iload_n (i := 1) k191_12 rfl rfl ?_
  by_cases hb3 : p1 = 0
  · rw [if_pos hb3] at h
    refine sx_if_ne (tgt := 26) k191_13 (by decide) (fun q => absurd hb3 q) (fun _ => ?_)
    refine sx_aload_n (i := 0) k191_16 rfl rfl ?_
    refine sx_dup k191_17 rfl ?_
    refine cx_getI (k := 10) k191_18 ow_191 fl_10_132 (by decide) sk_9 ft_9_10 ?_
    refine sx_iconst (v := 1) k191_21 (by decide) ?_
    refine sx_iadd k191_22 ?_
    obtain ⟨m4, e5, h⟩ := Option.bind_eq_some_iff.mp h
    refine cx_putI (k := 10) k191_23 ow_191 fl_10_132 (by decide) sk_9 nf_9_10 fu_9_10 e5 ?_
    refine sx_iload_n (i := 1) k191_26 rfl rfl ?_
    exact cx_retz k191_27 rt_191 h
  · rw [if_neg hb3] at h
    refine sx_if_ne (tgt := 26) k191_13 (by decide) (fun _ => ?_) (fun q => absurd q hb3)
    refine sx_iload_n (i := 1) k191_26 rfl rfl ?_
    exact cx_retz k191_27 rt_191 h
theorem k193_0 : decode (gb 193) 0 = .ok (.aload_n 0, 1) := by decide +kernel
theorem k193_1 : decode (gb 193) 1 = .ok (.getfield 126, 3) := by decide +kernel
theorem k193_4 : decode (gb 193) 4 = .ok (.ifCond .eq 5, 3) := by decide +kernel
theorem k193_7 : decode (gb 193) 7 = .ok (.iconst 0, 1) := by decide +kernel
theorem k193_8 : decode (gb 193) 8 = .ok (.ireturn, 1) := by decide +kernel
theorem k193_9 : decode (gb 193) 9 = .ok (.iload_n 1, 1) := by decide +kernel
theorem k193_10 : decode (gb 193) 10 = .ok (.ifCond .eq 25, 3) := by decide +kernel
theorem k193_13 : decode (gb 193) 13 = .ok (.aload_n 0, 1) := by decide +kernel
theorem k193_14 : decode (gb 193) 14 = .ok (.aload_n 0, 1) := by decide +kernel
theorem k193_15 : decode (gb 193) 15 = .ok (.getfield 123, 3) := by decide +kernel
theorem k193_18 : decode (gb 193) 18 = .ok (.iconst 1, 1) := by decide +kernel
theorem k193_19 : decode (gb 193) 19 = .ok (.iadd, 1) := by decide +kernel
theorem k193_20 : decode (gb 193) 20 = .ok (.sipush 255, 3) := by decide +kernel
theorem k193_23 : decode (gb 193) 23 = .ok (.iand, 1) := by decide +kernel
theorem k193_24 : decode (gb 193) 24 = .ok (.putfield 123, 3) := by decide +kernel
theorem k193_27 : decode (gb 193) 27 = .ok (.aload_n 0, 1) := by decide +kernel
theorem k193_28 : decode (gb 193) 28 = .ok (.iconst 0, 1) := by decide +kernel
theorem k193_29 : decode (gb 193) 29 = .ok (.putfield 129, 3) := by decide +kernel
theorem k193_32 : decode (gb 193) 32 = .ok (.goto 13, 3) := by decide +kernel
theorem k193_35 : decode (gb 193) 35 = .ok (.aload_n 0, 1) := by decide +kernel
theorem k193_36 : decode (gb 193) 36 = .ok (.iconst 1, 1) := by decide +kernel
theorem k193_37 : decode (gb 193) 37 = .ok (.putfield 126, 3) := by decide +kernel
theorem k193_40 : decode (gb 193) 40 = .ok (.aload_n 0, 1) := by decide +kernel
theorem k193_41 : decode (gb 193) 41 = .ok (.iconst 1, 1) := by decide +kernel
theorem k193_42 : decode (gb 193) 42 = .ok (.putfield 129, 3) := by decide +kernel
theorem k193_45 : decode (gb 193) 45 = .ok (.iload_n 1, 1) := by decide +kernel
theorem k193_46 : decode (gb 193) 46 = .ok (.ireturn, 1) := by decide +kernel
/-- Uplink.takesDue(Z)Z -/
def f193 (p1 : Int32) (μ : Mem) : Option (Mem × Int32) :=
  if (μ.1 9 13) = 0 then
    if p1 = 0 then
      (pfI 9 13 (1 : Int32) μ).bind fun m3 =>
      (pfI 9 14 (1 : Int32) m3).bind fun m5 =>
      rtZ p1 m5
    else
      (pfI 9 11 (((μ.1 9 11) + (1 : Int32)) &&& (255 : Int32)) μ).bind fun m7 =>
      (pfI 9 14 (0 : Int32) m7).bind fun m9 =>
      rtZ p1 m9
  else
    rtZ (0 : Int32) μ
theorem ok193 {L : Nat} (p1 : Int32) (μ : Mem) (res : Mem × Int32) (h : f193 p1 μ = some res) : Mx 193 [.ref 9, .int p1] (mk L μ) (mk L res.1, some (.int res.2)) := by
  refine Mx_of ml_193 (by rw [mx_193]; exact Nat.le_of_ble_eq_true rfl) ?_
  show Sx 193 0 [(0, .ref 9), (1, .int p1)] [] 0 0 (mk L μ) _
  unfold f193 at h
  refine sx_aload_n (i := 0) k193_0 rfl rfl ?_
  refine cx_getI (k := 13) k193_1 ow_193 fl_10_126 (by decide) sk_9 ft_9_13 ?_
  by_cases hb1 : (μ.1 9 13) = 0
  · rw [if_pos hb1] at h
    refine sx_if_eq (tgt := 9) k193_4 (by decide) (fun _ => ?_) (fun q => absurd hb1 q)
    refine sx_iload_n (i := 1) k193_9 rfl rfl ?_
    by_cases hb2 : p1 = 0
    · rw [if_pos hb2] at h
      refine sx_if_eq (tgt := 35) k193_10 (by decide) (fun _ => ?_) (fun q => absurd hb2 q)
      refine sx_aload_n (i := 0) k193_35 rfl rfl ?_
      refine sx_iconst (v := 1) k193_36 (by decide) ?_
      obtain ⟨m3, e4, h⟩ := Option.bind_eq_some_iff.mp h
      refine cx_putI (k := 13) k193_37 ow_193 fl_10_126 (by decide) sk_9 nf_9_13 fu_9_13 e4 ?_
      refine sx_aload_n (i := 0) k193_40 rfl rfl ?_
      refine sx_iconst (v := 1) k193_41 (by decide) ?_
      obtain ⟨m5, e6, h⟩ := Option.bind_eq_some_iff.mp h
      refine cx_putI (k := 14) k193_42 ow_193 fl_10_129 (by decide) sk_9 nf_9_14 fu_9_14 e6 ?_
      refine sx_iload_n (i := 1) k193_45 rfl rfl ?_
      exact cx_retz k193_46 rt_193 h
    · rw [if_neg hb2] at h
      refine sx_if_eq (tgt := 35) k193_10 (by decide) (fun q => absurd q hb2) (fun _ => ?_)
      refine sx_aload_n (i := 0) k193_13 rfl rfl ?_
      refine sx_aload_n (i := 0) k193_14 rfl rfl ?_
      refine cx_getI (k := 11) k193_15 ow_193 fl_10_123 (by decide) sk_9 ft_9_11 ?_
      refine sx_iconst (v := 1) k193_18 (by decide) ?_
      refine sx_iadd k193_19 ?_
      refine sx_sipush (v := 255) k193_20 (by decide) ?_
      refine sx_iand k193_23 ?_
      obtain ⟨m7, e8, h⟩ := Option.bind_eq_some_iff.mp h
      refine cx_putI (k := 11) k193_24 ow_193 fl_10_123 (by decide) sk_9 nf_9_11 fu_9_11 e8 ?_
      refine sx_aload_n (i := 0) k193_27 rfl rfl ?_
      refine sx_iconst (v := 0) k193_28 (by decide) ?_
      obtain ⟨m9, e10, h⟩ := Option.bind_eq_some_iff.mp h
      refine cx_putI (k := 14) k193_29 ow_193 fl_10_129 (by decide) sk_9 nf_9_14 fu_9_14 e10 ?_
      refine sx_goto (tgt := 45) k193_32 (by decide) ?_
      refine sx_iload_n (i := 1) k193_45 rfl rfl ?_
      exact cx_retz k193_46 rt_193 h
  · rw [if_neg hb1] at h
    refine sx_if_eq (tgt := 9) k193_4 (by decide) (fun q => absurd q hb1) (fun _ => ?_)
    refine sx_iconst (v := 0) k193_7 (by decide) ?_
    exact cx_retz k193_8 rt_193 h
theorem k192_0 : decode (gb 192) 0 = .ok (.aload_n 0, 1) := by decide +kernel
theorem k192_1 : decode (gb 192) 1 = .ok (.getfield 120, 3) := by decide +kernel
theorem k192_4 : decode (gb 192) 4 = .ok (.ifCond .eq 5, 3) := by decide +kernel
theorem k192_7 : decode (gb 192) 7 = .ok (.iconst 0, 1) := by decide +kernel
theorem k192_8 : decode (gb 192) 8 = .ok (.ireturn, 1) := by decide +kernel
theorem k192_9 : decode (gb 192) 9 = .ok (.iload_n 1, 1) := by decide +kernel
theorem k192_10 : decode (gb 192) 10 = .ok (.aload_n 0, 1) := by decide +kernel
theorem k192_11 : decode (gb 192) 11 = .ok (.getfield 123, 3) := by decide +kernel
theorem k192_14 : decode (gb 192) 14 = .ok (.isub, 1) := by decide +kernel
theorem k192_15 : decode (gb 192) 15 = .ok (.sipush 255, 3) := by decide +kernel
theorem k192_18 : decode (gb 192) 18 = .ok (.iand, 1) := by decide +kernel
theorem k192_19 : decode (gb 192) 19 = .ok (.istore_n 3, 1) := by decide +kernel
theorem k192_20 : decode (gb 192) 20 = .ok (.iload_n 3, 1) := by decide +kernel
theorem k192_21 : decode (gb 192) 21 = .ok (.ifCond .ne 9, 3) := by decide +kernel
theorem k192_24 : decode (gb 192) 24 = .ok (.aload_n 0, 1) := by decide +kernel
theorem k192_25 : decode (gb 192) 25 = .ok (.iload_n 2, 1) := by decide +kernel
theorem k192_26 : decode (gb 192) 26 = .ok (.invokevirtual 135, 3) := by decide +kernel
theorem k192_29 : decode (gb 192) 29 = .ok (.ireturn, 1) := by decide +kernel
theorem k192_30 : decode (gb 192) 30 = .ok (.iload_n 3, 1) := by decide +kernel
theorem k192_31 : decode (gb 192) 31 = .ok (.aload_n 0, 1) := by decide +kernel
theorem k192_32 : decode (gb 192) 32 = .ok (.getfield 20, 3) := by decide +kernel
theorem k192_35 : decode (gb 192) 35 = .ok (.iconst 2, 1) := by decide +kernel
theorem k192_36 : decode (gb 192) 36 = .ok (.idiv, 1) := by decide +kernel
theorem k192_37 : decode (gb 192) 37 = .ok (.if_icmp .ge 11, 3) := by decide +kernel
theorem k192_40 : decode (gb 192) 40 = .ok (.aload_n 0, 1) := by decide +kernel
theorem k192_41 : decode (gb 192) 41 = .ok (.iconst 1, 1) := by decide +kernel
theorem k192_42 : decode (gb 192) 42 = .ok (.putfield 129, 3) := by decide +kernel
theorem k192_45 : decode (gb 192) 45 = .ok (.goto 22, 3) := by decide +kernel
theorem k192_48 : decode (gb 192) 48 = .ok (.iload_n 3, 1) := by decide +kernel
theorem k192_49 : decode (gb 192) 49 = .ok (.sipush 256, 3) := by decide +kernel
theorem k192_52 : decode (gb 192) 52 = .ok (.aload_n 0, 1) := by decide +kernel
theorem k192_53 : decode (gb 192) 53 = .ok (.getfield 20, 3) := by decide +kernel
theorem k192_56 : decode (gb 192) 56 = .ok (.iconst 2, 1) := by decide +kernel
theorem k192_57 : decode (gb 192) 57 = .ok (.idiv, 1) := by decide +kernel
theorem k192_58 : decode (gb 192) 58 = .ok (.isub, 1) := by decide +kernel
theorem k192_59 : decode (gb 192) 59 = .ok (.if_icmp .ge 8, 3) := by decide +kernel
theorem k192_62 : decode (gb 192) 62 = .ok (.aload_n 0, 1) := by decide +kernel
theorem k192_63 : decode (gb 192) 63 = .ok (.iconst 1, 1) := by decide +kernel
theorem k192_64 : decode (gb 192) 64 = .ok (.putfield 120, 3) := by decide +kernel
theorem k192_67 : decode (gb 192) 67 = .ok (.iconst 0, 1) := by decide +kernel
theorem k192_68 : decode (gb 192) 68 = .ok (.ireturn, 1) := by decide +kernel
/-- Uplink.takesNumber(IZ)Z -/
def f192 (p1 : Int32) (p2 : Int32) (μ : Mem) : Option (Mem × Int32) :=
  if (μ.1 9 12) = 0 then
    nm ((p1 - (μ.1 9 11)) &&& (255 : Int32)) fun x2 =>
    if x2 = 0 then
      (f193 p2 μ).bind fun r10 =>
      rtZ r10.2 r10.1
    else
      if ((μ.1 9 16) / (2 : Int32)) ≤ x2 then
        if ((256 : Int32) - ((μ.1 9 16) / (2 : Int32))) ≤ x2 then
          rtZ (0 : Int32) μ
        else
          (pfI 9 12 (1 : Int32) μ).bind fun m6 =>
          rtZ (0 : Int32) m6
      else
        (pfI 9 14 (1 : Int32) μ).bind fun m8 =>
        rtZ (0 : Int32) m8
  else
    rtZ (0 : Int32) μ
theorem ok192 {L : Nat} (p1 : Int32) (p2 : Int32) (μ : Mem) (res : Mem × Int32) (h : f192 p1 p2 μ = some res) : Mx 192 [.ref 9, .int p1, .int p2] (mk L μ) (mk L res.1, some (.int res.2)) := by
  refine Mx_of ml_192 (by rw [mx_192]; exact Nat.le_of_ble_eq_true rfl) ?_
  show Sx 192 0 [(0, .ref 9), (1, .int p1), (2, .int p2)] [] 0 0 (mk L μ) _
  unfold f192 at h
  refine sx_aload_n (i := 0) k192_0 rfl rfl ?_
  refine cx_getI (k := 12) k192_1 ow_192 fl_10_120 (by decide) sk_9 ft_9_12 ?_
  by_cases hb1 : (μ.1 9 12) = 0
  · rw [if_pos hb1] at h
    refine sx_if_eq (tgt := 9) k192_4 (by decide) (fun _ => ?_) (fun q => absurd hb1 q)
    refine sx_iload_n (i := 1) k192_9 rfl rfl ?_
    refine sx_aload_n (i := 0) k192_10 rfl rfl ?_
    refine cx_getI (k := 11) k192_11 ow_192 fl_10_123 (by decide) sk_9 ft_9_11 ?_
    refine sx_isub k192_14 ?_
    refine sx_sipush (v := 255) k192_15 (by decide) ?_
    refine sx_iand k192_18 ?_
    refine cx_nm h (fun x2 h => ?_)
    refine cx_istore_n (lo2 := [(3, .int x2), (0, .ref 9), (1, .int p1), (2, .int p2)]) k192_19 rfl (by rw [mx_192]; decide) rfl ?_
    refine sx_iload_n (i := 3) k192_20 rfl rfl ?_
    by_cases hb3 : x2 = 0
    · rw [if_pos hb3] at h
      refine sx_if_ne (tgt := 30) k192_21 (by decide) (fun q => absurd hb3 q) (fun _ => ?_)
      refine sx_aload_n (i := 0) k192_24 rfl rfl ?_
      refine sx_iload_n (i := 2) k192_25 rfl rfl ?_
      obtain ⟨r10, e11, h⟩ := Option.bind_eq_some_iff.mp h
      refine cx_V (sk := []) (vs := [.int p2]) st_192_193 k192_26 ow_192 cl_10_135 (by decide) rfl (Nat.le_of_ble_eq_true rfl) sk_9 (ok193 p2 _ _ e11) (sk3 := [.int r10.2]) rfl rfl ?_
      exact cx_retz k192_29 rt_192 h
    · rw [if_neg hb3] at h
      refine sx_if_ne (tgt := 30) k192_21 (by decide) (fun _ => ?_) (fun q => absurd q hb3)
      refine sx_iload_n (i := 3) k192_30 rfl rfl ?_
      refine sx_aload_n (i := 0) k192_31 rfl rfl ?_
      refine cx_getI (k := 16) k192_32 ow_192 fl_10_20 (by decide) sk_9 ft_9_16 ?_
      refine sx_iconst (v := 2) k192_35 (by decide) ?_
      refine sx_idiv k192_36 (by decide) ?_
      by_cases hb4 : ((μ.1 9 16) / (2 : Int32)) ≤ x2
      · rw [if_pos hb4] at h
        refine sx_icmp_ge (tgt := 48) k192_37 (by decide) (fun _ => ?_) (fun q => absurd hb4 q)
        refine sx_iload_n (i := 3) k192_48 rfl rfl ?_
        refine sx_sipush (v := 256) k192_49 (by decide) ?_
        refine sx_aload_n (i := 0) k192_52 rfl rfl ?_
        refine cx_getI (k := 16) k192_53 ow_192 fl_10_20 (by decide) sk_9 ft_9_16 ?_
        refine sx_iconst (v := 2) k192_56 (by decide) ?_
        refine sx_idiv k192_57 (by decide) ?_
        refine sx_isub k192_58 ?_
        by_cases hb5 : ((256 : Int32) - ((μ.1 9 16) / (2 : Int32))) ≤ x2
        · rw [if_pos hb5] at h
          refine sx_icmp_ge (tgt := 67) k192_59 (by decide) (fun _ => ?_) (fun q => absurd hb5 q)
          refine sx_iconst (v := 0) k192_67 (by decide) ?_
          exact cx_retz k192_68 rt_192 h
        · rw [if_neg hb5] at h
          refine sx_icmp_ge (tgt := 67) k192_59 (by decide) (fun q => absurd q hb5) (fun _ => ?_)
          refine sx_aload_n (i := 0) k192_62 rfl rfl ?_
          refine sx_iconst (v := 1) k192_63 (by decide) ?_
          obtain ⟨m6, e7, h⟩ := Option.bind_eq_some_iff.mp h
          refine cx_putI (k := 12) k192_64 ow_192 fl_10_120 (by decide) sk_9 nf_9_12 fu_9_12 e7 ?_
          refine sx_iconst (v := 0) k192_67 (by decide) ?_
          exact cx_retz k192_68 rt_192 h
      · rw [if_neg hb4] at h
        refine sx_icmp_ge (tgt := 48) k192_37 (by decide) (fun q => absurd q hb4) (fun _ => ?_)
        refine sx_aload_n (i := 0) k192_40 rfl rfl ?_
        refine sx_iconst (v := 1) k192_41 (by decide) ?_
        obtain ⟨m8, e9, h⟩ := Option.bind_eq_some_iff.mp h
        refine cx_putI (k := 14) k192_42 ow_192 fl_10_129 (by decide) sk_9 nf_9_14 fu_9_14 e9 ?_
        refine sx_goto (tgt := 67) k192_45 (by decide) ?_
        refine sx_iconst (v := 0) k192_67 (by decide) ?_
        exact cx_retz k192_68 rt_192 h
  · rw [if_neg hb1] at h
    refine sx_if_eq (tgt := 9) k192_4 (by decide) (fun q => absurd q hb1) (fun _ => ?_)
    refine sx_iconst (v := 0) k192_7 (by decide) ?_
    exact cx_retz k192_8 rt_192 h
theorem k186_0 : decode (gb 186) 0 = .ok (.aload_n 0, 1) := by decide +kernel
theorem k186_1 : decode (gb 186) 1 = .ok (.getfield 14, 3) := by decide +kernel
theorem k186_4 : decode (gb 186) 4 = .ok (.iload_n 1, 1) := by decide +kernel
theorem k186_5 : decode (gb 186) 5 = .ok (.invokevirtual 76, 3) := by decide +kernel
theorem k186_8 : decode (gb 186) 8 = .ok (.istore 4, 2) := by decide +kernel
theorem k186_10 : decode (gb 186) 10 = .ok (.aload_n 0, 1) := by decide +kernel
theorem k186_11 : decode (gb 186) 11 = .ok (.iload_n 1, 1) := by decide +kernel
theorem k186_12 : decode (gb 186) 12 = .ok (.iload_n 2, 1) := by decide +kernel
theorem k186_13 : decode (gb 186) 13 = .ok (.invokevirtual 85, 3) := by decide +kernel
theorem k186_16 : decode (gb 186) 16 = .ok (.ifCond .ne 15, 3) := by decide +kernel
theorem k186_19 : decode (gb 186) 19 = .ok (.aload_n 0, 1) := by decide +kernel
theorem k186_20 : decode (gb 186) 20 = .ok (.dup, 1) := by decide +kernel
theorem k186_21 : decode (gb 186) 21 = .ok (.getfield 82, 3) := by decide +kernel
theorem k186_24 : decode (gb 186) 24 = .ok (.iconst 1, 1) := by decide +kernel
theorem k186_25 : decode (gb 186) 25 = .ok (.iadd, 1) := by decide +kernel
theorem k186_26 : decode (gb 186) 26 = .ok (.putfield 82, 3) := by decide +kernel
theorem k186_29 : decode (gb 186) 29 = .ok (.iconst 0, 1) := by decide +kernel
theorem k186_30 : decode (gb 186) 30 = .ok (.ireturn, 1) := by decide +kernel
theorem k186_31 : decode (gb 186) 31 = .ok (.iload 4, 2) := by decide +kernel
theorem k186_33 : decode (gb 186) 33 = .ok (.bipush 16, 2) := by decide +kernel
theorem k186_35 : decode (gb 186) 35 = .ok (.iand, 1) := by decide +kernel
theorem k186_36 : decode (gb 186) 36 = .ok (.ifCond .eq 11, 3) := by decide +kernel
theorem k186_39 : decode (gb 186) 39 = .ok (.aload_n 0, 1) := by decide +kernel
theorem k186_40 : decode (gb 186) 40 = .ok (.iload_n 1, 1) := by decide +kernel
theorem k186_41 : decode (gb 186) 41 = .ok (.iload_n 2, 1) := by decide +kernel
theorem k186_42 : decode (gb 186) 42 = .ok (.invokevirtual 89, 3) := by decide +kernel
theorem k186_45 : decode (gb 186) 45 = .ok (.iconst 0, 1) := by decide +kernel
theorem k186_46 : decode (gb 186) 46 = .ok (.ireturn, 1) := by decide +kernel
theorem k186_47 : decode (gb 186) 47 = .ok (.iload 4, 2) := by decide +kernel
theorem k186_49 : decode (gb 186) 49 = .ok (.bipush 32, 2) := by decide +kernel
theorem k186_51 : decode (gb 186) 51 = .ok (.iand, 1) := by decide +kernel
theorem k186_52 : decode (gb 186) 52 = .ok (.ifCond .eq 11, 3) := by decide +kernel
theorem k186_55 : decode (gb 186) 55 = .ok (.aload_n 0, 1) := by decide +kernel
theorem k186_56 : decode (gb 186) 56 = .ok (.iload_n 3, 1) := by decide +kernel
theorem k186_57 : decode (gb 186) 57 = .ok (.invokevirtual 93, 3) := by decide +kernel
theorem k186_60 : decode (gb 186) 60 = .ok (.goto 18, 3) := by decide +kernel
theorem k186_63 : decode (gb 186) 63 = .ok (.aload_n 0, 1) := by decide +kernel
theorem k186_64 : decode (gb 186) 64 = .ok (.aload_n 0, 1) := by decide +kernel
theorem k186_65 : decode (gb 186) 65 = .ok (.getfield 14, 3) := by decide +kernel
theorem k186_68 : decode (gb 186) 68 = .ok (.iload_n 1, 1) := by decide +kernel
theorem k186_69 : decode (gb 186) 69 = .ok (.iconst 4, 1) := by decide +kernel
theorem k186_70 : decode (gb 186) 70 = .ok (.iadd, 1) := by decide +kernel
theorem k186_71 : decode (gb 186) 71 = .ok (.invokevirtual 76, 3) := by decide +kernel
theorem k186_74 : decode (gb 186) 74 = .ok (.iload_n 3, 1) := by decide +kernel
theorem k186_75 : decode (gb 186) 75 = .ok (.invokevirtual 97, 3) := by decide +kernel
theorem k186_78 : decode (gb 186) 78 = .ok (.istore 5, 2) := by decide +kernel
theorem k186_80 : decode (gb 186) 80 = .ok (.iload 5, 2) := by decide +kernel
theorem k186_82 : decode (gb 186) 82 = .ok (.ifCond .eq 13, 3) := by decide +kernel
theorem k186_85 : decode (gb 186) 85 = .ok (.aload_n 0, 1) := by decide +kernel
theorem k186_86 : decode (gb 186) 86 = .ok (.dup, 1) := by decide +kernel
theorem k186_87 : decode (gb 186) 87 = .ok (.getfield 101, 3) := by decide +kernel
theorem k186_90 : decode (gb 186) 90 = .ok (.iconst 1, 1) := by decide +kernel
theorem k186_91 : decode (gb 186) 91 = .ok (.iadd, 1) := by decide +kernel
theorem k186_92 : decode (gb 186) 92 = .ok (.putfield 101, 3) := by decide +kernel
theorem k186_95 : decode (gb 186) 95 = .ok (.iload 5, 2) := by decide +kernel
theorem k186_97 : decode (gb 186) 97 = .ok (.ireturn, 1) := by decide +kernel
def c186_78 (s0 : Int32) (μ : Mem) : Option (Mem × Int32) :=
  if s0 = 0 then
    rtZ s0 μ
  else
    (pfI 9 8 ((μ.1 9 8) + (1 : Int32)) μ).bind fun m2 =>
    rtZ s0 m2
theorem c186_78_ok {L : Nat} (s0 : Int32) (μ : Mem) (res : Mem × Int32) (h : c186_78 s0 μ = some res) : Sx 186 78 [(0, .ref 9)] [.int s0] 0 0 (mk L μ) (mk L res.1, some (.int res.2)) := by
  unfold c186_78 at h
  refine cx_istore (lo2 := [(5, .int s0), (0, .ref 9)]) k186_78 (by rw [mx_186]; decide) rfl ?_
  refine sx_iload k186_80 rfl ?_
  by_cases hb1 : s0 = 0
  · rw [if_pos hb1] at h
    refine sx_if_eq (tgt := 95) k186_82 (by decide) (fun _ => ?_) (fun q => absurd hb1 q)
    refine sx_iload k186_95 rfl ?_
    exact cx_retz k186_97 rt_186 h
  · rw [if_neg hb1] at h
    refine sx_if_eq (tgt := 95) k186_82 (by decide) (fun q => absurd q hb1) (fun _ => ?_)
    refine sx_aload_n (i := 0) k186_85 rfl rfl ?_
    refine sx_dup k186_86 rfl ?_
    refine cx_getI (k := 8) k186_87 ow_186 fl_10_101 (by decide) sk_9 ft_9_8 ?_
    refine sx_iconst (v := 1) k186_90 (by decide) ?_
    refine sx_iadd k186_91 ?_
    obtain ⟨m2, e3, h⟩ := Option.bind_eq_some_iff.mp h
    refine cx_putI (k := 8) k186_92 ow_186 fl_10_101 (by decide) sk_9 nf_9_8 fu_9_8 e3 ?_
    refine sx_iload k186_95 rfl ?_
    exact cx_retz k186_97 rt_186 h
/-- Uplink.dealFrame(IIZ)Z -/
def f186 (p1 : Int32) (p2 : Int32) (p3 : Int32) (μ : Mem) : Option (Mem × Int32) :=
  (f75 10 p1 μ).bind fun r1 =>
  (f187 p1 p2 r1.1).bind fun r3 =>
  if r3.2 = 0 then
    (pfI 9 9 ((r3.1.1 9 9) + (1 : Int32)) r3.1).bind fun m16 =>
    rtZ (0 : Int32) m16
  else
    if (r1.2 &&& (16 : Int32)) = 0 then
      if (r1.2 &&& (32 : Int32)) = 0 then
        (f75 10 (p1 + (4 : Int32)) r3.1).bind fun r8 =>
        (f192 r8.2 p3 r8.1).bind fun r10 =>
        c186_78 r10.2 r10.1
      else
        (f191 p3 r3.1).bind fun r12 =>
        c186_78 r12.2 r12.1
    else
      (f190 p1 p2 r3.1).bind fun r14 =>
      rtZ (0 : Int32) r14
theorem ok186 {L : Nat} (p1 : Int32) (p2 : Int32) (p3 : Int32) (μ : Mem) (res : Mem × Int32) (h : f186 p1 p2 p3 μ = some res) : Mx 186 [.ref 9, .int p1, .int p2, .int p3] (mk L μ) (mk L res.1, some (.int res.2)) := by
  refine Mx_of ml_186 (by rw [mx_186]; exact Nat.le_of_ble_eq_true rfl) ?_
  show Sx 186 0 [(0, .ref 9), (1, .int p1), (2, .int p2), (3, .int p3)] [] 0 0 (mk L μ) _
  unfold f186 at h
  refine sx_aload_n (i := 0) k186_0 rfl rfl ?_
  refine cx_getR (k := 0) k186_1 ow_186 fl_10_14 (by decide) sk_9 ft_9_0 sr_9_0 ?_
  refine sx_iload_n (i := 1) k186_4 rfl rfl ?_
  obtain ⟨r1, e2, h⟩ := Option.bind_eq_some_iff.mp h
  refine cx_V (sk := []) (vs := [.int p1]) st_186_75 k186_5 ow_186 cl_10_76 (by decide) rfl (Nat.le_of_ble_eq_true rfl) sk_10 (ok75 10 p1 sk_10 _ _ e2) (sk3 := [.int r1.2]) rfl rfl ?_
  refine cx_istore (lo2 := [(4, .int r1.2), (0, .ref 9), (1, .int p1), (2, .int p2), (3, .int p3)]) k186_8 (by rw [mx_186]; decide) rfl ?_
  refine sx_aload_n (i := 0) k186_10 rfl rfl ?_
  refine sx_iload_n (i := 1) k186_11 rfl rfl ?_
  refine sx_iload_n (i := 2) k186_12 rfl rfl ?_
  obtain ⟨r3, e4, h⟩ := Option.bind_eq_some_iff.mp h
  refine cx_V (sk := []) (vs := [.int p1, .int p2]) st_186_187 k186_13 ow_186 cl_10_85 (by decide) rfl (Nat.le_of_ble_eq_true rfl) sk_9 (ok187 p1 p2 _ _ e4) (sk3 := [.int r3.2]) rfl rfl ?_
  by_cases hb5 : r3.2 = 0
  · rw [if_pos hb5] at h
    refine sx_if_ne (tgt := 31) k186_16 (by decide) (fun q => absurd hb5 q) (fun _ => ?_)
    refine sx_aload_n (i := 0) k186_19 rfl rfl ?_
    refine sx_dup k186_20 rfl ?_
    refine cx_getI (k := 9) k186_21 ow_186 fl_10_82 (by decide) sk_9 ft_9_9 ?_
    refine sx_iconst (v := 1) k186_24 (by decide) ?_
    refine sx_iadd k186_25 ?_
    obtain ⟨m16, e17, h⟩ := Option.bind_eq_some_iff.mp h
    refine cx_putI (k := 9) k186_26 ow_186 fl_10_82 (by decide) sk_9 nf_9_9 fu_9_9 e17 ?_
    refine sx_iconst (v := 0) k186_29 (by decide) ?_
    exact cx_retz k186_30 rt_186 h
  · rw [if_neg hb5] at h
    refine sx_if_ne (tgt := 31) k186_16 (by decide) (fun _ => ?_) (fun q => absurd q hb5)
    refine sx_iload k186_31 rfl ?_
    refine sx_bipush (v := 16) k186_33 (by decide) ?_
    refine sx_iand k186_35 ?_
    by_cases hb6 : (r1.2 &&& (16 : Int32)) = 0
    · rw [if_pos hb6] at h
      refine sx_if_eq (tgt := 47) k186_36 (by decide) (fun _ => ?_) (fun q => absurd hb6 q)
      refine sx_iload k186_47 rfl ?_
      refine sx_bipush (v := 32) k186_49 (by decide) ?_
      refine sx_iand k186_51 ?_
      by_cases hb7 : (r1.2 &&& (32 : Int32)) = 0
      · rw [if_pos hb7] at h
        refine sx_if_eq (tgt := 63) k186_52 (by decide) (fun _ => ?_) (fun q => absurd hb7 q)
        refine sx_aload_n (i := 0) k186_63 rfl rfl ?_
        refine sx_aload_n (i := 0) k186_64 rfl rfl ?_
        refine cx_getR (k := 0) k186_65 ow_186 fl_10_14 (by decide) sk_9 ft_9_0 sr_9_0 ?_
        refine sx_iload_n (i := 1) k186_68 rfl rfl ?_
        refine sx_iconst (v := 4) k186_69 (by decide) ?_
        refine sx_iadd k186_70 ?_
        obtain ⟨r8, e9, h⟩ := Option.bind_eq_some_iff.mp h
        refine cx_V (sk := [.ref 9]) (vs := [.int (p1 + (4 : Int32))]) st_186_75 k186_71 ow_186 cl_10_76 (by decide) rfl (Nat.le_of_ble_eq_true rfl) sk_10 (ok75 10 (p1 + (4 : Int32)) sk_10 _ _ e9) (sk3 := [.int r8.2, .ref 9]) rfl rfl ?_
        refine sx_iload_n (i := 3) k186_74 rfl rfl ?_
        obtain ⟨r10, e11, h⟩ := Option.bind_eq_some_iff.mp h
        refine cx_V (sk := []) (vs := [.int r8.2, .int p3]) st_186_192 k186_75 ow_186 cl_10_97 (by decide) rfl (Nat.le_of_ble_eq_true rfl) sk_9 (ok192 r8.2 p3 _ _ e11) (sk3 := [.int r10.2]) rfl rfl ?_
        refine sx_pick (lo2 := [(0, .ref 9)]) [1] rfl ?_
        exact c186_78_ok r10.2 _ _ h
      · rw [if_neg hb7] at h
        refine sx_if_eq (tgt := 63) k186_52 (by decide) (fun q => absurd q hb7) (fun _ => ?_)
        refine sx_aload_n (i := 0) k186_55 rfl rfl ?_
        refine sx_iload_n (i := 3) k186_56 rfl rfl ?_
        obtain ⟨r12, e13, h⟩ := Option.bind_eq_some_iff.mp h
        refine cx_V (sk := []) (vs := [.int p3]) st_186_191 k186_57 ow_186 cl_10_93 (by decide) rfl (Nat.le_of_ble_eq_true rfl) sk_9 (ok191 p3 _ _ e13) (sk3 := [.int r12.2]) rfl rfl ?_
        refine sx_goto (tgt := 78) k186_60 (by decide) ?_
        refine sx_pick (lo2 := [(0, .ref 9)]) [1] rfl ?_
        exact c186_78_ok r12.2 _ _ h
    · rw [if_neg hb6] at h
      refine sx_if_eq (tgt := 47) k186_36 (by decide) (fun q => absurd q hb6) (fun _ => ?_)
      refine sx_aload_n (i := 0) k186_39 rfl rfl ?_
      refine sx_iload_n (i := 1) k186_40 rfl rfl ?_
      refine sx_iload_n (i := 2) k186_41 rfl rfl ?_
      obtain ⟨r14, e15, h⟩ := Option.bind_eq_some_iff.mp h
      refine cx_V (sk := []) (vs := [.int p1, .int p2]) st_186_190 k186_42 ow_186 cl_10_89 (by decide) rfl (Nat.le_of_ble_eq_true rfl) sk_9 (ok190 p1 p2 _ _ e15) (sk3 := []) rfl rfl ?_
      refine sx_iconst (v := 0) k186_45 (by decide) ?_
      exact cx_retz k186_46 rt_186 h
theorem k194_0 : decode (gb 194) 0 = .ok (.aload_n 3, 1) := by decide +kernel
theorem k194_1 : decode (gb 194) 1 = .ok (.invokevirtual 73, 3) := by decide +kernel
theorem k194_4 : decode (gb 194) 4 = .ok (.aload_n 3, 1) := by decide +kernel
theorem k194_5 : decode (gb 194) 5 = .ok (.aload_n 0, 1) := by decide +kernel
theorem k194_6 : decode (gb 194) 6 = .ok (.getfield 14, 3) := by decide +kernel
theorem k194_9 : decode (gb 194) 9 = .ok (.getfield 138, 3) := by decide +kernel
theorem k194_12 : decode (gb 194) 12 = .ok (.iload_n 1, 1) := by decide +kernel
theorem k194_13 : decode (gb 194) 13 = .ok (.iconst 5, 1) := by decide +kernel
theorem k194_14 : decode (gb 194) 14 = .ok (.iadd, 1) := by decide +kernel
theorem k194_15 : decode (gb 194) 15 = .ok (.iload_n 2, 1) := by decide +kernel
theorem k194_16 : decode (gb 194) 16 = .ok (.bipush 7, 2) := by decide +kernel
theorem k194_18 : decode (gb 194) 18 = .ok (.isub, 1) := by decide +kernel
theorem k194_19 : decode (gb 194) 19 = .ok (.invokevirtual 142, 3) := by decide +kernel
theorem k194_22 : decode (gb 194) 22 = .ok (.return_, 1) := by decide +kernel
/-- Uplink.copyContent(IILCraftHouse$Bytes;)V -/
def f194 (p1 : Int32) (p2 : Int32) (p3 : Nat) (μ : Mem) : Option (Mem) :=
  (f64 p3 μ).bind fun r1 =>
  (f70 p3 11 (p1 + (5 : Int32)) (p2 - (7 : Int32)) r1).bind fun r3 =>
  some r3
theorem ok194 {L : Nat} (p1 : Int32) (p2 : Int32) (p3 : Nat) (h3 : SK0 p3 = (0, 1)) (μ : Mem) (res : Mem) (h : f194 p1 p2 p3 μ = some res) : Mx 194 [.ref 9, .int p1, .int p2, .ref p3] (mk L μ) (mk L res, none) := by
  refine Mx_of ml_194 (by rw [mx_194]; exact Nat.le_of_ble_eq_true rfl) ?_
  show Sx 194 0 [(0, .ref 9), (1, .int p1), (2, .int p2), (3, .ref p3)] [] 0 0 (mk L μ) _
  unfold f194 at h
  refine sx_aload_n (i := 3) k194_0 rfl rfl ?_
  obtain ⟨r1, e2, h⟩ := Option.bind_eq_some_iff.mp h
  refine cx_V (sk := []) (vs := []) st_194_64 k194_1 ow_194 cl_10_73 (by decide) rfl (Nat.le_of_ble_eq_true rfl) h3 (ok64 p3 h3 _ _ e2) (sk3 := []) rfl rfl ?_
  refine sx_aload_n (i := 3) k194_4 rfl rfl ?_
  refine sx_aload_n (i := 0) k194_5 rfl rfl ?_
  refine cx_getR (k := 0) k194_6 ow_194 fl_10_14 (by decide) sk_9 ft_9_0 sr_9_0 ?_
  refine cx_getR (k := 0) k194_9 ow_194 fl_10_138 (by decide) sk_10 ft_1_0 sr_10_0 ?_
  refine sx_iload_n (i := 1) k194_12 rfl rfl ?_
  refine sx_iconst (v := 5) k194_13 (by decide) ?_
  refine sx_iadd k194_14 ?_
  refine sx_iload_n (i := 2) k194_15 rfl rfl ?_
  refine sx_bipush (v := 7) k194_16 (by decide) ?_
  refine sx_isub k194_18 ?_
  obtain ⟨r3, e4, h⟩ := Option.bind_eq_some_iff.mp h
  refine cx_V (sk := []) (vs := [.ref 11, .int (p1 + (5 : Int32)), .int (p2 - (7 : Int32))]) st_194_70 k194_19 ow_194 cl_10_142 (by decide) rfl (Nat.le_of_ble_eq_true rfl) h3 (ok70 p3 11 (p1 + (5 : Int32)) (p2 - (7 : Int32)) h3 sk_11 _ _ e4) (sk3 := []) rfl rfl ?_
  exact cx_retv k194_22 rt_194 h
theorem k195_0 : decode (gb 195) 0 = .ok (.aload_n 0, 1) := by decide +kernel
theorem k195_1 : decode (gb 195) 1 = .ok (.getfield 120, 3) := by decide +kernel
theorem k195_4 : decode (gb 195) 4 = .ok (.iconst 5, 1) := by decide +kernel
theorem k195_5 : decode (gb 195) 5 = .ok (.ishl, 1) := by decide +kernel
theorem k195_6 : decode (gb 195) 6 = .ok (.aload_n 0, 1) := by decide +kernel
theorem k195_7 : decode (gb 195) 7 = .ok (.getfield 126, 3) := by decide +kernel
theorem k195_10 : decode (gb 195) 10 = .ok (.iconst 4, 1) := by decide +kernel
theorem k195_11 : decode (gb 195) 11 = .ok (.ishl, 1) := by decide +kernel
theorem k195_12 : decode (gb 195) 12 = .ok (.ior, 1) := by decide +kernel
theorem k195_13 : decode (gb 195) 13 = .ok (.aload_n 0, 1) := by decide +kernel
theorem k195_14 : decode (gb 195) 14 = .ok (.getfield 129, 3) := by decide +kernel
theorem k195_17 : decode (gb 195) 17 = .ok (.iconst 3, 1) := by decide +kernel
theorem k195_18 : decode (gb 195) 18 = .ok (.ishl, 1) := by decide +kernel
theorem k195_19 : decode (gb 195) 19 = .ok (.ior, 1) := by decide +kernel
theorem k195_20 : decode (gb 195) 20 = .ok (.aload_n 0, 1) := by decide +kernel
theorem k195_21 : decode (gb 195) 21 = .ok (.getfield 117, 3) := by decide +kernel
theorem k195_24 : decode (gb 195) 24 = .ok (.iconst 1, 1) := by decide +kernel
theorem k195_25 : decode (gb 195) 25 = .ok (.ishl, 1) := by decide +kernel
theorem k195_26 : decode (gb 195) 26 = .ok (.ior, 1) := by decide +kernel
theorem k195_27 : decode (gb 195) 27 = .ok (.ireturn, 1) := by decide +kernel
/-- Uplink.reportBits()I -/
def f195 (μ : Mem) : Option (Mem × Int32) :=
  some (μ, ((((jshl (μ.1 9 12) (5 : Int32)) ||| (jshl (μ.1 9 13) (4 : Int32))) ||| (jshl (μ.1 9 14) (3 : Int32))) ||| (jshl (μ.1 9 15) (1 : Int32))))
theorem ok195 {L : Nat} (μ : Mem) (res : Mem × Int32) (h : f195 μ = some res) : Mx 195 [.ref 9] (mk L μ) (mk L res.1, some (.int res.2)) := by
  refine Mx_of ml_195 (by rw [mx_195]; exact Nat.le_of_ble_eq_true rfl) ?_
  show Sx 195 0 [(0, .ref 9)] [] 0 0 (mk L μ) _
  unfold f195 at h
  refine sx_aload_n (i := 0) k195_0 rfl rfl ?_
  refine cx_getI (k := 12) k195_1 ow_195 fl_10_120 (by decide) sk_9 ft_9_12 ?_
  refine sx_iconst (v := 5) k195_4 (by decide) ?_
  refine sx_ishl k195_5 ?_
  refine sx_aload_n (i := 0) k195_6 rfl rfl ?_
  refine cx_getI (k := 13) k195_7 ow_195 fl_10_126 (by decide) sk_9 ft_9_13 ?_
  refine sx_iconst (v := 4) k195_10 (by decide) ?_
  refine sx_ishl k195_11 ?_
  refine sx_ior k195_12 ?_
  refine sx_aload_n (i := 0) k195_13 rfl rfl ?_
  refine cx_getI (k := 14) k195_14 ow_195 fl_10_129 (by decide) sk_9 ft_9_14 ?_
  refine sx_iconst (v := 3) k195_17 (by decide) ?_
  refine sx_ishl k195_18 ?_
  refine sx_ior k195_19 ?_
  refine sx_aload_n (i := 0) k195_20 rfl rfl ?_
  refine cx_getI (k := 15) k195_21 ow_195 fl_10_117 (by decide) sk_9 ft_9_15 ?_
  refine sx_iconst (v := 1) k195_24 (by decide) ?_
  refine sx_ishl k195_25 ?_
  refine sx_ior k195_26 ?_
  exact cx_reti k195_27 rt_195 h
