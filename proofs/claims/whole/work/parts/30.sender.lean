theorem k129_0 : decode (gb 129) 0 = .ok (.aload_n 0, 1) := by decide +kernel
theorem k129_1 : decode (gb 129) 1 = .ok (.getfield 43, 3) := by decide +kernel
theorem k129_4 : decode (gb 129) 4 = .ok (.iconst 3, 1) := by decide +kernel
theorem k129_5 : decode (gb 129) 5 = .ok (.if_icmp .gt 7, 3) := by decide +kernel
theorem k129_8 : decode (gb 129) 8 = .ok (.iconst 1, 1) := by decide +kernel
theorem k129_9 : decode (gb 129) 9 = .ok (.goto 4, 3) := by decide +kernel
theorem k129_12 : decode (gb 129) 12 = .ok (.iconst 0, 1) := by decide +kernel
theorem k129_13 : decode (gb 129) 13 = .ok (.ireturn, 1) := by decide +kernel
/-- Sender.takesRequests()Z -/
def f129 (μ : Mem) : Option (Mem × Int32) :=
  if (3 : Int32) < (μ.1 28 8) then
    rtZ (0 : Int32) μ
  else
    rtZ (1 : Int32) μ
theorem ok129 {L : Nat} (μ : Mem) (res : Mem × Int32) (h : f129 μ = some res) : Mx 129 [.ref 28] (mk L μ) (mk L res.1, some (.int res.2)) := by
  refine Mx_of ml_129 (by rw [mx_129]; exact Nat.le_of_ble_eq_true rfl) ?_
  show Sx 129 0 [(0, .ref 28)] [] 0 0 (mk L μ) _
  unfold f129 at h
  refine sx_aload_n (i := 0) k129_0 rfl rfl ?_
  refine cx_getI (k := 8) k129_1 ow_129 fl_7_43 (by decide) sk_28 ft_6_8 ?_
  refine sx_iconst (v := 3) k129_4 (by decide) ?_
  by_cases hb1 : (3 : Int32) < (μ.1 28 8)
  · rw [if_pos hb1] at h
    refine sx_icmp_gt (tgt := 12) k129_5 (by decide) (fun _ => ?_) (fun q => absurd hb1 q)
    refine sx_iconst (v := 0) k129_12 (by decide) ?_
    exact cx_retz k129_13 rt_129 h
  · rw [if_neg hb1] at h
    refine sx_icmp_gt (tgt := 12) k129_5 (by decide) (fun q => absurd q hb1) (fun _ => ?_)
    refine sx_iconst (v := 1) k129_8 (by decide) ?_
    refine sx_goto (tgt := 13) k129_9 (by decide) ?_
    exact cx_retz k129_13 rt_129 h
theorem k130_0 : decode (gb 130) 0 = .ok (.aload_n 0, 1) := by decide +kernel
theorem k130_1 : decode (gb 130) 1 = .ok (.getfield 20, 3) := by decide +kernel
theorem k130_4 : decode (gb 130) 4 = .ok (.invokevirtual 67, 3) := by decide +kernel
theorem k130_7 : decode (gb 130) 7 = .ok (.ireturn, 1) := by decide +kernel
/-- Sender.hasRoom()Z -/
def f130 (μ : Mem) : Option (Mem × Int32) :=
  (f159 35 μ).bind fun r1 =>
  rtZ r1.2 r1.1
theorem ok130 {L : Nat} (μ : Mem) (res : Mem × Int32) (h : f130 μ = some res) : Mx 130 [.ref 28] (mk L μ) (mk L res.1, some (.int res.2)) := by
  refine Mx_of ml_130 (by rw [mx_130]; exact Nat.le_of_ble_eq_true rfl) ?_
  show Sx 130 0 [(0, .ref 28)] [] 0 0 (mk L μ) _
  unfold f130 at h
  refine sx_aload_n (i := 0) k130_0 rfl rfl ?_
  refine cx_getR (k := 3) k130_1 ow_130 fl_7_20 (by decide) sk_28 ft_6_3 sr_28_3 ?_
  obtain ⟨r1, e2, h⟩ := Option.bind_eq_some_iff.mp h
  refine cx_V (sk := []) (vs := []) st_130_159 k130_4 ow_130 cl_7_67 (by decide) rfl (Nat.le_of_ble_eq_true rfl) sk_35 (ok159 35 sk_35 _ _ e2) (sk3 := [.int r1.2]) rfl rfl ?_
  exact cx_retz k130_7 rt_130 h
theorem k131_0 : decode (gb 131) 0 = .ok (.aload_n 0, 1) := by decide +kernel
theorem k131_1 : decode (gb 131) 1 = .ok (.getfield 20, 3) := by decide +kernel
theorem k131_4 : decode (gb 131) 4 = .ok (.aload_n 1, 1) := by decide +kernel
theorem k131_5 : decode (gb 131) 5 = .ok (.iconst 0, 1) := by decide +kernel
theorem k131_6 : decode (gb 131) 6 = .ok (.aload_n 1, 1) := by decide +kernel
theorem k131_7 : decode (gb 131) 7 = .ok (.getfield 71, 3) := by decide +kernel
theorem k131_10 : decode (gb 131) 10 = .ok (.iload_n 2, 1) := by decide +kernel
theorem k131_11 : decode (gb 131) 11 = .ok (.iconst 0, 1) := by decide +kernel
theorem k131_12 : decode (gb 131) 12 = .ok (.invokevirtual 74, 3) := by decide +kernel
theorem k131_15 : decode (gb 131) 15 = .ok (.pop, 1) := by decide +kernel
theorem k131_16 : decode (gb 131) 16 = .ok (.return_, 1) := by decide +kernel
/-- Sender.putWaiting(LCraftHouse$Bytes;I)V -/
def f131 (p1 : Nat) (p2 : Int32) (μ : Mem) : Option (Mem) :=
  (f161 35 p1 (0 : Int32) (μ.1 p1 1) p2 (0 : Int32) μ).bind fun r1 =>
  some r1.1
theorem ok131 {L : Nat} (p1 : Nat) (p2 : Int32) (h1 : SK0 p1 = (0, 1)) (μ : Mem) (res : Mem) (h : f131 p1 p2 μ = some res) : Mx 131 [.ref 28, .ref p1, .int p2] (mk L μ) (mk L res, none) := by
  refine Mx_of ml_131 (by rw [mx_131]; exact Nat.le_of_ble_eq_true rfl) ?_
  show Sx 131 0 [(0, .ref 28), (1, .ref p1), (2, .int p2)] [] 0 0 (mk L μ) _
  unfold f131 at h
  refine sx_aload_n (i := 0) k131_0 rfl rfl ?_
  refine cx_getR (k := 3) k131_1 ow_131 fl_7_20 (by decide) sk_28 ft_6_3 sr_28_3 ?_
  refine sx_aload_n (i := 1) k131_4 rfl rfl ?_
  refine sx_iconst (v := 0) k131_5 (by decide) ?_
  refine sx_aload_n (i := 1) k131_6 rfl rfl ?_
  refine cx_getI (k := 1) k131_7 ow_131 fl_7_71 (by decide) h1 ft_1_1 ?_
  refine sx_iload_n (i := 2) k131_10 rfl rfl ?_
  refine sx_iconst (v := 0) k131_11 (by decide) ?_
  obtain ⟨r1, e2, h⟩ := Option.bind_eq_some_iff.mp h
  refine cx_V (sk := []) (vs := [.ref p1, .int (0 : Int32), .int (μ.1 p1 1), .int p2, .int (0 : Int32)]) st_131_161 k131_12 ow_131 cl_7_74 (by decide) rfl (Nat.le_of_ble_eq_true rfl) sk_35 (ok161 35 p1 (0 : Int32) (μ.1 p1 1) p2 (0 : Int32) sk_35 h1 _ _ e2) (sk3 := [.int r1.2]) rfl rfl ?_
  refine sx_pop k131_15 rfl ?_
  exact cx_retv k131_16 rt_131 h
theorem k134_0 : decode (gb 134) 0 = .ok (.aload_n 0, 1) := by decide +kernel
theorem k134_1 : decode (gb 134) 1 = .ok (.getfield 35, 3) := by decide +kernel
theorem k134_4 : decode (gb 134) 4 = .ok (.invokevirtual 82, 3) := by decide +kernel
theorem k134_7 : decode (gb 134) 7 = .ok (.aload_n 0, 1) := by decide +kernel
theorem k134_8 : decode (gb 134) 8 = .ok (.getfield 35, 3) := by decide +kernel
theorem k134_11 : decode (gb 134) 11 = .ok (.iload_n 1, 1) := by decide +kernel
theorem k134_12 : decode (gb 134) 12 = .ok (.sipush 171, 3) := by decide +kernel
theorem k134_15 : decode (gb 134) 15 = .ok (.ior, 1) := by decide +kernel
theorem k134_16 : decode (gb 134) 16 = .ok (.invokevirtual 85, 3) := by decide +kernel
theorem k134_19 : decode (gb 134) 19 = .ok (.aload_n 0, 1) := by decide +kernel
theorem k134_20 : decode (gb 134) 20 = .ok (.getfield 35, 3) := by decide +kernel
theorem k134_23 : decode (gb 134) 23 = .ok (.aload_n 3, 1) := by decide +kernel
theorem k134_24 : decode (gb 134) 24 = .ok (.getfield 71, 3) := by decide +kernel
theorem k134_27 : decode (gb 134) 27 = .ok (.bipush 6, 2) := by decide +kernel
theorem k134_29 : decode (gb 134) 29 = .ok (.iadd, 1) := by decide +kernel
theorem k134_30 : decode (gb 134) 30 = .ok (.invokevirtual 85, 3) := by decide +kernel
theorem k134_33 : decode (gb 134) 33 = .ok (.aload_n 0, 1) := by decide +kernel
theorem k134_34 : decode (gb 134) 34 = .ok (.getfield 35, 3) := by decide +kernel
theorem k134_37 : decode (gb 134) 37 = .ok (.iload_n 2, 1) := by decide +kernel
theorem k134_38 : decode (gb 134) 38 = .ok (.invokevirtual 88, 3) := by decide +kernel
theorem k134_41 : decode (gb 134) 41 = .ok (.aload_n 0, 1) := by decide +kernel
theorem k134_42 : decode (gb 134) 42 = .ok (.getfield 35, 3) := by decide +kernel
theorem k134_45 : decode (gb 134) 45 = .ok (.aload_n 3, 1) := by decide +kernel
theorem k134_46 : decode (gb 134) 46 = .ok (.invokevirtual 91, 3) := by decide +kernel
theorem k134_49 : decode (gb 134) 49 = .ok (.aload_n 0, 1) := by decide +kernel
theorem k134_50 : decode (gb 134) 50 = .ok (.getfield 35, 3) := by decide +kernel
theorem k134_53 : decode (gb 134) 53 = .ok (.invokevirtual 95, 3) := by decide +kernel
theorem k134_56 : decode (gb 134) 56 = .ok (.aload_n 0, 1) := by decide +kernel
theorem k134_57 : decode (gb 134) 57 = .ok (.getfield 35, 3) := by decide +kernel
theorem k134_60 : decode (gb 134) 60 = .ok (.aload_n 0, 1) := by decide +kernel
theorem k134_61 : decode (gb 134) 61 = .ok (.getfield 40, 3) := by decide +kernel
theorem k134_64 : decode (gb 134) 64 = .ok (.invokestatic 98, 3) := by decide +kernel
theorem k134_67 : decode (gb 134) 67 = .ok (.aload_n 0, 1) := by decide +kernel
theorem k134_68 : decode (gb 134) 68 = .ok (.getfield 59, 3) := by decide +kernel
theorem k134_71 : decode (gb 134) 71 = .ok (.aload_n 0, 1) := by decide +kernel
theorem k134_72 : decode (gb 134) 72 = .ok (.getfield 40, 3) := by decide +kernel
theorem k134_75 : decode (gb 134) 75 = .ok (.invokevirtual 102, 3) := by decide +kernel
theorem k134_78 : decode (gb 134) 78 = .ok (.pop, 1) := by decide +kernel
theorem k134_79 : decode (gb 134) 79 = .ok (.return_, 1) := by decide +kernel
/-- Sender.transmit(IILCraftHouse$Bytes;)V -/
def f134 (p1 : Int32) (p2 : Int32) (p3 : Nat) (μ : Mem) : Option (Mem) :=
  (f64 45 μ).bind fun r1 =>
  (f66 45 (p1 ||| (171 : Int32)) r1).bind fun r3 =>
  (f66 45 ((r3.1 p3 1) + (6 : Int32)) r3).bind fun r5 =>
  (f65 45 p2 r5).bind fun r7 =>
  (f71 45 p3 r7).bind fun r9 =>
  (f72 45 r9).bind fun r11 =>
  (f3 45 47 r11).bind fun r13 =>
  (f110 5 47 r13).bind fun r15 =>
  some r15.1
theorem ok134 {L : Nat} (p1 : Int32) (p2 : Int32) (p3 : Nat) (h3 : SK0 p3 = (0, 1)) (μ : Mem) (res : Mem) (h : f134 p1 p2 p3 μ = some res) : Mx 134 [.ref 28, .int p1, .int p2, .ref p3] (mk L μ) (mk L res, none) := by
  refine Mx_of ml_134 (by rw [mx_134]; exact Nat.le_of_ble_eq_true rfl) ?_
  show Sx 134 0 [(0, .ref 28), (1, .int p1), (2, .int p2), (3, .ref p3)] [] 0 0 (mk L μ) _
  unfold f134 at h
  refine sx_aload_n (i := 0) k134_0 rfl rfl ?_
  refine cx_getR (k := 6) k134_1 ow_134 fl_7_35 (by decide) sk_28 ft_6_6 sr_28_6 ?_
  obtain ⟨r1, e2, h⟩ := Option.bind_eq_some_iff.mp h
  refine cx_V (sk := []) (vs := []) st_134_64 k134_4 ow_134 cl_7_82 (by decide) rfl (Nat.le_of_ble_eq_true rfl) sk_45 (ok64 45 sk_45 _ _ e2) (sk3 := []) rfl rfl ?_
  refine sx_aload_n (i := 0) k134_7 rfl rfl ?_
  refine cx_getR (k := 6) k134_8 ow_134 fl_7_35 (by decide) sk_28 ft_6_6 sr_28_6 ?_
  refine sx_iload_n (i := 1) k134_11 rfl rfl ?_
  refine sx_sipush (v := 171) k134_12 (by decide) ?_
  refine sx_ior k134_15 ?_
  obtain ⟨r3, e4, h⟩ := Option.bind_eq_some_iff.mp h
  refine cx_V (sk := []) (vs := [.int (p1 ||| (171 : Int32))]) st_134_66 k134_16 ow_134 cl_7_85 (by decide) rfl (Nat.le_of_ble_eq_true rfl) sk_45 (ok66 45 (p1 ||| (171 : Int32)) sk_45 _ _ e4) (sk3 := []) rfl rfl ?_
  refine sx_aload_n (i := 0) k134_19 rfl rfl ?_
  refine cx_getR (k := 6) k134_20 ow_134 fl_7_35 (by decide) sk_28 ft_6_6 sr_28_6 ?_
  refine sx_aload_n (i := 3) k134_23 rfl rfl ?_
  refine cx_getI (k := 1) k134_24 ow_134 fl_7_71 (by decide) h3 ft_1_1 ?_
  refine sx_bipush (v := 6) k134_27 (by decide) ?_
  refine sx_iadd k134_29 ?_
  obtain ⟨r5, e6, h⟩ := Option.bind_eq_some_iff.mp h
  refine cx_V (sk := []) (vs := [.int ((r3.1 p3 1) + (6 : Int32))]) st_134_66 k134_30 ow_134 cl_7_85 (by decide) rfl (Nat.le_of_ble_eq_true rfl) sk_45 (ok66 45 ((r3.1 p3 1) + (6 : Int32)) sk_45 _ _ e6) (sk3 := []) rfl rfl ?_
  refine sx_aload_n (i := 0) k134_33 rfl rfl ?_
  refine cx_getR (k := 6) k134_34 ow_134 fl_7_35 (by decide) sk_28 ft_6_6 sr_28_6 ?_
  refine sx_iload_n (i := 2) k134_37 rfl rfl ?_
  obtain ⟨r7, e8, h⟩ := Option.bind_eq_some_iff.mp h
  refine cx_V (sk := []) (vs := [.int p2]) st_134_65 k134_38 ow_134 cl_7_88 (by decide) rfl (Nat.le_of_ble_eq_true rfl) sk_45 (ok65 45 p2 sk_45 _ _ e8) (sk3 := []) rfl rfl ?_
  refine sx_aload_n (i := 0) k134_41 rfl rfl ?_
  refine cx_getR (k := 6) k134_42 ow_134 fl_7_35 (by decide) sk_28 ft_6_6 sr_28_6 ?_
  refine sx_aload_n (i := 3) k134_45 rfl rfl ?_
  obtain ⟨r9, e10, h⟩ := Option.bind_eq_some_iff.mp h
  refine cx_V (sk := []) (vs := [.ref p3]) st_134_71 k134_46 ow_134 cl_7_91 (by decide) rfl (Nat.le_of_ble_eq_true rfl) sk_45 (ok71 45 p3 sk_45 h3 _ _ e10) (sk3 := []) rfl rfl ?_
  refine sx_aload_n (i := 0) k134_49 rfl rfl ?_
  refine cx_getR (k := 6) k134_50 ow_134 fl_7_35 (by decide) sk_28 ft_6_6 sr_28_6 ?_
  obtain ⟨r11, e12, h⟩ := Option.bind_eq_some_iff.mp h
  refine cx_V (sk := []) (vs := []) st_134_72 k134_53 ow_134 cl_7_95 (by decide) rfl (Nat.le_of_ble_eq_true rfl) sk_45 (ok72 45 sk_45 _ _ e12) (sk3 := []) rfl rfl ?_
  refine sx_aload_n (i := 0) k134_56 rfl rfl ?_
  refine cx_getR (k := 6) k134_57 ow_134 fl_7_35 (by decide) sk_28 ft_6_6 sr_28_6 ?_
  refine sx_aload_n (i := 0) k134_60 rfl rfl ?_
  refine cx_getR (k := 7) k134_61 ow_134 fl_7_40 (by decide) sk_28 ft_6_7 sr_28_7 ?_
  obtain ⟨r13, e14, h⟩ := Option.bind_eq_some_iff.mp h
  refine cx_S (sk := []) (vs := [.ref 45, .ref 47]) st_134_3 k134_64 ow_134 cl_7_98 (by decide) rfl (Nat.le_of_ble_eq_true rfl) (ok3 45 47 sk_45 sk_47 _ _ e14) (sk3 := []) rfl rfl ?_
  refine sx_aload_n (i := 0) k134_67 rfl rfl ?_
  refine cx_getR (k := 0) k134_68 ow_134 fl_7_59 (by decide) sk_28 ft_6_0 sr_28_0 ?_
  refine sx_aload_n (i := 0) k134_71 rfl rfl ?_
  refine cx_getR (k := 7) k134_72 ow_134 fl_7_40 (by decide) sk_28 ft_6_7 sr_28_7 ?_
  obtain ⟨r15, e16, h⟩ := Option.bind_eq_some_iff.mp h
  refine cx_V (sk := []) (vs := [.ref 47]) st_134_110 k134_75 ow_134 cl_7_102 (by decide) rfl (Nat.le_of_ble_eq_true rfl) sk_5 (ok110 5 47 sk_5 sk_47 _ _ e16) (sk3 := [.int r15.2]) rfl rfl ?_
  refine sx_pop k134_78 rfl ?_
  exact cx_retv k134_79 rt_134 h
theorem k132_0 : decode (gb 132) 0 = .ok (.aload_n 0, 1) := by decide +kernel
theorem k132_1 : decode (gb 132) 1 = .ok (.sipush 8192, 3) := by decide +kernel
theorem k132_4 : decode (gb 132) 4 = .ok (.iconst 0, 1) := by decide +kernel
theorem k132_5 : decode (gb 132) 5 = .ok (.aload_n 1, 1) := by decide +kernel
theorem k132_6 : decode (gb 132) 6 = .ok (.invokevirtual 78, 3) := by decide +kernel
theorem k132_9 : decode (gb 132) 9 = .ok (.return_, 1) := by decide +kernel
/-- Sender.sendBypass(LCraftHouse$Bytes;)V -/
def f132 (p1 : Nat) (μ : Mem) : Option (Mem) :=
  (f134 (8192 : Int32) (0 : Int32) p1 μ).bind fun r1 =>
  some r1
theorem ok132 {L : Nat} (p1 : Nat) (h1 : SK0 p1 = (0, 1)) (μ : Mem) (res : Mem) (h : f132 p1 μ = some res) : Mx 132 [.ref 28, .ref p1] (mk L μ) (mk L res, none) := by
  refine Mx_of ml_132 (by rw [mx_132]; exact Nat.le_of_ble_eq_true rfl) ?_
  show Sx 132 0 [(0, .ref 28), (1, .ref p1)] [] 0 0 (mk L μ) _
  unfold f132 at h
  refine sx_aload_n (i := 0) k132_0 rfl rfl ?_
  refine sx_sipush (v := 8192) k132_1 (by decide) ?_
  refine sx_iconst (v := 0) k132_4 (by decide) ?_
  refine sx_aload_n (i := 1) k132_5 rfl rfl ?_
  obtain ⟨r1, e2, h⟩ := Option.bind_eq_some_iff.mp h
  refine cx_V (sk := []) (vs := [.int (8192 : Int32), .int (0 : Int32), .ref p1]) st_132_134 k132_6 ow_132 cl_7_78 (by decide) rfl (Nat.le_of_ble_eq_true rfl) sk_28 (ok134 (8192 : Int32) (0 : Int32) p1 h1 _ _ e2) (sk3 := []) rfl rfl ?_
  exact cx_retv k132_9 rt_132 h
theorem k133_0 : decode (gb 133) 0 = .ok (.aload_n 0, 1) := by decide +kernel
theorem k133_1 : decode (gb 133) 1 = .ok (.sipush 12288, 3) := by decide +kernel
theorem k133_4 : decode (gb 133) 4 = .ok (.iconst 0, 1) := by decide +kernel
theorem k133_5 : decode (gb 133) 5 = .ok (.aload_n 0, 1) := by decide +kernel
theorem k133_6 : decode (gb 133) 6 = .ok (.getfield 28, 3) := by decide +kernel
theorem k133_9 : decode (gb 133) 9 = .ok (.invokevirtual 78, 3) := by decide +kernel
theorem k133_12 : decode (gb 133) 12 = .ok (.return_, 1) := by decide +kernel
/-- Sender.sendControl()V -/
def f133 (μ : Mem) : Option (Mem) :=
  (f134 (12288 : Int32) (0 : Int32) 41 μ).bind fun r1 =>
  some r1
theorem ok133 {L : Nat} (μ : Mem) (res : Mem) (h : f133 μ = some res) : Mx 133 [.ref 28] (mk L μ) (mk L res, none) := by
  refine Mx_of ml_133 (by rw [mx_133]; exact Nat.le_of_ble_eq_true rfl) ?_
  show Sx 133 0 [(0, .ref 28)] [] 0 0 (mk L μ) _
  unfold f133 at h
  refine sx_aload_n (i := 0) k133_0 rfl rfl ?_
  refine sx_sipush (v := 12288) k133_1 (by decide) ?_
  refine sx_iconst (v := 0) k133_4 (by decide) ?_
  refine sx_aload_n (i := 0) k133_5 rfl rfl ?_
  refine cx_getR (k := 4) k133_6 ow_133 fl_7_28 (by decide) sk_28 ft_6_4 sr_28_4 ?_
  obtain ⟨r1, e2, h⟩ := Option.bind_eq_some_iff.mp h
  refine cx_V (sk := []) (vs := [.int (12288 : Int32), .int (0 : Int32), .ref 41]) st_133_134 k133_9 ow_133 cl_7_78 (by decide) rfl (Nat.le_of_ble_eq_true rfl) sk_28 (ok134 (12288 : Int32) (0 : Int32) 41 sk_41 _ _ e2) (sk3 := []) rfl rfl ?_
  exact cx_retv k133_12 rt_133 h
theorem k136_0 : decode (gb 136) 0 = .ok (.iconst 0, 1) := by decide +kernel
theorem k136_1 : decode (gb 136) 1 = .ok (.istore_n 1, 1) := by decide +kernel
theorem k136_2 : decode (gb 136) 2 = .ok (.iload_n 1, 1) := by decide +kernel
theorem k136_3 : decode (gb 136) 3 = .ok (.aload_n 0, 1) := by decide +kernel
theorem k136_4 : decode (gb 136) 4 = .ok (.getfield 16, 3) := by decide +kernel
theorem k136_7 : decode (gb 136) 7 = .ok (.getfield 124, 3) := by decide +kernel
theorem k136_10 : decode (gb 136) 10 = .ok (.if_icmp .ge 22, 3) := by decide +kernel
theorem k136_13 : decode (gb 136) 13 = .ok (.aload_n 0, 1) := by decide +kernel
theorem k136_14 : decode (gb 136) 14 = .ok (.getfield 16, 3) := by decide +kernel
theorem k136_17 : decode (gb 136) 17 = .ok (.iload_n 1, 1) := by decide +kernel
theorem k136_18 : decode (gb 136) 18 = .ok (.invokevirtual 125, 3) := by decide +kernel
theorem k136_21 : decode (gb 136) 21 = .ok (.ifCond .eq 5, 3) := by decide +kernel
theorem k136_24 : decode (gb 136) 24 = .ok (.iload_n 1, 1) := by decide +kernel
theorem k136_25 : decode (gb 136) 25 = .ok (.ireturn, 1) := by decide +kernel
theorem k136_26 : decode (gb 136) 26 = .ok (.iinc 1 1, 3) := by decide +kernel
theorem k136_29 : decode (gb 136) 29 = .ok (.goto (-27), 3) := by decide +kernel
theorem k136_32 : decode (gb 136) 32 = .ok (.iconst (-1), 1) := by decide +kernel
theorem k136_33 : decode (gb 136) 33 = .ok (.ireturn, 1) := by decide +kernel
def b136_2 (kl2 : Int32 → Mem → Option (Mem × Int32)) (v1 : Int32) (μ : Mem) : Option (Mem × Int32) :=
  if (μ.1 29 5) ≤ v1 then
    some (μ, (-1 : Int32))
  else
    (f168 29 v1 μ).bind fun r2 =>
    if r2.2 = 0 then
      nm (v1 + (1 : Int32)) fun x5 =>
      kl2 x5 r2.1
    else
      some (r2.1, v1)
theorem b136_2_ok {L : Nat} (kl2 : Int32 → Mem → Option (Mem × Int32)) (hk2 : (∀ (v1 : Int32) (μ : Mem) (res : Mem × Int32), kl2 v1 μ = some res → Sx 136 2 [(0, .ref 28), (1, .int v1)] [] 0 0 (mk L μ) (mk L res.1, some (.int res.2)))) (v1 : Int32) (μ : Mem) (res : Mem × Int32) (h : b136_2 kl2 v1 μ = some res) : Sx 136 2 [(0, .ref 28), (1, .int v1)] [] 0 0 (mk L μ) (mk L res.1, some (.int res.2)) := by
  unfold b136_2 at h
  refine sx_iload_n (i := 1) k136_2 rfl rfl ?_
  refine sx_aload_n (i := 0) k136_3 rfl rfl ?_
  refine cx_getR (k := 2) k136_4 ow_136 fl_7_16 (by decide) sk_28 ft_6_2 sr_28_2 ?_
  refine cx_getI (k := 5) k136_7 ow_136 fl_7_124 (by decide) sk_29 ft_7_5 ?_
  by_cases hb1 : (μ.1 29 5) ≤ v1
  · rw [if_pos hb1] at h
    refine sx_icmp_ge (tgt := 32) k136_10 (by decide) (fun _ => ?_) (fun q => absurd hb1 q)
    refine sx_iconst (v := -1) k136_32 (by decide) ?_
    exact cx_reti k136_33 rt_136 h
  · rw [if_neg hb1] at h
    refine sx_icmp_ge (tgt := 32) k136_10 (by decide) (fun q => absurd q hb1) (fun _ => ?_)
    refine sx_aload_n (i := 0) k136_13 rfl rfl ?_
    refine cx_getR (k := 2) k136_14 ow_136 fl_7_16 (by decide) sk_28 ft_6_2 sr_28_2 ?_
    refine sx_iload_n (i := 1) k136_17 rfl rfl ?_
    obtain ⟨r2, e3, h⟩ := Option.bind_eq_some_iff.mp h
    refine cx_V (sk := []) (vs := [.int v1]) st_136_168 k136_18 ow_136 cl_7_125 (by decide) rfl (Nat.le_of_ble_eq_true rfl) sk_29 (ok168 29 v1 sk_29 _ _ e3) (sk3 := [.int r2.2]) rfl rfl ?_
    by_cases hb4 : r2.2 = 0
    · rw [if_pos hb4] at h
      refine sx_if_eq (tgt := 26) k136_21 (by decide) (fun _ => ?_) (fun q => absurd hb4 q)
      refine cx_iinc (c := 1) (lo2 := fun x5 => [(1, .int x5), (0, .ref 28)]) k136_26 rfl (by decide) (by rw [mx_136]; decide) (fun _ => rfl) h (fun x5 h => ?_)
      refine sx_goto (tgt := 2) k136_29 (by decide) ?_
      refine sx_pick (lo2 := [(0, .ref 28), (1, .int x5)]) [1, 0] rfl ?_
      exact hk2 x5 _ _ h
    · rw [if_neg hb4] at h
      refine sx_if_eq (tgt := 26) k136_21 (by decide) (fun q => absurd q hb4) (fun _ => ?_)
      refine sx_iload_n (i := 1) k136_24 rfl rfl ?_
      exact cx_reti k136_25 rt_136 h
def l136_2 : Nat → Int32 × Mem → Option (Mem × Int32) :=
  fixN (fun self x => b136_2 (fun v1 μ => self (v1, μ)) (x.1) (x.2))
theorem l136_2_ok {L : Nat} (n : Nat) (v1 : Int32) (μ : Mem) (res : Mem × Int32) (h : l136_2 n (v1, μ) = some res) : Sx 136 2 [(0, .ref 28), (1, .int v1)] [] 0 0 (mk L μ) (mk L res.1, some (.int res.2)) := by
  have key := fixN_ind (P := fun x res => Sx 136 2 [(0, .ref 28), (1, .int (x.1))] [] 0 0 (mk L (x.2)) (mk L res.1, some (.int res.2))) (F := fun self x => b136_2 (fun v1 μ => self (v1, μ)) (x.1) (x.2)) (fun self hself x res h => b136_2_ok (fun v1 μ => self (v1, μ)) (fun v1 μ res hh => hself (v1, μ) res hh) (x.1) (x.2) res h) n (v1, μ) res h
  exact key
/-- Sender.firstMarked()I -/
def f136 (μ : Mem) : Option (Mem × Int32) :=
  l136_2 gF ((0 : Int32), μ)
theorem ok136 {L : Nat} (μ : Mem) (res : Mem × Int32) (h : f136 μ = some res) : Mx 136 [.ref 28] (mk L μ) (mk L res.1, some (.int res.2)) := by
  refine Mx_of ml_136 (by rw [mx_136]; exact Nat.le_of_ble_eq_true rfl) ?_
  show Sx 136 0 [(0, .ref 28)] [] 0 0 (mk L μ) _
  unfold f136 at h
  refine sx_iconst (v := 0) k136_0 (by decide) ?_
  refine cx_istore_n (lo2 := [(1, .int (0 : Int32)), (0, .ref 28)]) k136_1 rfl (by rw [mx_136]; decide) rfl ?_
  refine sx_pick (lo2 := [(0, .ref 28), (1, .int (0 : Int32))]) [1, 0] rfl ?_
  exact l136_2_ok gF (0 : Int32) _ _ h
theorem k137_0 : decode (gb 137) 0 = .ok (.aload_n 0, 1) := by decide +kernel
theorem k137_1 : decode (gb 137) 1 = .ok (.getfield 20, 3) := by decide +kernel
theorem k137_4 : decode (gb 137) 4 = .ok (.getfield 124, 3) := by decide +kernel
theorem k137_7 : decode (gb 137) 7 = .ok (.ifCond .eq 17, 3) := by decide +kernel
theorem k137_10 : decode (gb 137) 10 = .ok (.aload_n 0, 1) := by decide +kernel
theorem k137_11 : decode (gb 137) 11 = .ok (.getfield 16, 3) := by decide +kernel
theorem k137_14 : decode (gb 137) 14 = .ok (.getfield 124, 3) := by decide +kernel
theorem k137_17 : decode (gb 137) 17 = .ok (.aload_n 0, 1) := by decide +kernel
theorem k137_18 : decode (gb 137) 18 = .ok (.getfield 53, 3) := by decide +kernel
theorem k137_21 : decode (gb 137) 21 = .ok (.if_icmp .lt 5, 3) := by decide +kernel
theorem k137_24 : decode (gb 137) 24 = .ok (.iconst (-1), 1) := by decide +kernel
theorem k137_25 : decode (gb 137) 25 = .ok (.ireturn, 1) := by decide +kernel
theorem k137_26 : decode (gb 137) 26 = .ok (.aload_n 0, 1) := by decide +kernel
theorem k137_27 : decode (gb 137) 27 = .ok (.getfield 20, 3) := by decide +kernel
theorem k137_30 : decode (gb 137) 30 = .ok (.iconst 0, 1) := by decide +kernel
theorem k137_31 : decode (gb 137) 31 = .ok (.invokevirtual 129, 3) := by decide +kernel
theorem k137_34 : decode (gb 137) 34 = .ok (.istore_n 1, 1) := by decide +kernel
theorem k137_35 : decode (gb 137) 35 = .ok (.aload_n 0, 1) := by decide +kernel
theorem k137_36 : decode (gb 137) 36 = .ok (.getfield 20, 3) := by decide +kernel
theorem k137_39 : decode (gb 137) 39 = .ok (.iconst 0, 1) := by decide +kernel
theorem k137_40 : decode (gb 137) 40 = .ok (.aload_n 0, 1) := by decide +kernel
theorem k137_41 : decode (gb 137) 41 = .ok (.getfield 32, 3) := by decide +kernel
theorem k137_44 : decode (gb 137) 44 = .ok (.invokevirtual 117, 3) := by decide +kernel
theorem k137_47 : decode (gb 137) 47 = .ok (.aload_n 0, 1) := by decide +kernel
theorem k137_48 : decode (gb 137) 48 = .ok (.getfield 16, 3) := by decide +kernel
theorem k137_51 : decode (gb 137) 51 = .ok (.getfield 124, 3) := by decide +kernel
theorem k137_54 : decode (gb 137) 54 = .ok (.ifCond .ne 8, 3) := by decide +kernel
theorem k137_57 : decode (gb 137) 57 = .ok (.aload_n 0, 1) := by decide +kernel
theorem k137_58 : decode (gb 137) 58 = .ok (.iconst 1, 1) := by decide +kernel
theorem k137_59 : decode (gb 137) 59 = .ok (.putfield 47, 3) := by decide +kernel
theorem k137_62 : decode (gb 137) 62 = .ok (.aload_n 0, 1) := by decide +kernel
theorem k137_63 : decode (gb 137) 63 = .ok (.getfield 16, 3) := by decide +kernel
theorem k137_66 : decode (gb 137) 66 = .ok (.aload_n 0, 1) := by decide +kernel
theorem k137_67 : decode (gb 137) 67 = .ok (.getfield 32, 3) := by decide +kernel
theorem k137_70 : decode (gb 137) 70 = .ok (.iconst 0, 1) := by decide +kernel
theorem k137_71 : decode (gb 137) 71 = .ok (.aload_n 0, 1) := by decide +kernel
theorem k137_72 : decode (gb 137) 72 = .ok (.getfield 32, 3) := by decide +kernel
theorem k137_75 : decode (gb 137) 75 = .ok (.getfield 71, 3) := by decide +kernel
theorem k137_78 : decode (gb 137) 78 = .ok (.iload_n 1, 1) := by decide +kernel
theorem k137_79 : decode (gb 137) 79 = .ok (.iconst 0, 1) := by decide +kernel
theorem k137_80 : decode (gb 137) 80 = .ok (.invokevirtual 74, 3) := by decide +kernel
theorem k137_83 : decode (gb 137) 83 = .ok (.ifCond .ne 5, 3) := by decide +kernel
theorem k137_86 : decode (gb 137) 86 = .ok (.iconst (-1), 1) := by decide +kernel
theorem k137_87 : decode (gb 137) 87 = .ok (.ireturn, 1) := by decide +kernel
theorem k137_88 : decode (gb 137) 88 = .ok (.aload_n 0, 1) := by decide +kernel
theorem k137_89 : decode (gb 137) 89 = .ok (.getfield 20, 3) := by decide +kernel
theorem k137_92 : decode (gb 137) 92 = .ok (.iconst 0, 1) := by decide +kernel
theorem k137_93 : decode (gb 137) 93 = .ok (.invokevirtual 132, 3) := by decide +kernel
theorem k137_96 : decode (gb 137) 96 = .ok (.aload_n 0, 1) := by decide +kernel
theorem k137_97 : decode (gb 137) 97 = .ok (.aload_n 0, 1) := by decide +kernel
theorem k137_98 : decode (gb 137) 98 = .ok (.getfield 135, 3) := by decide +kernel
theorem k137_101 : decode (gb 137) 101 = .ok (.iconst 1, 1) := by decide +kernel
theorem k137_102 : decode (gb 137) 102 = .ok (.iadd, 1) := by decide +kernel
theorem k137_103 : decode (gb 137) 103 = .ok (.sipush 255, 3) := by decide +kernel
theorem k137_106 : decode (gb 137) 106 = .ok (.iand, 1) := by decide +kernel
theorem k137_107 : decode (gb 137) 107 = .ok (.putfield 135, 3) := by decide +kernel
theorem k137_110 : decode (gb 137) 110 = .ok (.aload_n 0, 1) := by decide +kernel
theorem k137_111 : decode (gb 137) 111 = .ok (.getfield 63, 3) := by decide +kernel
theorem k137_114 : decode (gb 137) 114 = .ok (.iload_n 1, 1) := by decide +kernel
theorem k137_115 : decode (gb 137) 115 = .ok (.iconst 2, 1) := by decide +kernel
theorem k137_116 : decode (gb 137) 116 = .ok (.invokevirtual 140, 3) := by decide +kernel
theorem k137_119 : decode (gb 137) 119 = .ok (.aload_n 0, 1) := by decide +kernel
theorem k137_120 : decode (gb 137) 120 = .ok (.aload_n 0, 1) := by decide +kernel
theorem k137_121 : decode (gb 137) 121 = .ok (.getfield 56, 3) := by decide +kernel
theorem k137_124 : decode (gb 137) 124 = .ok (.putfield 143, 3) := by decide +kernel
theorem k137_127 : decode (gb 137) 127 = .ok (.aload_n 0, 1) := by decide +kernel
theorem k137_128 : decode (gb 137) 128 = .ok (.getfield 16, 3) := by decide +kernel
theorem k137_131 : decode (gb 137) 131 = .ok (.getfield 124, 3) := by decide +kernel
theorem k137_134 : decode (gb 137) 134 = .ok (.iconst 1, 1) := by decide +kernel
theorem k137_135 : decode (gb 137) 135 = .ok (.isub, 1) := by decide +kernel
theorem k137_136 : decode (gb 137) 136 = .ok (.ireturn, 1) := by decide +kernel
def c137_62 (v1 : Int32) (μ : Mem) : Option (Mem × Int32) :=
  (f161 29 43 (0 : Int32) (μ.1 43 1) v1 (0 : Int32) μ).bind fun r1 =>
  if r1.2 = 0 then
    some (r1.1, (-1 : Int32))
  else
    (f162 35 (0 : Int32) r1.1).bind fun r4 =>
    (pfI 28 9 (((r4.1 28 9) + (1 : Int32)) &&& (255 : Int32)) r4).bind fun m6 =>
    (f84 v1 (2 : Int32) m6).bind fun r8 =>
    (pfI 28 14 (r8.1 28 15) r8).bind fun m10 =>
    some (m10, ((m10.1 29 5) - (1 : Int32)))
theorem c137_62_ok {L : Nat} (v1 : Int32) (μ : Mem) (res : Mem × Int32) (h : c137_62 v1 μ = some res) : Sx 137 62 [(0, .ref 28), (1, .int v1)] [] 0 0 (mk L μ) (mk L res.1, some (.int res.2)) := by
  unfold c137_62 at h
  refine sx_aload_n (i := 0) k137_62 rfl rfl ?_
  refine cx_getR (k := 2) k137_63 ow_137 fl_7_16 (by decide) sk_28 ft_6_2 sr_28_2 ?_
  refine sx_aload_n (i := 0) k137_66 rfl rfl ?_
  refine cx_getR (k := 5) k137_67 ow_137 fl_7_32 (by decide) sk_28 ft_6_5 sr_28_5 ?_
  refine sx_iconst (v := 0) k137_70 (by decide) ?_
  refine sx_aload_n (i := 0) k137_71 rfl rfl ?_
  refine cx_getR (k := 5) k137_72 ow_137 fl_7_32 (by decide) sk_28 ft_6_5 sr_28_5 ?_
  refine cx_getI (k := 1) k137_75 ow_137 fl_7_71 (by decide) sk_43 ft_1_1 ?_
  refine sx_iload_n (i := 1) k137_78 rfl rfl ?_
  refine sx_iconst (v := 0) k137_79 (by decide) ?_
  obtain ⟨r1, e2, h⟩ := Option.bind_eq_some_iff.mp h
  refine cx_V (sk := []) (vs := [.ref 43, .int (0 : Int32), .int (μ.1 43 1), .int v1, .int (0 : Int32)]) st_137_161 k137_80 ow_137 cl_7_74 (by decide) rfl (Nat.le_of_ble_eq_true rfl) sk_29 (ok161 29 43 (0 : Int32) (μ.1 43 1) v1 (0 : Int32) sk_29 sk_43 _ _ e2) (sk3 := [.int r1.2]) rfl rfl ?_
  by_cases hb3 : r1.2 = 0
  · rw [if_pos hb3] at h
    refine sx_if_ne (tgt := 88) k137_83 (by decide) (fun q => absurd hb3 q) (fun _ => ?_)
    refine sx_iconst (v := -1) k137_86 (by decide) ?_
    exact cx_reti k137_87 rt_137 h
  · rw [if_neg hb3] at h
    refine sx_if_ne (tgt := 88) k137_83 (by decide) (fun _ => ?_) (fun q => absurd q hb3)
    refine sx_aload_n (i := 0) k137_88 rfl rfl ?_
    refine cx_getR (k := 3) k137_89 ow_137 fl_7_20 (by decide) sk_28 ft_6_3 sr_28_3 ?_
    refine sx_iconst (v := 0) k137_92 (by decide) ?_
    obtain ⟨r4, e5, h⟩ := Option.bind_eq_some_iff.mp h
    refine cx_V (sk := []) (vs := [.int (0 : Int32)]) st_137_162 k137_93 ow_137 cl_7_132 (by decide) rfl (Nat.le_of_ble_eq_true rfl) sk_35 (ok162 35 (0 : Int32) sk_35 _ _ e5) (sk3 := []) rfl rfl ?_
    refine sx_aload_n (i := 0) k137_96 rfl rfl ?_
    refine sx_aload_n (i := 0) k137_97 rfl rfl ?_
    refine cx_getI (k := 9) k137_98 ow_137 fl_7_135 (by decide) sk_28 ft_6_9 ?_
    refine sx_iconst (v := 1) k137_101 (by decide) ?_
    refine sx_iadd k137_102 ?_
    refine sx_sipush (v := 255) k137_103 (by decide) ?_
    refine sx_iand k137_106 ?_
    obtain ⟨m6, e7, h⟩ := Option.bind_eq_some_iff.mp h
    refine cx_putI (k := 9) k137_107 ow_137 fl_7_135 (by decide) sk_28 nf_6_9 fu_6_9 e7 ?_
    refine sx_aload_n (i := 0) k137_110 rfl rfl ?_
    refine cx_getR (k := 1) k137_111 ow_137 fl_7_63 (by decide) sk_28 ft_6_1 sr_28_1 ?_
    refine sx_iload_n (i := 1) k137_114 rfl rfl ?_
    refine sx_iconst (v := 2) k137_115 (by decide) ?_
    obtain ⟨r8, e9, h⟩ := Option.bind_eq_some_iff.mp h
    refine cx_V (sk := []) (vs := [.int v1, .int (2 : Int32)]) st_137_84 k137_116 ow_137 cl_7_140 (by decide) rfl (Nat.le_of_ble_eq_true rfl) sk_12 (ok84 v1 (2 : Int32) _ _ e9) (sk3 := []) rfl rfl ?_
    refine sx_aload_n (i := 0) k137_119 rfl rfl ?_
    refine sx_aload_n (i := 0) k137_120 rfl rfl ?_
    refine cx_getI (k := 15) k137_121 ow_137 fl_7_56 (by decide) sk_28 ft_6_15 ?_
    obtain ⟨m10, e11, h⟩ := Option.bind_eq_some_iff.mp h
    refine cx_putI (k := 14) k137_124 ow_137 fl_7_143 (by decide) sk_28 nf_6_14 fu_6_14 e11 ?_
    refine sx_aload_n (i := 0) k137_127 rfl rfl ?_
    refine cx_getR (k := 2) k137_128 ow_137 fl_7_16 (by decide) sk_28 ft_6_2 sr_28_2 ?_
    refine cx_getI (k := 5) k137_131 ow_137 fl_7_124 (by decide) sk_29 ft_7_5 ?_
    refine sx_iconst (v := 1) k137_134 (by decide) ?_
    refine sx_isub k137_135 ?_
    exact cx_reti k137_136 rt_137 h
/-- Sender.launch()I -/
def f137 (μ : Mem) : Option (Mem × Int32) :=
  if (μ.1 35 5) = 0 then
    some (μ, (-1 : Int32))
  else
    if (μ.1 29 5) < (μ.1 28 13) then
      (f167 35 (0 : Int32) μ).bind fun r3 =>
      (f164 35 (0 : Int32) 43 r3.1).bind fun r5 =>
      if (r5.1 29 5) = 0 then
        (pfI 28 11 (1 : Int32) r5).bind fun m8 =>
        c137_62 r3.2 m8
      else
        c137_62 r3.2 r5
    else
      some (μ, (-1 : Int32))
theorem ok137 {L : Nat} (μ : Mem) (res : Mem × Int32) (h : f137 μ = some res) : Mx 137 [.ref 28] (mk L μ) (mk L res.1, some (.int res.2)) := by
  refine Mx_of ml_137 (by rw [mx_137]; exact Nat.le_of_ble_eq_true rfl) ?_
  show Sx 137 0 [(0, .ref 28)] [] 0 0 (mk L μ) _
  unfold f137 at h
  refine sx_aload_n (i := 0) k137_0 rfl rfl ?_
  refine cx_getR (k := 3) k137_1 ow_137 fl_7_20 (by decide) sk_28 ft_6_3 sr_28_3 ?_
  refine cx_getI (k := 5) k137_4 ow_137 fl_7_124 (by decide) sk_35 ft_7_5 ?_
  by_cases hb1 : (μ.1 35 5) = 0
  · rw [if_pos hb1] at h
    refine sx_if_eq (tgt := 24) k137_7 (by decide) (fun _ => ?_) (fun q => absurd hb1 q)
    refine sx_iconst (v := -1) k137_24 (by decide) ?_
    exact cx_reti k137_25 rt_137 h
  · rw [if_neg hb1] at h
    refine sx_if_eq (tgt := 24) k137_7 (by decide) (fun q => absurd q hb1) (fun _ => ?_)
    refine sx_aload_n (i := 0) k137_10 rfl rfl ?_
    refine cx_getR (k := 2) k137_11 ow_137 fl_7_16 (by decide) sk_28 ft_6_2 sr_28_2 ?_
    refine cx_getI (k := 5) k137_14 ow_137 fl_7_124 (by decide) sk_29 ft_7_5 ?_
    refine sx_aload_n (i := 0) k137_17 rfl rfl ?_
    refine cx_getI (k := 13) k137_18 ow_137 fl_7_53 (by decide) sk_28 ft_6_13 ?_
    by_cases hb2 : (μ.1 29 5) < (μ.1 28 13)
    · rw [if_pos hb2] at h
      refine sx_icmp_lt (tgt := 26) k137_21 (by decide) (fun _ => ?_) (fun q => absurd hb2 q)
      refine sx_aload_n (i := 0) k137_26 rfl rfl ?_
      refine cx_getR (k := 3) k137_27 ow_137 fl_7_20 (by decide) sk_28 ft_6_3 sr_28_3 ?_
      refine sx_iconst (v := 0) k137_30 (by decide) ?_
      obtain ⟨r3, e4, h⟩ := Option.bind_eq_some_iff.mp h
      refine cx_V (sk := []) (vs := [.int (0 : Int32)]) st_137_167 k137_31 ow_137 cl_7_129 (by decide) rfl (Nat.le_of_ble_eq_true rfl) sk_35 (ok167 35 (0 : Int32) sk_35 _ _ e4) (sk3 := [.int r3.2]) rfl rfl ?_
      refine cx_istore_n (lo2 := [(1, .int r3.2), (0, .ref 28)]) k137_34 rfl (by rw [mx_137]; decide) rfl ?_
      refine sx_aload_n (i := 0) k137_35 rfl rfl ?_
      refine cx_getR (k := 3) k137_36 ow_137 fl_7_20 (by decide) sk_28 ft_6_3 sr_28_3 ?_
      refine sx_iconst (v := 0) k137_39 (by decide) ?_
      refine sx_aload_n (i := 0) k137_40 rfl rfl ?_
      refine cx_getR (k := 5) k137_41 ow_137 fl_7_32 (by decide) sk_28 ft_6_5 sr_28_5 ?_
      obtain ⟨r5, e6, h⟩ := Option.bind_eq_some_iff.mp h
      refine cx_V (sk := []) (vs := [.int (0 : Int32), .ref 43]) st_137_164 k137_44 ow_137 cl_7_117 (by decide) rfl (Nat.le_of_ble_eq_true rfl) sk_35 (ok164 35 (0 : Int32) 43 sk_35 sk_43 _ _ e6) (sk3 := []) rfl rfl ?_
      refine sx_aload_n (i := 0) k137_47 rfl rfl ?_
      refine cx_getR (k := 2) k137_48 ow_137 fl_7_16 (by decide) sk_28 ft_6_2 sr_28_2 ?_
      refine cx_getI (k := 5) k137_51 ow_137 fl_7_124 (by decide) sk_29 ft_7_5 ?_
      by_cases hb7 : (r5.1 29 5) = 0
      · rw [if_pos hb7] at h
        refine sx_if_ne (tgt := 62) k137_54 (by decide) (fun q => absurd hb7 q) (fun _ => ?_)
        refine sx_aload_n (i := 0) k137_57 rfl rfl ?_
        refine sx_iconst (v := 1) k137_58 (by decide) ?_
        obtain ⟨m8, e9, h⟩ := Option.bind_eq_some_iff.mp h
        refine cx_putI (k := 11) k137_59 ow_137 fl_7_47 (by decide) sk_28 nf_6_11 fu_6_11 e9 ?_
        refine sx_pick (lo2 := [(0, .ref 28), (1, .int r3.2)]) [1, 0] rfl ?_
        exact c137_62_ok r3.2 _ _ h
      · rw [if_neg hb7] at h
        refine sx_if_ne (tgt := 62) k137_54 (by decide) (fun _ => ?_) (fun q => absurd q hb7)
        refine sx_pick (lo2 := [(0, .ref 28), (1, .int r3.2)]) [1, 0] rfl ?_
        exact c137_62_ok r3.2 _ _ h
    · rw [if_neg hb2] at h
      refine sx_icmp_lt (tgt := 26) k137_21 (by decide) (fun q => absurd q hb2) (fun _ => ?_)
      refine sx_iconst (v := -1) k137_24 (by decide) ?_
      exact cx_reti k137_25 rt_137 h
theorem k135_0 : decode (gb 135) 0 = .ok (.iconst 0, 1) := by decide +kernel
theorem k135_1 : decode (gb 135) 1 = .ok (.istore_n 1, 1) := by decide +kernel
theorem k135_2 : decode (gb 135) 2 = .ok (.iload_n 1, 1) := by decide +kernel
theorem k135_3 : decode (gb 135) 3 = .ok (.bipush 64, 2) := by decide +kernel
theorem k135_5 : decode (gb 135) 5 = .ok (.if_icmp .ge 84, 3) := by decide +kernel
theorem k135_8 : decode (gb 135) 8 = .ok (.aload_n 0, 1) := by decide +kernel
theorem k135_9 : decode (gb 135) 9 = .ok (.getfield 43, 3) := by decide +kernel
theorem k135_12 : decode (gb 135) 12 = .ok (.iconst 1, 1) := by decide +kernel
theorem k135_13 : decode (gb 135) 13 = .ok (.if_icmp .eq 11, 3) := by decide +kernel
theorem k135_16 : decode (gb 135) 16 = .ok (.aload_n 0, 1) := by decide +kernel
theorem k135_17 : decode (gb 135) 17 = .ok (.getfield 43, 3) := by decide +kernel
theorem k135_20 : decode (gb 135) 20 = .ok (.iconst 2, 1) := by decide +kernel
theorem k135_21 : decode (gb 135) 21 = .ok (.if_icmp .ne 68, 3) := by decide +kernel
theorem k135_24 : decode (gb 135) 24 = .ok (.aload_n 0, 1) := by decide +kernel
theorem k135_25 : decode (gb 135) 25 = .ok (.invokevirtual 107, 3) := by decide +kernel
theorem k135_28 : decode (gb 135) 28 = .ok (.istore_n 2, 1) := by decide +kernel
theorem k135_29 : decode (gb 135) 29 = .ok (.iload_n 2, 1) := by decide +kernel
theorem k135_30 : decode (gb 135) 30 = .ok (.ifCond .ge 8, 3) := by decide +kernel
theorem k135_33 : decode (gb 135) 33 = .ok (.aload_n 0, 1) := by decide +kernel
theorem k135_34 : decode (gb 135) 34 = .ok (.invokevirtual 111, 3) := by decide +kernel
theorem k135_37 : decode (gb 135) 37 = .ok (.istore_n 2, 1) := by decide +kernel
theorem k135_38 : decode (gb 135) 38 = .ok (.iload_n 2, 1) := by decide +kernel
theorem k135_39 : decode (gb 135) 39 = .ok (.ifCond .ge 4, 3) := by decide +kernel
theorem k135_42 : decode (gb 135) 42 = .ok (.return_, 1) := by decide +kernel
theorem k135_43 : decode (gb 135) 43 = .ok (.aload_n 0, 1) := by decide +kernel
theorem k135_44 : decode (gb 135) 44 = .ok (.getfield 16, 3) := by decide +kernel
theorem k135_47 : decode (gb 135) 47 = .ok (.iload_n 2, 1) := by decide +kernel
theorem k135_48 : decode (gb 135) 48 = .ok (.iconst 0, 1) := by decide +kernel
theorem k135_49 : decode (gb 135) 49 = .ok (.invokevirtual 114, 3) := by decide +kernel
theorem k135_52 : decode (gb 135) 52 = .ok (.aload_n 0, 1) := by decide +kernel
theorem k135_53 : decode (gb 135) 53 = .ok (.getfield 16, 3) := by decide +kernel
theorem k135_56 : decode (gb 135) 56 = .ok (.iload_n 2, 1) := by decide +kernel
theorem k135_57 : decode (gb 135) 57 = .ok (.aload_n 0, 1) := by decide +kernel
theorem k135_58 : decode (gb 135) 58 = .ok (.getfield 32, 3) := by decide +kernel
theorem k135_61 : decode (gb 135) 61 = .ok (.invokevirtual 117, 3) := by decide +kernel
theorem k135_64 : decode (gb 135) 64 = .ok (.aload_n 0, 1) := by decide +kernel
theorem k135_65 : decode (gb 135) 65 = .ok (.iconst 0, 1) := by decide +kernel
theorem k135_66 : decode (gb 135) 66 = .ok (.aload_n 0, 1) := by decide +kernel
theorem k135_67 : decode (gb 135) 67 = .ok (.getfield 121, 3) := by decide +kernel
theorem k135_70 : decode (gb 135) 70 = .ok (.iload_n 2, 1) := by decide +kernel
theorem k135_71 : decode (gb 135) 71 = .ok (.iadd, 1) := by decide +kernel
theorem k135_72 : decode (gb 135) 72 = .ok (.sipush 255, 3) := by decide +kernel
theorem k135_75 : decode (gb 135) 75 = .ok (.iand, 1) := by decide +kernel
theorem k135_76 : decode (gb 135) 76 = .ok (.aload_n 0, 1) := by decide +kernel
theorem k135_77 : decode (gb 135) 77 = .ok (.getfield 32, 3) := by decide +kernel
theorem k135_80 : decode (gb 135) 80 = .ok (.invokevirtual 78, 3) := by decide +kernel
theorem k135_83 : decode (gb 135) 83 = .ok (.iinc 1 1, 3) := by decide +kernel
theorem k135_86 : decode (gb 135) 86 = .ok (.goto (-84), 3) := by decide +kernel
theorem k135_89 : decode (gb 135) 89 = .ok (.return_, 1) := by decide +kernel
def c135_38 (kl2 : Int32 → Mem → Option (Mem)) (v1 : Int32) (v2 : Int32) (μ : Mem) : Option (Mem) :=
  if 0 ≤ v2 then
    (f170 29 v2 (0 : Int32) μ).bind fun r2 =>
    (f164 29 v2 43 r2).bind fun r4 =>
    (f134 (0 : Int32) (((r4.1 28 10) + v2) &&& (255 : Int32)) 43 r4).bind fun r6 =>
    nm (v1 + (1 : Int32)) fun x8 =>
    kl2 x8 r6
  else
    some μ
theorem c135_38_ok {L : Nat} (kl2 : Int32 → Mem → Option (Mem)) (hk2 : (∀ (v1 : Int32) (μ : Mem) (res : Mem), kl2 v1 μ = some res → Sx 135 2 [(0, .ref 28), (1, .int v1)] [] 0 0 (mk L μ) (mk L res, none))) (v1 : Int32) (v2 : Int32) (μ : Mem) (res : Mem) (h : c135_38 kl2 v1 v2 μ = some res) : Sx 135 38 [(0, .ref 28), (1, .int v1), (2, .int v2)] [] 0 0 (mk L μ) (mk L res, none) := by
  unfold c135_38 at h
  refine sx_iload_n (i := 2) k135_38 rfl rfl ?_
  by_cases hb1 : 0 ≤ v2
  · rw [if_pos hb1] at h
    refine sx_if_ge (tgt := 43) k135_39 (by decide) (fun _ => ?_) (fun q => absurd hb1 q)
    refine sx_aload_n (i := 0) k135_43 rfl rfl ?_
    refine cx_getR (k := 2) k135_44 ow_135 fl_7_16 (by decide) sk_28 ft_6_2 sr_28_2 ?_
    refine sx_iload_n (i := 2) k135_47 rfl rfl ?_
    refine sx_iconst (v := 0) k135_48 (by decide) ?_
    obtain ⟨r2, e3, h⟩ := Option.bind_eq_some_iff.mp h
    refine cx_V (sk := []) (vs := [.int v2, .int (0 : Int32)]) st_135_170 k135_49 ow_135 cl_7_114 (by decide) rfl (Nat.le_of_ble_eq_true rfl) sk_29 (ok170 29 v2 (0 : Int32) sk_29 _ _ e3) (sk3 := []) rfl rfl ?_
    refine sx_aload_n (i := 0) k135_52 rfl rfl ?_
    refine cx_getR (k := 2) k135_53 ow_135 fl_7_16 (by decide) sk_28 ft_6_2 sr_28_2 ?_
    refine sx_iload_n (i := 2) k135_56 rfl rfl ?_
    refine sx_aload_n (i := 0) k135_57 rfl rfl ?_
    refine cx_getR (k := 5) k135_58 ow_135 fl_7_32 (by decide) sk_28 ft_6_5 sr_28_5 ?_
    obtain ⟨r4, e5, h⟩ := Option.bind_eq_some_iff.mp h
    refine cx_V (sk := []) (vs := [.int v2, .ref 43]) st_135_164 k135_61 ow_135 cl_7_117 (by decide) rfl (Nat.le_of_ble_eq_true rfl) sk_29 (ok164 29 v2 43 sk_29 sk_43 _ _ e5) (sk3 := []) rfl rfl ?_
    refine sx_aload_n (i := 0) k135_64 rfl rfl ?_
    refine sx_iconst (v := 0) k135_65 (by decide) ?_
    refine sx_aload_n (i := 0) k135_66 rfl rfl ?_
    refine cx_getI (k := 10) k135_67 ow_135 fl_7_121 (by decide) sk_28 ft_6_10 ?_
    refine sx_iload_n (i := 2) k135_70 rfl rfl ?_
    refine sx_iadd k135_71 ?_
    refine sx_sipush (v := 255) k135_72 (by decide) ?_
    refine sx_iand k135_75 ?_
    refine sx_aload_n (i := 0) k135_76 rfl rfl ?_
    refine cx_getR (k := 5) k135_77 ow_135 fl_7_32 (by decide) sk_28 ft_6_5 sr_28_5 ?_
    obtain ⟨r6, e7, h⟩ := Option.bind_eq_some_iff.mp h
    refine cx_V (sk := []) (vs := [.int (0 : Int32), .int (((r4.1 28 10) + v2) &&& (255 : Int32)), .ref 43]) st_135_134 k135_80 ow_135 cl_7_78 (by decide) rfl (Nat.le_of_ble_eq_true rfl) sk_28 (ok134 (0 : Int32) (((r4.1 28 10) + v2) &&& (255 : Int32)) 43 sk_43 _ _ e7) (sk3 := []) rfl rfl ?_
    refine cx_iinc (c := 1) (lo2 := fun x8 => [(1, .int x8), (0, .ref 28), (2, .int v2)]) k135_83 rfl (by decide) (by rw [mx_135]; decide) (fun _ => rfl) h (fun x8 h => ?_)
    refine sx_goto (tgt := 2) k135_86 (by decide) ?_
    refine sx_pick (lo2 := [(0, .ref 28), (1, .int x8)]) [1, 0] rfl ?_
    exact hk2 x8 _ _ h
  · rw [if_neg hb1] at h
    refine sx_if_ge (tgt := 43) k135_39 (by decide) (fun q => absurd q hb1) (fun _ => ?_)
    exact cx_retv k135_42 rt_135 h
def c135_24 (kl2 : Int32 → Mem → Option (Mem)) (v1 : Int32) (μ : Mem) : Option (Mem) :=
  (f136 μ).bind fun r1 =>
  if 0 ≤ r1.2 then
    c135_38 kl2 v1 r1.2 r1.1
  else
    (f137 r1.1).bind fun r4 =>
    c135_38 kl2 v1 r4.2 r4.1
theorem c135_24_ok {L : Nat} (kl2 : Int32 → Mem → Option (Mem)) (hk2 : (∀ (v1 : Int32) (μ : Mem) (res : Mem), kl2 v1 μ = some res → Sx 135 2 [(0, .ref 28), (1, .int v1)] [] 0 0 (mk L μ) (mk L res, none))) (v1 : Int32) (μ : Mem) (res : Mem) (h : c135_24 kl2 v1 μ = some res) : Sx 135 24 [(0, .ref 28), (1, .int v1)] [] 0 0 (mk L μ) (mk L res, none) := by
  unfold c135_24 at h
  refine sx_aload_n (i := 0) k135_24 rfl rfl ?_
  obtain ⟨r1, e2, h⟩ := Option.bind_eq_some_iff.mp h
  refine cx_V (sk := []) (vs := []) st_135_136 k135_25 ow_135 cl_7_107 (by decide) rfl (Nat.le_of_ble_eq_true rfl) sk_28 (ok136 _ _ e2) (sk3 := [.int r1.2]) rfl rfl ?_
  refine cx_istore_n (lo2 := [(2, .int r1.2), (0, .ref 28), (1, .int v1)]) k135_28 rfl (by rw [mx_135]; decide) rfl ?_
  refine sx_iload_n (i := 2) k135_29 rfl rfl ?_
  by_cases hb3 : 0 ≤ r1.2
  · rw [if_pos hb3] at h
    refine sx_if_ge (tgt := 38) k135_30 (by decide) (fun _ => ?_) (fun q => absurd hb3 q)
    refine sx_pick (lo2 := [(0, .ref 28), (1, .int v1), (2, .int r1.2)]) [1, 2, 0] rfl ?_
    exact c135_38_ok kl2 hk2 v1 r1.2 _ _ h
  · rw [if_neg hb3] at h
    refine sx_if_ge (tgt := 38) k135_30 (by decide) (fun q => absurd q hb3) (fun _ => ?_)
    refine sx_aload_n (i := 0) k135_33 rfl rfl ?_
    obtain ⟨r4, e5, h⟩ := Option.bind_eq_some_iff.mp h
    refine cx_V (sk := []) (vs := []) st_135_137 k135_34 ow_135 cl_7_111 (by decide) rfl (Nat.le_of_ble_eq_true rfl) sk_28 (ok137 _ _ e5) (sk3 := [.int r4.2]) rfl rfl ?_
    refine cx_istore_n (lo2 := [(2, .int r4.2), (0, .ref 28), (1, .int v1)]) k135_37 rfl (by rw [mx_135]; decide) rfl ?_
    refine sx_pick (lo2 := [(0, .ref 28), (1, .int v1), (2, .int r4.2)]) [1, 2, 0] rfl ?_
    exact c135_38_ok kl2 hk2 v1 r4.2 _ _ h
def b135_2 (kl2 : Int32 → Mem → Option (Mem)) (v1 : Int32) (μ : Mem) : Option (Mem) :=
  if (64 : Int32) ≤ v1 then
    some μ
  else
    if (μ.1 28 8) = (1 : Int32) then
      c135_24 kl2 v1 μ
    else
      if (μ.1 28 8) = (2 : Int32) then
        c135_24 kl2 v1 μ
      else
        some μ
theorem b135_2_ok {L : Nat} (kl2 : Int32 → Mem → Option (Mem)) (hk2 : (∀ (v1 : Int32) (μ : Mem) (res : Mem), kl2 v1 μ = some res → Sx 135 2 [(0, .ref 28), (1, .int v1)] [] 0 0 (mk L μ) (mk L res, none))) (v1 : Int32) (μ : Mem) (res : Mem) (h : b135_2 kl2 v1 μ = some res) : Sx 135 2 [(0, .ref 28), (1, .int v1)] [] 0 0 (mk L μ) (mk L res, none) := by
  unfold b135_2 at h
  refine sx_iload_n (i := 1) k135_2 rfl rfl ?_
  refine sx_bipush (v := 64) k135_3 (by decide) ?_
  by_cases hb1 : (64 : Int32) ≤ v1
  · rw [if_pos hb1] at h
    refine sx_icmp_ge (tgt := 89) k135_5 (by decide) (fun _ => ?_) (fun q => absurd hb1 q)
    exact cx_retv k135_89 rt_135 h
  · rw [if_neg hb1] at h
    refine sx_icmp_ge (tgt := 89) k135_5 (by decide) (fun q => absurd q hb1) (fun _ => ?_)
    refine sx_aload_n (i := 0) k135_8 rfl rfl ?_
    refine cx_getI (k := 8) k135_9 ow_135 fl_7_43 (by decide) sk_28 ft_6_8 ?_
    refine sx_iconst (v := 1) k135_12 (by decide) ?_
    by_cases hb2 : (μ.1 28 8) = (1 : Int32)
    · rw [if_pos hb2] at h
      refine sx_icmp_eq (tgt := 24) k135_13 (by decide) (fun _ => ?_) (fun q => absurd hb2 q)
      refine sx_pick (lo2 := [(0, .ref 28), (1, .int v1)]) [0, 1] rfl ?_
      exact c135_24_ok kl2 hk2 v1 _ _ h
    · rw [if_neg hb2] at h
      refine sx_icmp_eq (tgt := 24) k135_13 (by decide) (fun q => absurd q hb2) (fun _ => ?_)
      refine sx_aload_n (i := 0) k135_16 rfl rfl ?_
      refine cx_getI (k := 8) k135_17 ow_135 fl_7_43 (by decide) sk_28 ft_6_8 ?_
      refine sx_iconst (v := 2) k135_20 (by decide) ?_
      by_cases hb3 : (μ.1 28 8) = (2 : Int32)
      · rw [if_pos hb3] at h
        refine sx_icmp_ne (tgt := 89) k135_21 (by decide) (fun q => absurd hb3 q) (fun _ => ?_)
        refine sx_pick (lo2 := [(0, .ref 28), (1, .int v1)]) [0, 1] rfl ?_
        exact c135_24_ok kl2 hk2 v1 _ _ h
      · rw [if_neg hb3] at h
        refine sx_icmp_ne (tgt := 89) k135_21 (by decide) (fun _ => ?_) (fun q => absurd q hb3)
        exact cx_retv k135_89 rt_135 h
def l135_2 : Nat → Int32 × Mem → Option (Mem) :=
  fixN (fun self x => b135_2 (fun v1 μ => self (v1, μ)) (x.1) (x.2))
theorem l135_2_ok {L : Nat} (n : Nat) (v1 : Int32) (μ : Mem) (res : Mem) (h : l135_2 n (v1, μ) = some res) : Sx 135 2 [(0, .ref 28), (1, .int v1)] [] 0 0 (mk L μ) (mk L res, none) := by
  have key := fixN_ind (P := fun x res => Sx 135 2 [(0, .ref 28), (1, .int (x.1))] [] 0 0 (mk L (x.2)) (mk L res, none)) (F := fun self x => b135_2 (fun v1 μ => self (v1, μ)) (x.1) (x.2)) (fun self hself x res h => b135_2_ok (fun v1 μ => self (v1, μ)) (fun v1 μ res hh => hself (v1, μ) res hh) (x.1) (x.2) res h) n (v1, μ) res h
  exact key
/-- Sender.go()V -/
def f135 (μ : Mem) : Option (Mem) :=
  l135_2 gF ((0 : Int32), μ)
theorem ok135 {L : Nat} (μ : Mem) (res : Mem) (h : f135 μ = some res) : Mx 135 [.ref 28] (mk L μ) (mk L res, none) := by
  refine Mx_of ml_135 (by rw [mx_135]; exact Nat.le_of_ble_eq_true rfl) ?_
  show Sx 135 0 [(0, .ref 28)] [] 0 0 (mk L μ) _
  unfold f135 at h
  refine sx_iconst (v := 0) k135_0 (by decide) ?_
  refine cx_istore_n (lo2 := [(1, .int (0 : Int32)), (0, .ref 28)]) k135_1 rfl (by rw [mx_135]; decide) rfl ?_
  refine sx_pick (lo2 := [(0, .ref 28), (1, .int (0 : Int32))]) [1, 0] rfl ?_
  exact l135_2_ok gF (0 : Int32) _ _ h
theorem k138_0 : decode (gb 138) 0 = .ok (.aload_n 0, 1) := by decide +kernel
theorem k138_1 : decode (gb 138) 1 = .ok (.dup, 1) := by decide +kernel
theorem k138_2 : decode (gb 138) 2 = .ok (.getfield 47, 3) := by decide +kernel
theorem k138_5 : decode (gb 138) 5 = .ok (.iconst 1, 1) := by decide +kernel
theorem k138_6 : decode (gb 138) 6 = .ok (.iadd, 1) := by decide +kernel
theorem k138_7 : decode (gb 138) 7 = .ok (.putfield 47, 3) := by decide +kernel
theorem k138_10 : decode (gb 138) 10 = .ok (.aload_n 0, 1) := by decide +kernel
theorem k138_11 : decode (gb 138) 11 = .ok (.aload_n 0, 1) := by decide +kernel
theorem k138_12 : decode (gb 138) 12 = .ok (.getfield 56, 3) := by decide +kernel
theorem k138_15 : decode (gb 138) 15 = .ok (.putfield 143, 3) := by decide +kernel
theorem k138_18 : decode (gb 138) 18 = .ok (.iconst 0, 1) := by decide +kernel
theorem k138_19 : decode (gb 138) 19 = .ok (.istore_n 1, 1) := by decide +kernel
theorem k138_20 : decode (gb 138) 20 = .ok (.iload_n 1, 1) := by decide +kernel
theorem k138_21 : decode (gb 138) 21 = .ok (.aload_n 0, 1) := by decide +kernel
theorem k138_22 : decode (gb 138) 22 = .ok (.getfield 16, 3) := by decide +kernel
theorem k138_25 : decode (gb 138) 25 = .ok (.getfield 124, 3) := by decide +kernel
theorem k138_28 : decode (gb 138) 28 = .ok (.if_icmp .ge 18, 3) := by decide +kernel
theorem k138_31 : decode (gb 138) 31 = .ok (.aload_n 0, 1) := by decide +kernel
theorem k138_32 : decode (gb 138) 32 = .ok (.getfield 16, 3) := by decide +kernel
theorem k138_35 : decode (gb 138) 35 = .ok (.iload_n 1, 1) := by decide +kernel
theorem k138_36 : decode (gb 138) 36 = .ok (.iconst 1, 1) := by decide +kernel
theorem k138_37 : decode (gb 138) 37 = .ok (.invokevirtual 114, 3) := by decide +kernel
theorem k138_40 : decode (gb 138) 40 = .ok (.iinc 1 1, 3) := by decide +kernel
theorem k138_43 : decode (gb 138) 43 = .ok (.goto (-23), 3) := by decide +kernel
theorem k138_46 : decode (gb 138) 46 = .ok (.return_, 1) := by decide +kernel
def b138_20 (kl20 : Int32 → Mem → Option (Mem)) (v1 : Int32) (μ : Mem) : Option (Mem) :=
  if (μ.1 29 5) ≤ v1 then
    some μ
  else
    (f170 29 v1 (1 : Int32) μ).bind fun r2 =>
    nm (v1 + (1 : Int32)) fun x4 =>
    kl20 x4 r2
theorem b138_20_ok {L : Nat} (kl20 : Int32 → Mem → Option (Mem)) (hk20 : (∀ (v1 : Int32) (μ : Mem) (res : Mem), kl20 v1 μ = some res → Sx 138 20 [(0, .ref 28), (1, .int v1)] [] 0 0 (mk L μ) (mk L res, none))) (v1 : Int32) (μ : Mem) (res : Mem) (h : b138_20 kl20 v1 μ = some res) : Sx 138 20 [(0, .ref 28), (1, .int v1)] [] 0 0 (mk L μ) (mk L res, none) := by
  unfold b138_20 at h
  refine sx_iload_n (i := 1) k138_20 rfl rfl ?_
  refine sx_aload_n (i := 0) k138_21 rfl rfl ?_
  refine cx_getR (k := 2) k138_22 ow_138 fl_7_16 (by decide) sk_28 ft_6_2 sr_28_2 ?_
  refine cx_getI (k := 5) k138_25 ow_138 fl_7_124 (by decide) sk_29 ft_7_5 ?_
  by_cases hb1 : (μ.1 29 5) ≤ v1
  · rw [if_pos hb1] at h
    refine sx_icmp_ge (tgt := 46) k138_28 (by decide) (fun _ => ?_) (fun q => absurd hb1 q)
    exact cx_retv k138_46 rt_138 h
  · rw [if_neg hb1] at h
    refine sx_icmp_ge (tgt := 46) k138_28 (by decide) (fun q => absurd q hb1) (fun _ => ?_)
    refine sx_aload_n (i := 0) k138_31 rfl rfl ?_
    refine cx_getR (k := 2) k138_32 ow_138 fl_7_16 (by decide) sk_28 ft_6_2 sr_28_2 ?_
    refine sx_iload_n (i := 1) k138_35 rfl rfl ?_
    refine sx_iconst (v := 1) k138_36 (by decide) ?_
    obtain ⟨r2, e3, h⟩ := Option.bind_eq_some_iff.mp h
    refine cx_V (sk := []) (vs := [.int v1, .int (1 : Int32)]) st_138_170 k138_37 ow_138 cl_7_114 (by decide) rfl (Nat.le_of_ble_eq_true rfl) sk_29 (ok170 29 v1 (1 : Int32) sk_29 _ _ e3) (sk3 := []) rfl rfl ?_
    refine cx_iinc (c := 1) (lo2 := fun x4 => [(1, .int x4), (0, .ref 28)]) k138_40 rfl (by decide) (by rw [mx_138]; decide) (fun _ => rfl) h (fun x4 h => ?_)
    refine sx_goto (tgt := 20) k138_43 (by decide) ?_
    refine sx_pick (lo2 := [(0, .ref 28), (1, .int x4)]) [1, 0] rfl ?_
    exact hk20 x4 _ _ h
def l138_20 : Nat → Int32 × Mem → Option (Mem) :=
  fixN (fun self x => b138_20 (fun v1 μ => self (v1, μ)) (x.1) (x.2))
theorem l138_20_ok {L : Nat} (n : Nat) (v1 : Int32) (μ : Mem) (res : Mem) (h : l138_20 n (v1, μ) = some res) : Sx 138 20 [(0, .ref 28), (1, .int v1)] [] 0 0 (mk L μ) (mk L res, none) := by
  have key := fixN_ind (P := fun x res => Sx 138 20 [(0, .ref 28), (1, .int (x.1))] [] 0 0 (mk L (x.2)) (mk L res, none)) (F := fun self x => b138_20 (fun v1 μ => self (v1, μ)) (x.1) (x.2)) (fun self hself x res h => b138_20_ok (fun v1 μ => self (v1, μ)) (fun v1 μ res hh => hself (v1, μ) res hh) (x.1) (x.2) res h) n (v1, μ) res h
  exact key
/-- Sender.repeat()V -/
def f138 (μ : Mem) : Option (Mem) :=
  (pfI 28 11 ((μ.1 28 11) + (1 : Int32)) μ).bind fun m1 =>
  (pfI 28 14 (m1.1 28 15) m1).bind fun m3 =>
  l138_20 gF ((0 : Int32), m3)
theorem ok138 {L : Nat} (μ : Mem) (res : Mem) (h : f138 μ = some res) : Mx 138 [.ref 28] (mk L μ) (mk L res, none) := by
  refine Mx_of ml_138 (by rw [mx_138]; exact Nat.le_of_ble_eq_true rfl) ?_
  show Sx 138 0 [(0, .ref 28)] [] 0 0 (mk L μ) _
  unfold f138 at h
  refine sx_aload_n (i := 0) k138_0 rfl rfl ?_
  refine sx_dup k138_1 rfl ?_
  refine cx_getI (k := 11) k138_2 ow_138 fl_7_47 (by decide) sk_28 ft_6_11 ?_
  refine sx_iconst (v := 1) k138_5 (by decide) ?_
  refine sx_iadd k138_6 ?_
  obtain ⟨m1, e2, h⟩ := Option.bind_eq_some_iff.mp h
  refine cx_putI (k := 11) k138_7 ow_138 fl_7_47 (by decide) sk_28 nf_6_11 fu_6_11 e2 ?_
  refine sx_aload_n (i := 0) k138_10 rfl rfl ?_
  refine sx_aload_n (i := 0) k138_11 rfl rfl ?_
  refine cx_getI (k := 15) k138_12 ow_138 fl_7_56 (by decide) sk_28 ft_6_15 ?_
  obtain ⟨m3, e4, h⟩ := Option.bind_eq_some_iff.mp h
  refine cx_putI (k := 14) k138_15 ow_138 fl_7_143 (by decide) sk_28 nf_6_14 fu_6_14 e4 ?_
  refine sx_iconst (v := 0) k138_18 (by decide) ?_
  refine cx_istore_n (lo2 := [(1, .int (0 : Int32)), (0, .ref 28)]) k138_19 rfl (by rw [mx_138]; decide) rfl ?_
  refine sx_pick (lo2 := [(0, .ref 28), (1, .int (0 : Int32))]) [1, 0] rfl ?_
  exact l138_20_ok gF (0 : Int32) _ _ h
theorem k139_0 : decode (gb 139) 0 = .ok (.iload_n 1, 1) := by decide +kernel
theorem k139_1 : decode (gb 139) 1 = .ok (.aload_n 0, 1) := by decide +kernel
theorem k139_2 : decode (gb 139) 2 = .ok (.getfield 121, 3) := by decide +kernel
theorem k139_5 : decode (gb 139) 5 = .ok (.isub, 1) := by decide +kernel
theorem k139_6 : decode (gb 139) 6 = .ok (.sipush 255, 3) := by decide +kernel
theorem k139_9 : decode (gb 139) 9 = .ok (.iand, 1) := by decide +kernel
theorem k139_10 : decode (gb 139) 10 = .ok (.istore_n 2, 1) := by decide +kernel
theorem k139_11 : decode (gb 139) 11 = .ok (.iconst 0, 1) := by decide +kernel
theorem k139_12 : decode (gb 139) 12 = .ok (.istore_n 3, 1) := by decide +kernel
theorem k139_13 : decode (gb 139) 13 = .ok (.iload_n 3, 1) := by decide +kernel
theorem k139_14 : decode (gb 139) 14 = .ok (.iload_n 2, 1) := by decide +kernel
theorem k139_15 : decode (gb 139) 15 = .ok (.if_icmp .ge 44, 3) := by decide +kernel
theorem k139_18 : decode (gb 139) 18 = .ok (.aload_n 0, 1) := by decide +kernel
theorem k139_19 : decode (gb 139) 19 = .ok (.getfield 16, 3) := by decide +kernel
theorem k139_22 : decode (gb 139) 22 = .ok (.getfield 124, 3) := by decide +kernel
theorem k139_25 : decode (gb 139) 25 = .ok (.ifCond .le 34, 3) := by decide +kernel
theorem k139_28 : decode (gb 139) 28 = .ok (.aload_n 0, 1) := by decide +kernel
theorem k139_29 : decode (gb 139) 29 = .ok (.getfield 63, 3) := by decide +kernel
theorem k139_32 : decode (gb 139) 32 = .ok (.aload_n 0, 1) := by decide +kernel
theorem k139_33 : decode (gb 139) 33 = .ok (.getfield 16, 3) := by decide +kernel
theorem k139_36 : decode (gb 139) 36 = .ok (.iconst 0, 1) := by decide +kernel
theorem k139_37 : decode (gb 139) 37 = .ok (.invokevirtual 129, 3) := by decide +kernel
theorem k139_40 : decode (gb 139) 40 = .ok (.iconst 2, 1) := by decide +kernel
theorem k139_41 : decode (gb 139) 41 = .ok (.iconst 3, 1) := by decide +kernel
theorem k139_42 : decode (gb 139) 42 = .ok (.invokevirtual 146, 3) := by decide +kernel
theorem k139_45 : decode (gb 139) 45 = .ok (.aload_n 0, 1) := by decide +kernel
theorem k139_46 : decode (gb 139) 46 = .ok (.getfield 16, 3) := by decide +kernel
theorem k139_49 : decode (gb 139) 49 = .ok (.iconst 0, 1) := by decide +kernel
theorem k139_50 : decode (gb 139) 50 = .ok (.invokevirtual 132, 3) := by decide +kernel
theorem k139_53 : decode (gb 139) 53 = .ok (.iinc 3 1, 3) := by decide +kernel
theorem k139_56 : decode (gb 139) 56 = .ok (.goto (-43), 3) := by decide +kernel
theorem k139_59 : decode (gb 139) 59 = .ok (.aload_n 0, 1) := by decide +kernel
theorem k139_60 : decode (gb 139) 60 = .ok (.iload_n 1, 1) := by decide +kernel
theorem k139_61 : decode (gb 139) 61 = .ok (.putfield 121, 3) := by decide +kernel
theorem k139_64 : decode (gb 139) 64 = .ok (.aload_n 0, 1) := by decide +kernel
theorem k139_65 : decode (gb 139) 65 = .ok (.iconst 1, 1) := by decide +kernel
theorem k139_66 : decode (gb 139) 66 = .ok (.putfield 47, 3) := by decide +kernel
theorem k139_69 : decode (gb 139) 69 = .ok (.aload_n 0, 1) := by decide +kernel
theorem k139_70 : decode (gb 139) 70 = .ok (.getfield 16, 3) := by decide +kernel
theorem k139_73 : decode (gb 139) 73 = .ok (.getfield 124, 3) := by decide +kernel
theorem k139_76 : decode (gb 139) 76 = .ok (.ifCond .ne 8, 3) := by decide +kernel
theorem k139_79 : decode (gb 139) 79 = .ok (.aload_n 0, 1) := by decide +kernel
theorem k139_80 : decode (gb 139) 80 = .ok (.iconst 0, 1) := by decide +kernel
theorem k139_81 : decode (gb 139) 81 = .ok (.putfield 143, 3) := by decide +kernel
theorem k139_84 : decode (gb 139) 84 = .ok (.return_, 1) := by decide +kernel
def c139_59 (v1 : Int32) (μ : Mem) : Option (Mem) :=
  (pfI 28 10 v1 μ).bind fun m1 =>
  (pfI 28 11 (1 : Int32) m1).bind fun m3 =>
  if (m3.1 29 5) = 0 then
    (pfI 28 14 (0 : Int32) m3).bind fun m6 =>
    some m6
  else
    some m3
theorem c139_59_ok {L : Nat} (v1 : Int32) (μ : Mem) (res : Mem) (h : c139_59 v1 μ = some res) : Sx 139 59 [(0, .ref 28), (1, .int v1)] [] 0 0 (mk L μ) (mk L res, none) := by
  unfold c139_59 at h
  refine sx_aload_n (i := 0) k139_59 rfl rfl ?_
  refine sx_iload_n (i := 1) k139_60 rfl rfl ?_
  obtain ⟨m1, e2, h⟩ := Option.bind_eq_some_iff.mp h
  refine cx_putI (k := 10) k139_61 ow_139 fl_7_121 (by decide) sk_28 nf_6_10 fu_6_10 e2 ?_
  refine sx_aload_n (i := 0) k139_64 rfl rfl ?_
  refine sx_iconst (v := 1) k139_65 (by decide) ?_
  obtain ⟨m3, e4, h⟩ := Option.bind_eq_some_iff.mp h
  refine cx_putI (k := 11) k139_66 ow_139 fl_7_47 (by decide) sk_28 nf_6_11 fu_6_11 e4 ?_
  refine sx_aload_n (i := 0) k139_69 rfl rfl ?_
  refine cx_getR (k := 2) k139_70 ow_139 fl_7_16 (by decide) sk_28 ft_6_2 sr_28_2 ?_
  refine cx_getI (k := 5) k139_73 ow_139 fl_7_124 (by decide) sk_29 ft_7_5 ?_
  by_cases hb5 : (m3.1 29 5) = 0
  · rw [if_pos hb5] at h
    refine sx_if_ne (tgt := 84) k139_76 (by decide) (fun q => absurd hb5 q) (fun _ => ?_)
    refine sx_aload_n (i := 0) k139_79 rfl rfl ?_
    refine sx_iconst (v := 0) k139_80 (by decide) ?_
    obtain ⟨m6, e7, h⟩ := Option.bind_eq_some_iff.mp h
    refine cx_putI (k := 14) k139_81 ow_139 fl_7_143 (by decide) sk_28 nf_6_14 fu_6_14 e7 ?_
    exact cx_retv k139_84 rt_139 h
  · rw [if_neg hb5] at h
    refine sx_if_ne (tgt := 84) k139_76 (by decide) (fun _ => ?_) (fun q => absurd q hb5)
    exact cx_retv k139_84 rt_139 h
def b139_13 (kl13 : Int32 → Int32 → Int32 → Mem → Option (Mem)) (v1 : Int32) (v2 : Int32) (v3 : Int32) (μ : Mem) : Option (Mem) :=
  if v2 ≤ v3 then
    c139_59 v1 μ
  else
    if (μ.1 29 5) ≤ 0 then
      c139_59 v1 μ
    else
      (f167 29 (0 : Int32) μ).bind fun r3 =>
      (f85 r3.2 (2 : Int32) (3 : Int32) r3.1).bind fun r5 =>
      (f162 29 (0 : Int32) r5).bind fun r7 =>
      nm (v3 + (1 : Int32)) fun x9 =>
      kl13 v1 v2 x9 r7
theorem b139_13_ok {L : Nat} (kl13 : Int32 → Int32 → Int32 → Mem → Option (Mem)) (hk13 : (∀ (v1 : Int32) (v2 : Int32) (v3 : Int32) (μ : Mem) (res : Mem), kl13 v1 v2 v3 μ = some res → Sx 139 13 [(0, .ref 28), (1, .int v1), (2, .int v2), (3, .int v3)] [] 0 0 (mk L μ) (mk L res, none))) (v1 : Int32) (v2 : Int32) (v3 : Int32) (μ : Mem) (res : Mem) (h : b139_13 kl13 v1 v2 v3 μ = some res) : Sx 139 13 [(0, .ref 28), (1, .int v1), (2, .int v2), (3, .int v3)] [] 0 0 (mk L μ) (mk L res, none) := by
  unfold b139_13 at h
  refine sx_iload_n (i := 3) k139_13 rfl rfl ?_
  refine sx_iload_n (i := 2) k139_14 rfl rfl ?_
  by_cases hb1 : v2 ≤ v3
  · rw [if_pos hb1] at h
    refine sx_icmp_ge (tgt := 59) k139_15 (by decide) (fun _ => ?_) (fun q => absurd hb1 q)
    refine sx_pick (lo2 := [(0, .ref 28), (1, .int v1)]) [0, 1] rfl ?_
    exact c139_59_ok v1 _ _ h
  · rw [if_neg hb1] at h
    refine sx_icmp_ge (tgt := 59) k139_15 (by decide) (fun q => absurd q hb1) (fun _ => ?_)
    refine sx_aload_n (i := 0) k139_18 rfl rfl ?_
    refine cx_getR (k := 2) k139_19 ow_139 fl_7_16 (by decide) sk_28 ft_6_2 sr_28_2 ?_
    refine cx_getI (k := 5) k139_22 ow_139 fl_7_124 (by decide) sk_29 ft_7_5 ?_
    by_cases hb2 : (μ.1 29 5) ≤ 0
    · rw [if_pos hb2] at h
      refine sx_if_le (tgt := 59) k139_25 (by decide) (fun _ => ?_) (fun q => absurd hb2 q)
      refine sx_pick (lo2 := [(0, .ref 28), (1, .int v1)]) [0, 1] rfl ?_
      exact c139_59_ok v1 _ _ h
    · rw [if_neg hb2] at h
      refine sx_if_le (tgt := 59) k139_25 (by decide) (fun q => absurd q hb2) (fun _ => ?_)
      refine sx_aload_n (i := 0) k139_28 rfl rfl ?_
      refine cx_getR (k := 1) k139_29 ow_139 fl_7_63 (by decide) sk_28 ft_6_1 sr_28_1 ?_
      refine sx_aload_n (i := 0) k139_32 rfl rfl ?_
      refine cx_getR (k := 2) k139_33 ow_139 fl_7_16 (by decide) sk_28 ft_6_2 sr_28_2 ?_
      refine sx_iconst (v := 0) k139_36 (by decide) ?_
      obtain ⟨r3, e4, h⟩ := Option.bind_eq_some_iff.mp h
      refine cx_V (sk := [.ref 12]) (vs := [.int (0 : Int32)]) st_139_167 k139_37 ow_139 cl_7_129 (by decide) rfl (Nat.le_of_ble_eq_true rfl) sk_29 (ok167 29 (0 : Int32) sk_29 _ _ e4) (sk3 := [.int r3.2, .ref 12]) rfl rfl ?_
      refine sx_iconst (v := 2) k139_40 (by decide) ?_
      refine sx_iconst (v := 3) k139_41 (by decide) ?_
      obtain ⟨r5, e6, h⟩ := Option.bind_eq_some_iff.mp h
      refine cx_V (sk := []) (vs := [.int r3.2, .int (2 : Int32), .int (3 : Int32)]) st_139_85 k139_42 ow_139 cl_7_146 (by decide) rfl (Nat.le_of_ble_eq_true rfl) sk_12 (ok85 r3.2 (2 : Int32) (3 : Int32) _ _ e6) (sk3 := []) rfl rfl ?_
      refine sx_aload_n (i := 0) k139_45 rfl rfl ?_
      refine cx_getR (k := 2) k139_46 ow_139 fl_7_16 (by decide) sk_28 ft_6_2 sr_28_2 ?_
      refine sx_iconst (v := 0) k139_49 (by decide) ?_
      obtain ⟨r7, e8, h⟩ := Option.bind_eq_some_iff.mp h
      refine cx_V (sk := []) (vs := [.int (0 : Int32)]) st_139_162 k139_50 ow_139 cl_7_132 (by decide) rfl (Nat.le_of_ble_eq_true rfl) sk_29 (ok162 29 (0 : Int32) sk_29 _ _ e8) (sk3 := []) rfl rfl ?_
      refine cx_iinc (c := 1) (lo2 := fun x9 => [(3, .int x9), (0, .ref 28), (1, .int v1), (2, .int v2)]) k139_53 rfl (by decide) (by rw [mx_139]; decide) (fun _ => rfl) h (fun x9 h => ?_)
      refine sx_goto (tgt := 13) k139_56 (by decide) ?_
      refine sx_pick (lo2 := [(0, .ref 28), (1, .int v1), (2, .int v2), (3, .int x9)]) [1, 2, 3, 0] rfl ?_
      exact hk13 v1 v2 x9 _ _ h
def l139_13 : Nat → Int32 × Int32 × Int32 × Mem → Option (Mem) :=
  fixN (fun self x => b139_13 (fun v1 v2 v3 μ => self (v1, v2, v3, μ)) (x.1) (x.2.1) (x.2.2.1) (x.2.2.2))
theorem l139_13_ok {L : Nat} (n : Nat) (v1 : Int32) (v2 : Int32) (v3 : Int32) (μ : Mem) (res : Mem) (h : l139_13 n (v1, v2, v3, μ) = some res) : Sx 139 13 [(0, .ref 28), (1, .int v1), (2, .int v2), (3, .int v3)] [] 0 0 (mk L μ) (mk L res, none) := by
  have key := fixN_ind (P := fun x res => Sx 139 13 [(0, .ref 28), (1, .int (x.1)), (2, .int (x.2.1)), (3, .int (x.2.2.1))] [] 0 0 (mk L (x.2.2.2)) (mk L res, none)) (F := fun self x => b139_13 (fun v1 v2 v3 μ => self (v1, v2, v3, μ)) (x.1) (x.2.1) (x.2.2.1) (x.2.2.2)) (fun self hself x res h => b139_13_ok (fun v1 v2 v3 μ => self (v1, v2, v3, μ)) (fun v1 v2 v3 μ res hh => hself (v1, v2, v3, μ) res hh) (x.1) (x.2.1) (x.2.2.1) (x.2.2.2) res h) n (v1, v2, v3, μ) res h
  exact key
/-- Sender.clearTo(I)V -/
def f139 (p1 : Int32) (μ : Mem) : Option (Mem) :=
  nm ((p1 - (μ.1 28 10)) &&& (255 : Int32)) fun x1 =>
  l139_13 gF (p1, x1, (0 : Int32), μ)
theorem ok139 {L : Nat} (p1 : Int32) (μ : Mem) (res : Mem) (h : f139 p1 μ = some res) : Mx 139 [.ref 28, .int p1] (mk L μ) (mk L res, none) := by
  refine Mx_of ml_139 (by rw [mx_139]; exact Nat.le_of_ble_eq_true rfl) ?_
  show Sx 139 0 [(0, .ref 28), (1, .int p1)] [] 0 0 (mk L μ) _
  unfold f139 at h
  refine sx_iload_n (i := 1) k139_0 rfl rfl ?_
  refine sx_aload_n (i := 0) k139_1 rfl rfl ?_
  refine cx_getI (k := 10) k139_2 ow_139 fl_7_121 (by decide) sk_28 ft_6_10 ?_
  refine sx_isub k139_5 ?_
  refine sx_sipush (v := 255) k139_6 (by decide) ?_
  refine sx_iand k139_9 ?_
  refine cx_nm h (fun x1 h => ?_)
  refine cx_istore_n (lo2 := [(2, .int x1), (0, .ref 28), (1, .int p1)]) k139_10 rfl (by rw [mx_139]; decide) rfl ?_
  refine sx_iconst (v := 0) k139_11 (by decide) ?_
  refine cx_istore_n (lo2 := [(3, .int (0 : Int32)), (2, .int x1), (0, .ref 28), (1, .int p1)]) k139_12 rfl (by rw [mx_139]; decide) rfl ?_
  refine sx_pick (lo2 := [(0, .ref 28), (1, .int p1), (2, .int x1), (3, .int (0 : Int32))]) [2, 3, 1, 0] rfl ?_
  exact l139_13_ok gF p1 x1 (0 : Int32) _ _ h
theorem k140_0 : decode (gb 140) 0 = .ok (.iconst 0, 1) := by decide +kernel
theorem k140_1 : decode (gb 140) 1 = .ok (.istore_n 1, 1) := by decide +kernel
theorem k140_2 : decode (gb 140) 2 = .ok (.iload_n 1, 1) := by decide +kernel
theorem k140_3 : decode (gb 140) 3 = .ok (.aload_n 0, 1) := by decide +kernel
theorem k140_4 : decode (gb 140) 4 = .ok (.getfield 16, 3) := by decide +kernel
theorem k140_7 : decode (gb 140) 7 = .ok (.getfield 124, 3) := by decide +kernel
theorem k140_10 : decode (gb 140) 10 = .ok (.if_icmp .ge 26, 3) := by decide +kernel
theorem k140_13 : decode (gb 140) 13 = .ok (.aload_n 0, 1) := by decide +kernel
theorem k140_14 : decode (gb 140) 14 = .ok (.getfield 63, 3) := by decide +kernel
theorem k140_17 : decode (gb 140) 17 = .ok (.aload_n 0, 1) := by decide +kernel
theorem k140_18 : decode (gb 140) 18 = .ok (.getfield 16, 3) := by decide +kernel
theorem k140_21 : decode (gb 140) 21 = .ok (.iload_n 1, 1) := by decide +kernel
theorem k140_22 : decode (gb 140) 22 = .ok (.invokevirtual 129, 3) := by decide +kernel
theorem k140_25 : decode (gb 140) 25 = .ok (.iconst 2, 1) := by decide +kernel
theorem k140_26 : decode (gb 140) 26 = .ok (.iconst 4, 1) := by decide +kernel
theorem k140_27 : decode (gb 140) 27 = .ok (.invokevirtual 146, 3) := by decide +kernel
theorem k140_30 : decode (gb 140) 30 = .ok (.iinc 1 1, 3) := by decide +kernel
theorem k140_33 : decode (gb 140) 33 = .ok (.goto (-31), 3) := by decide +kernel
theorem k140_36 : decode (gb 140) 36 = .ok (.iconst 0, 1) := by decide +kernel
theorem k140_37 : decode (gb 140) 37 = .ok (.istore_n 1, 1) := by decide +kernel
theorem k140_38 : decode (gb 140) 38 = .ok (.iload_n 1, 1) := by decide +kernel
theorem k140_39 : decode (gb 140) 39 = .ok (.aload_n 0, 1) := by decide +kernel
theorem k140_40 : decode (gb 140) 40 = .ok (.getfield 20, 3) := by decide +kernel
theorem k140_43 : decode (gb 140) 43 = .ok (.getfield 124, 3) := by decide +kernel
theorem k140_46 : decode (gb 140) 46 = .ok (.if_icmp .ge 26, 3) := by decide +kernel
theorem k140_49 : decode (gb 140) 49 = .ok (.aload_n 0, 1) := by decide +kernel
theorem k140_50 : decode (gb 140) 50 = .ok (.getfield 63, 3) := by decide +kernel
theorem k140_53 : decode (gb 140) 53 = .ok (.aload_n 0, 1) := by decide +kernel
theorem k140_54 : decode (gb 140) 54 = .ok (.getfield 20, 3) := by decide +kernel
theorem k140_57 : decode (gb 140) 57 = .ok (.iload_n 1, 1) := by decide +kernel
theorem k140_58 : decode (gb 140) 58 = .ok (.invokevirtual 129, 3) := by decide +kernel
theorem k140_61 : decode (gb 140) 61 = .ok (.iconst 1, 1) := by decide +kernel
theorem k140_62 : decode (gb 140) 62 = .ok (.iconst 4, 1) := by decide +kernel
theorem k140_63 : decode (gb 140) 63 = .ok (.invokevirtual 146, 3) := by decide +kernel
theorem k140_66 : decode (gb 140) 66 = .ok (.iinc 1 1, 3) := by decide +kernel
theorem k140_69 : decode (gb 140) 69 = .ok (.goto (-31), 3) := by decide +kernel
theorem k140_72 : decode (gb 140) 72 = .ok (.aload_n 0, 1) := by decide +kernel
theorem k140_73 : decode (gb 140) 73 = .ok (.getfield 16, 3) := by decide +kernel
theorem k140_76 : decode (gb 140) 76 = .ok (.invokevirtual 150, 3) := by decide +kernel
theorem k140_79 : decode (gb 140) 79 = .ok (.aload_n 0, 1) := by decide +kernel
theorem k140_80 : decode (gb 140) 80 = .ok (.getfield 20, 3) := by decide +kernel
theorem k140_83 : decode (gb 140) 83 = .ok (.invokevirtual 150, 3) := by decide +kernel
theorem k140_86 : decode (gb 140) 86 = .ok (.aload_n 0, 1) := by decide +kernel
theorem k140_87 : decode (gb 140) 87 = .ok (.aload_n 0, 1) := by decide +kernel
theorem k140_88 : decode (gb 140) 88 = .ok (.getfield 135, 3) := by decide +kernel
theorem k140_91 : decode (gb 140) 91 = .ok (.putfield 121, 3) := by decide +kernel
theorem k140_94 : decode (gb 140) 94 = .ok (.aload_n 0, 1) := by decide +kernel
theorem k140_95 : decode (gb 140) 95 = .ok (.iconst 0, 1) := by decide +kernel
theorem k140_96 : decode (gb 140) 96 = .ok (.putfield 151, 3) := by decide +kernel
theorem k140_99 : decode (gb 140) 99 = .ok (.return_, 1) := by decide +kernel
def b140_38 (kl38 : Int32 → Mem → Option (Mem)) (v1 : Int32) (μ : Mem) : Option (Mem) :=
  if (μ.1 35 5) ≤ v1 then
    (f163 29 μ).bind fun r2 =>
    (f163 35 r2).bind fun r4 =>
    (pfI 28 10 (r4.1 28 9) r4).bind fun m6 =>
    (pfI 28 17 (0 : Int32) m6).bind fun m8 =>
    some m8
  else
    (f167 35 v1 μ).bind fun r10 =>
    (f85 r10.2 (1 : Int32) (4 : Int32) r10.1).bind fun r12 =>
    nm (v1 + (1 : Int32)) fun x14 =>
    kl38 x14 r12
theorem b140_38_ok {L : Nat} (kl38 : Int32 → Mem → Option (Mem)) (hk38 : (∀ (v1 : Int32) (μ : Mem) (res : Mem), kl38 v1 μ = some res → Sx 140 38 [(0, .ref 28), (1, .int v1)] [] 0 0 (mk L μ) (mk L res, none))) (v1 : Int32) (μ : Mem) (res : Mem) (h : b140_38 kl38 v1 μ = some res) : Sx 140 38 [(0, .ref 28), (1, .int v1)] [] 0 0 (mk L μ) (mk L res, none) := by
  unfold b140_38 at h
  refine sx_iload_n (i := 1) k140_38 rfl rfl ?_
  refine sx_aload_n (i := 0) k140_39 rfl rfl ?_
  refine cx_getR (k := 3) k140_40 ow_140 fl_7_20 (by decide) sk_28 ft_6_3 sr_28_3 ?_
  refine cx_getI (k := 5) k140_43 ow_140 fl_7_124 (by decide) sk_35 ft_7_5 ?_
  by_cases hb1 : (μ.1 35 5) ≤ v1
  · rw [if_pos hb1] at h
    refine sx_icmp_ge (tgt := 72) k140_46 (by decide) (fun _ => ?_) (fun q => absurd hb1 q)
    refine sx_aload_n (i := 0) k140_72 rfl rfl ?_
    refine cx_getR (k := 2) k140_73 ow_140 fl_7_16 (by decide) sk_28 ft_6_2 sr_28_2 ?_
    obtain ⟨r2, e3, h⟩ := Option.bind_eq_some_iff.mp h
    refine cx_V (sk := []) (vs := []) st_140_163 k140_76 ow_140 cl_7_150 (by decide) rfl (Nat.le_of_ble_eq_true rfl) sk_29 (ok163 29 sk_29 _ _ e3) (sk3 := []) rfl rfl ?_
    refine sx_aload_n (i := 0) k140_79 rfl rfl ?_
    refine cx_getR (k := 3) k140_80 ow_140 fl_7_20 (by decide) sk_28 ft_6_3 sr_28_3 ?_
    obtain ⟨r4, e5, h⟩ := Option.bind_eq_some_iff.mp h
    refine cx_V (sk := []) (vs := []) st_140_163 k140_83 ow_140 cl_7_150 (by decide) rfl (Nat.le_of_ble_eq_true rfl) sk_35 (ok163 35 sk_35 _ _ e5) (sk3 := []) rfl rfl ?_
    refine sx_aload_n (i := 0) k140_86 rfl rfl ?_
    refine sx_aload_n (i := 0) k140_87 rfl rfl ?_
    refine cx_getI (k := 9) k140_88 ow_140 fl_7_135 (by decide) sk_28 ft_6_9 ?_
    obtain ⟨m6, e7, h⟩ := Option.bind_eq_some_iff.mp h
    refine cx_putI (k := 10) k140_91 ow_140 fl_7_121 (by decide) sk_28 nf_6_10 fu_6_10 e7 ?_
    refine sx_aload_n (i := 0) k140_94 rfl rfl ?_
    refine sx_iconst (v := 0) k140_95 (by decide) ?_
    obtain ⟨m8, e9, h⟩ := Option.bind_eq_some_iff.mp h
    refine cx_putI (k := 17) k140_96 ow_140 fl_7_151 (by decide) sk_28 nf_6_17 fu_6_17 e9 ?_
    exact cx_retv k140_99 rt_140 h
  · rw [if_neg hb1] at h
    refine sx_icmp_ge (tgt := 72) k140_46 (by decide) (fun q => absurd q hb1) (fun _ => ?_)
    refine sx_aload_n (i := 0) k140_49 rfl rfl ?_
    refine cx_getR (k := 1) k140_50 ow_140 fl_7_63 (by decide) sk_28 ft_6_1 sr_28_1 ?_
    refine sx_aload_n (i := 0) k140_53 rfl rfl ?_
    refine cx_getR (k := 3) k140_54 ow_140 fl_7_20 (by decide) sk_28 ft_6_3 sr_28_3 ?_
    refine sx_iload_n (i := 1) k140_57 rfl rfl ?_
    obtain ⟨r10, e11, h⟩ := Option.bind_eq_some_iff.mp h
    refine cx_V (sk := [.ref 12]) (vs := [.int v1]) st_140_167 k140_58 ow_140 cl_7_129 (by decide) rfl (Nat.le_of_ble_eq_true rfl) sk_35 (ok167 35 v1 sk_35 _ _ e11) (sk3 := [.int r10.2, .ref 12]) rfl rfl ?_
    refine sx_iconst (v := 1) k140_61 (by decide) ?_
    refine sx_iconst (v := 4) k140_62 (by decide) ?_
    obtain ⟨r12, e13, h⟩ := Option.bind_eq_some_iff.mp h
    refine cx_V (sk := []) (vs := [.int r10.2, .int (1 : Int32), .int (4 : Int32)]) st_140_85 k140_63 ow_140 cl_7_146 (by decide) rfl (Nat.le_of_ble_eq_true rfl) sk_12 (ok85 r10.2 (1 : Int32) (4 : Int32) _ _ e13) (sk3 := []) rfl rfl ?_
    refine cx_iinc (c := 1) (lo2 := fun x14 => [(1, .int x14), (0, .ref 28)]) k140_66 rfl (by decide) (by rw [mx_140]; decide) (fun _ => rfl) h (fun x14 h => ?_)
    refine sx_goto (tgt := 38) k140_69 (by decide) ?_
    refine sx_pick (lo2 := [(0, .ref 28), (1, .int x14)]) [1, 0] rfl ?_
    exact hk38 x14 _ _ h
def l140_38 : Nat → Int32 × Mem → Option (Mem) :=
  fixN (fun self x => b140_38 (fun v1 μ => self (v1, μ)) (x.1) (x.2))
theorem l140_38_ok {L : Nat} (n : Nat) (v1 : Int32) (μ : Mem) (res : Mem) (h : l140_38 n (v1, μ) = some res) : Sx 140 38 [(0, .ref 28), (1, .int v1)] [] 0 0 (mk L μ) (mk L res, none) := by
  have key := fixN_ind (P := fun x res => Sx 140 38 [(0, .ref 28), (1, .int (x.1))] [] 0 0 (mk L (x.2)) (mk L res, none)) (F := fun self x => b140_38 (fun v1 μ => self (v1, μ)) (x.1) (x.2)) (fun self hself x res h => b140_38_ok (fun v1 μ => self (v1, μ)) (fun v1 μ res hh => hself (v1, μ) res hh) (x.1) (x.2) res h) n (v1, μ) res h
  exact key
def b140_2 (kl2 : Int32 → Mem → Option (Mem)) (v1 : Int32) (μ : Mem) : Option (Mem) :=
  if (μ.1 29 5) ≤ v1 then
    l140_38 gF ((0 : Int32), μ)
  else
    (f167 29 v1 μ).bind fun r2 =>
    (f85 r2.2 (2 : Int32) (4 : Int32) r2.1).bind fun r4 =>
    nm (v1 + (1 : Int32)) fun x6 =>
    kl2 x6 r4
theorem b140_2_ok {L : Nat} (kl2 : Int32 → Mem → Option (Mem)) (hk2 : (∀ (v1 : Int32) (μ : Mem) (res : Mem), kl2 v1 μ = some res → Sx 140 2 [(0, .ref 28), (1, .int v1)] [] 0 0 (mk L μ) (mk L res, none))) (v1 : Int32) (μ : Mem) (res : Mem) (h : b140_2 kl2 v1 μ = some res) : Sx 140 2 [(0, .ref 28), (1, .int v1)] [] 0 0 (mk L μ) (mk L res, none) := by
  unfold b140_2 at h
  refine sx_iload_n (i := 1) k140_2 rfl rfl ?_
  refine sx_aload_n (i := 0) k140_3 rfl rfl ?_
  refine cx_getR (k := 2) k140_4 ow_140 fl_7_16 (by decide) sk_28 ft_6_2 sr_28_2 ?_
  refine cx_getI (k := 5) k140_7 ow_140 fl_7_124 (by decide) sk_29 ft_7_5 ?_
  by_cases hb1 : (μ.1 29 5) ≤ v1
  · rw [if_pos hb1] at h
    refine sx_icmp_ge (tgt := 36) k140_10 (by decide) (fun _ => ?_) (fun q => absurd hb1 q)
    refine sx_iconst (v := 0) k140_36 (by decide) ?_
    refine cx_istore_n (lo2 := [(1, .int (0 : Int32)), (0, .ref 28)]) k140_37 rfl (by rw [mx_140]; decide) rfl ?_
    refine sx_pick (lo2 := [(0, .ref 28), (1, .int (0 : Int32))]) [1, 0] rfl ?_
    exact l140_38_ok gF (0 : Int32) _ _ h
  · rw [if_neg hb1] at h
    refine sx_icmp_ge (tgt := 36) k140_10 (by decide) (fun q => absurd q hb1) (fun _ => ?_)
    refine sx_aload_n (i := 0) k140_13 rfl rfl ?_
    refine cx_getR (k := 1) k140_14 ow_140 fl_7_63 (by decide) sk_28 ft_6_1 sr_28_1 ?_
    refine sx_aload_n (i := 0) k140_17 rfl rfl ?_
    refine cx_getR (k := 2) k140_18 ow_140 fl_7_16 (by decide) sk_28 ft_6_2 sr_28_2 ?_
    refine sx_iload_n (i := 1) k140_21 rfl rfl ?_
    obtain ⟨r2, e3, h⟩ := Option.bind_eq_some_iff.mp h
    refine cx_V (sk := [.ref 12]) (vs := [.int v1]) st_140_167 k140_22 ow_140 cl_7_129 (by decide) rfl (Nat.le_of_ble_eq_true rfl) sk_29 (ok167 29 v1 sk_29 _ _ e3) (sk3 := [.int r2.2, .ref 12]) rfl rfl ?_
    refine sx_iconst (v := 2) k140_25 (by decide) ?_
    refine sx_iconst (v := 4) k140_26 (by decide) ?_
    obtain ⟨r4, e5, h⟩ := Option.bind_eq_some_iff.mp h
    refine cx_V (sk := []) (vs := [.int r2.2, .int (2 : Int32), .int (4 : Int32)]) st_140_85 k140_27 ow_140 cl_7_146 (by decide) rfl (Nat.le_of_ble_eq_true rfl) sk_12 (ok85 r2.2 (2 : Int32) (4 : Int32) _ _ e5) (sk3 := []) rfl rfl ?_
    refine cx_iinc (c := 1) (lo2 := fun x6 => [(1, .int x6), (0, .ref 28)]) k140_30 rfl (by decide) (by rw [mx_140]; decide) (fun _ => rfl) h (fun x6 h => ?_)
    refine sx_goto (tgt := 2) k140_33 (by decide) ?_
    refine sx_pick (lo2 := [(0, .ref 28), (1, .int x6)]) [1, 0] rfl ?_
    exact hk2 x6 _ _ h
def l140_2 : Nat → Int32 × Mem → Option (Mem) :=
  fixN (fun self x => b140_2 (fun v1 μ => self (v1, μ)) (x.1) (x.2))
theorem l140_2_ok {L : Nat} (n : Nat) (v1 : Int32) (μ : Mem) (res : Mem) (h : l140_2 n (v1, μ) = some res) : Sx 140 2 [(0, .ref 28), (1, .int v1)] [] 0 0 (mk L μ) (mk L res, none) := by
  have key := fixN_ind (P := fun x res => Sx 140 2 [(0, .ref 28), (1, .int (x.1))] [] 0 0 (mk L (x.2)) (mk L res, none)) (F := fun self x => b140_2 (fun v1 μ => self (v1, μ)) (x.1) (x.2)) (fun self hself x res h => b140_2_ok (fun v1 μ => self (v1, μ)) (fun v1 μ res hh => hself (v1, μ) res hh) (x.1) (x.2) res h) n (v1, μ) res h
  exact key
/-- Sender.loseAll()V -/
def f140 (μ : Mem) : Option (Mem) :=
  l140_2 gF ((0 : Int32), μ)
theorem ok140 {L : Nat} (μ : Mem) (res : Mem) (h : f140 μ = some res) : Mx 140 [.ref 28] (mk L μ) (mk L res, none) := by
  refine Mx_of ml_140 (by rw [mx_140]; exact Nat.le_of_ble_eq_true rfl) ?_
  show Sx 140 0 [(0, .ref 28)] [] 0 0 (mk L μ) _
  unfold f140 at h
  refine sx_iconst (v := 0) k140_0 (by decide) ?_
  refine cx_istore_n (lo2 := [(1, .int (0 : Int32)), (0, .ref 28)]) k140_1 rfl (by rw [mx_140]; decide) rfl ?_
  refine sx_pick (lo2 := [(0, .ref 28), (1, .int (0 : Int32))]) [1, 0] rfl ?_
  exact l140_2_ok gF (0 : Int32) _ _ h
theorem k141_0 : decode (gb 141) 0 = .ok (.aload_n 0, 1) := by decide +kernel
theorem k141_1 : decode (gb 141) 1 = .ok (.iload_n 1, 1) := by decide +kernel
theorem k141_2 : decode (gb 141) 2 = .ok (.putfield 154, 3) := by decide +kernel
theorem k141_5 : decode (gb 141) 5 = .ok (.aload_n 0, 1) := by decide +kernel
theorem k141_6 : decode (gb 141) 6 = .ok (.invokevirtual 157, 3) := by decide +kernel
theorem k141_9 : decode (gb 141) 9 = .ok (.aload_n 0, 1) := by decide +kernel
theorem k141_10 : decode (gb 141) 10 = .ok (.iconst 0, 1) := by decide +kernel
theorem k141_11 : decode (gb 141) 11 = .ok (.putfield 143, 3) := by decide +kernel
theorem k141_14 : decode (gb 141) 14 = .ok (.aload_n 0, 1) := by decide +kernel
theorem k141_15 : decode (gb 141) 15 = .ok (.bipush 6, 2) := by decide +kernel
theorem k141_17 : decode (gb 141) 17 = .ok (.putfield 43, 3) := by decide +kernel
theorem k141_20 : decode (gb 141) 20 = .ok (.return_, 1) := by decide +kernel
/-- Sender.raiseAlarm(I)V -/
def f141 (p1 : Int32) (μ : Mem) : Option (Mem) :=
  (pfI 28 18 p1 μ).bind fun m1 =>
  (f140 m1).bind fun r3 =>
  (pfI 28 14 (0 : Int32) r3).bind fun m5 =>
  (pfI 28 8 (6 : Int32) m5).bind fun m7 =>
  some m7
theorem ok141 {L : Nat} (p1 : Int32) (μ : Mem) (res : Mem) (h : f141 p1 μ = some res) : Mx 141 [.ref 28, .int p1] (mk L μ) (mk L res, none) := by
  refine Mx_of ml_141 (by rw [mx_141]; exact Nat.le_of_ble_eq_true rfl) ?_
  show Sx 141 0 [(0, .ref 28), (1, .int p1)] [] 0 0 (mk L μ) _
  unfold f141 at h
  refine sx_aload_n (i := 0) k141_0 rfl rfl ?_
  refine sx_iload_n (i := 1) k141_1 rfl rfl ?_
  obtain ⟨m1, e2, h⟩ := Option.bind_eq_some_iff.mp h
  refine cx_putI (k := 18) k141_2 ow_141 fl_7_154 (by decide) sk_28 nf_6_18 fu_6_18 e2 ?_
  refine sx_aload_n (i := 0) k141_5 rfl rfl ?_
  obtain ⟨r3, e4, h⟩ := Option.bind_eq_some_iff.mp h
  refine cx_V (sk := []) (vs := []) st_141_140 k141_6 ow_141 cl_7_157 (by decide) rfl (Nat.le_of_ble_eq_true rfl) sk_28 (ok140 _ _ e4) (sk3 := []) rfl rfl ?_
  refine sx_aload_n (i := 0) k141_9 rfl rfl ?_
  refine sx_iconst (v := 0) k141_10 (by decide) ?_
  obtain ⟨m5, e6, h⟩ := Option.bind_eq_some_iff.mp h
  refine cx_putI (k := 14) k141_11 ow_141 fl_7_143 (by decide) sk_28 nf_6_14 fu_6_14 e6 ?_
  refine sx_aload_n (i := 0) k141_14 rfl rfl ?_
  refine sx_bipush (v := 6) k141_15 (by decide) ?_
  obtain ⟨m7, e8, h⟩ := Option.bind_eq_some_iff.mp h
  refine cx_putI (k := 8) k141_17 ow_141 fl_7_43 (by decide) sk_28 nf_6_8 fu_6_8 e8 ?_
  exact cx_retv k141_20 rt_141 h
theorem k142_0 : decode (gb 142) 0 = .ok (.aload_n 0, 1) := by decide +kernel
theorem k142_1 : decode (gb 142) 1 = .ok (.aload_n 0, 1) := by decide +kernel
theorem k142_2 : decode (gb 142) 2 = .ok (.getfield 43, 3) := by decide +kernel
theorem k142_5 : decode (gb 142) 5 = .ok (.putfield 151, 3) := by decide +kernel
theorem k142_8 : decode (gb 142) 8 = .ok (.aload_n 0, 1) := by decide +kernel
theorem k142_9 : decode (gb 142) 9 = .ok (.bipush 6, 2) := by decide +kernel
theorem k142_11 : decode (gb 142) 11 = .ok (.putfield 43, 3) := by decide +kernel
theorem k142_14 : decode (gb 142) 14 = .ok (.return_, 1) := by decide +kernel
/-- Sender.holdOn()V -/
def f142 (μ : Mem) : Option (Mem) :=
  (pfI 28 17 (μ.1 28 8) μ).bind fun m1 =>
  (pfI 28 8 (6 : Int32) m1).bind fun m3 =>
  some m3
theorem ok142 {L : Nat} (μ : Mem) (res : Mem) (h : f142 μ = some res) : Mx 142 [.ref 28] (mk L μ) (mk L res, none) := by
  refine Mx_of ml_142 (by rw [mx_142]; exact Nat.le_of_ble_eq_true rfl) ?_
  show Sx 142 0 [(0, .ref 28)] [] 0 0 (mk L μ) _
  unfold f142 at h
  refine sx_aload_n (i := 0) k142_0 rfl rfl ?_
  refine sx_aload_n (i := 0) k142_1 rfl rfl ?_
  refine cx_getI (k := 8) k142_2 ow_142 fl_7_43 (by decide) sk_28 ft_6_8 ?_
  obtain ⟨m1, e2, h⟩ := Option.bind_eq_some_iff.mp h
  refine cx_putI (k := 17) k142_5 ow_142 fl_7_151 (by decide) sk_28 nf_6_17 fu_6_17 e2 ?_
  refine sx_aload_n (i := 0) k142_8 rfl rfl ?_
  refine sx_bipush (v := 6) k142_9 (by decide) ?_
  obtain ⟨m3, e4, h⟩ := Option.bind_eq_some_iff.mp h
  refine cx_putI (k := 8) k142_11 ow_142 fl_7_43 (by decide) sk_28 nf_6_8 fu_6_8 e4 ?_
  exact cx_retv k142_14 rt_142 h
theorem k145_0 : decode (gb 145) 0 = .ok (.iload_n 2, 1) := by decide +kernel
theorem k145_1 : decode (gb 145) 1 = .ok (.ifCond .ne 7, 3) := by decide +kernel
theorem k145_4 : decode (gb 145) 4 = .ok (.iload_n 1, 1) := by decide +kernel
theorem k145_5 : decode (gb 145) 5 = .ok (.ifCond .eq 25, 3) := by decide +kernel
theorem k145_8 : decode (gb 145) 8 = .ok (.aload_n 0, 1) := by decide +kernel
theorem k145_9 : decode (gb 145) 9 = .ok (.getfield 43, 3) := by decide +kernel
theorem k145_12 : decode (gb 145) 12 = .ok (.iconst 5, 1) := by decide +kernel
theorem k145_13 : decode (gb 145) 13 = .ok (.if_icmp .ne 7, 3) := by decide +kernel
theorem k145_16 : decode (gb 145) 16 = .ok (.iconst 0, 1) := by decide +kernel
theorem k145_17 : decode (gb 145) 17 = .ok (.goto 12, 3) := by decide +kernel
theorem k145_20 : decode (gb 145) 20 = .ok (.iload_n 2, 1) := by decide +kernel
theorem k145_21 : decode (gb 145) 21 = .ok (.ifCond .eq 7, 3) := by decide +kernel
theorem k145_24 : decode (gb 145) 24 = .ok (.iconst 3, 1) := by decide +kernel
theorem k145_25 : decode (gb 145) 25 = .ok (.goto 4, 3) := by decide +kernel
theorem k145_28 : decode (gb 145) 28 = .ok (.iconst 4, 1) := by decide +kernel
theorem k145_29 : decode (gb 145) 29 = .ok (.ireturn, 1) := by decide +kernel
theorem k145_30 : decode (gb 145) 30 = .ok (.aload_n 0, 1) := by decide +kernel
theorem k145_31 : decode (gb 145) 31 = .ok (.getfield 135, 3) := by decide +kernel
theorem k145_34 : decode (gb 145) 34 = .ok (.aload_n 0, 1) := by decide +kernel
theorem k145_35 : decode (gb 145) 35 = .ok (.getfield 121, 3) := by decide +kernel
theorem k145_38 : decode (gb 145) 38 = .ok (.if_icmp .eq 18, 3) := by decide +kernel
theorem k145_41 : decode (gb 145) 41 = .ok (.aload_n 0, 1) := by decide +kernel
theorem k145_42 : decode (gb 145) 42 = .ok (.aload_n 0, 1) := by decide +kernel
theorem k145_43 : decode (gb 145) 43 = .ok (.getfield 135, 3) := by decide +kernel
theorem k145_46 : decode (gb 145) 46 = .ok (.invokevirtual 178, 3) := by decide +kernel
theorem k145_49 : decode (gb 145) 49 = .ok (.aload_n 0, 1) := by decide +kernel
theorem k145_50 : decode (gb 145) 50 = .ok (.iconst 1, 1) := by decide +kernel
theorem k145_51 : decode (gb 145) 51 = .ok (.putfield 43, 3) := by decide +kernel
theorem k145_54 : decode (gb 145) 54 = .ok (.iconst (-1), 1) := by decide +kernel
theorem k145_55 : decode (gb 145) 55 = .ok (.ireturn, 1) := by decide +kernel
theorem k145_56 : decode (gb 145) 56 = .ok (.aload_n 0, 1) := by decide +kernel
theorem k145_57 : decode (gb 145) 57 = .ok (.getfield 43, 3) := by decide +kernel
theorem k145_60 : decode (gb 145) 60 = .ok (.iconst 1, 1) := by decide +kernel
theorem k145_61 : decode (gb 145) 61 = .ok (.if_icmp .ne 5, 3) := by decide +kernel
theorem k145_64 : decode (gb 145) 64 = .ok (.iconst 0, 1) := by decide +kernel
theorem k145_65 : decode (gb 145) 65 = .ok (.ireturn, 1) := by decide +kernel
theorem k145_66 : decode (gb 145) 66 = .ok (.aload_n 0, 1) := by decide +kernel
theorem k145_67 : decode (gb 145) 67 = .ok (.getfield 43, 3) := by decide +kernel
theorem k145_70 : decode (gb 145) 70 = .ok (.iconst 2, 1) := by decide +kernel
theorem k145_71 : decode (gb 145) 71 = .ok (.if_icmp .eq 11, 3) := by decide +kernel
theorem k145_74 : decode (gb 145) 74 = .ok (.aload_n 0, 1) := by decide +kernel
theorem k145_75 : decode (gb 145) 75 = .ok (.getfield 43, 3) := by decide +kernel
theorem k145_78 : decode (gb 145) 78 = .ok (.iconst 3, 1) := by decide +kernel
theorem k145_79 : decode (gb 145) 79 = .ok (.if_icmp .ne 5, 3) := by decide +kernel
theorem k145_82 : decode (gb 145) 82 = .ok (.iconst 3, 1) := by decide +kernel
theorem k145_83 : decode (gb 145) 83 = .ok (.ireturn, 1) := by decide +kernel
theorem k145_84 : decode (gb 145) 84 = .ok (.aload_n 0, 1) := by decide +kernel
theorem k145_85 : decode (gb 145) 85 = .ok (.iconst 1, 1) := by decide +kernel
theorem k145_86 : decode (gb 145) 86 = .ok (.putfield 43, 3) := by decide +kernel
theorem k145_89 : decode (gb 145) 89 = .ok (.aload_n 0, 1) := by decide +kernel
theorem k145_90 : decode (gb 145) 90 = .ok (.iconst 0, 1) := by decide +kernel
theorem k145_91 : decode (gb 145) 91 = .ok (.putfield 143, 3) := by decide +kernel
theorem k145_94 : decode (gb 145) 94 = .ok (.iconst (-1), 1) := by decide +kernel
theorem k145_95 : decode (gb 145) 95 = .ok (.ireturn, 1) := by decide +kernel
def c145_8 (v2 : Int32) (μ : Mem) : Option (Mem × Int32) :=
  if (μ.1 28 8) = (5 : Int32) then
    some (μ, (0 : Int32))
  else
    if v2 = 0 then
      some (μ, (4 : Int32))
    else
      some (μ, (3 : Int32))
theorem c145_8_ok {L : Nat} (v2 : Int32) (μ : Mem) (res : Mem × Int32) (h : c145_8 v2 μ = some res) : Sx 145 8 [(0, .ref 28), (2, .int v2)] [] 0 0 (mk L μ) (mk L res.1, some (.int res.2)) := by
  unfold c145_8 at h
  refine sx_aload_n (i := 0) k145_8 rfl rfl ?_
  refine cx_getI (k := 8) k145_9 ow_145 fl_7_43 (by decide) sk_28 ft_6_8 ?_
  refine sx_iconst (v := 5) k145_12 (by decide) ?_
  by_cases hb1 : (μ.1 28 8) = (5 : Int32)
  · rw [if_pos hb1] at h
    refine sx_icmp_ne (tgt := 20) k145_13 (by decide) (fun q => absurd hb1 q) (fun _ => ?_)
    refine sx_iconst (v := 0) k145_16 (by decide) ?_
    refine sx_goto (tgt := 29) k145_17 (by decide) ?_
    exact cx_reti k145_29 rt_145 h
  · rw [if_neg hb1] at h
    refine sx_icmp_ne (tgt := 20) k145_13 (by decide) (fun _ => ?_) (fun q => absurd q hb1)
    refine sx_iload_n (i := 2) k145_20 rfl rfl ?_
    by_cases hb2 : v2 = 0
    · rw [if_pos hb2] at h
      refine sx_if_eq (tgt := 28) k145_21 (by decide) (fun _ => ?_) (fun q => absurd hb2 q)
      refine sx_iconst (v := 4) k145_28 (by decide) ?_
      exact cx_reti k145_29 rt_145 h
    · rw [if_neg hb2] at h
      refine sx_if_eq (tgt := 28) k145_21 (by decide) (fun q => absurd q hb2) (fun _ => ?_)
      refine sx_iconst (v := 3) k145_24 (by decide) ?_
      refine sx_goto (tgt := 29) k145_25 (by decide) ?_
      exact cx_reti k145_29 rt_145 h
/-- Sender.judgeAll(ZZ)I -/
def f145 (p1 : Int32) (p2 : Int32) (μ : Mem) : Option (Mem × Int32) :=
  if p2 = 0 then
    if p1 = 0 then
      if (μ.1 28 9) = (μ.1 28 10) then
        if (μ.1 28 8) = (1 : Int32) then
          some (μ, (0 : Int32))
        else
          if (μ.1 28 8) = (2 : Int32) then
            some (μ, (3 : Int32))
          else
            if (μ.1 28 8) = (3 : Int32) then
              some (μ, (3 : Int32))
            else
              (pfI 28 8 (1 : Int32) μ).bind fun m7 =>
              (pfI 28 14 (0 : Int32) m7).bind fun m9 =>
              some (m9, (-1 : Int32))
      else
        (f139 (μ.1 28 9) μ).bind fun r11 =>
        (pfI 28 8 (1 : Int32) r11).bind fun m13 =>
        some (m13, (-1 : Int32))
    else
      c145_8 p2 μ
  else
    c145_8 p2 μ
theorem ok145 {L : Nat} (p1 : Int32) (p2 : Int32) (μ : Mem) (res : Mem × Int32) (h : f145 p1 p2 μ = some res) : Mx 145 [.ref 28, .int p1, .int p2] (mk L μ) (mk L res.1, some (.int res.2)) := by
  refine Mx_of ml_145 (by rw [mx_145]; exact Nat.le_of_ble_eq_true rfl) ?_
  show Sx 145 0 [(0, .ref 28), (1, .int p1), (2, .int p2)] [] 0 0 (mk L μ) _
  unfold f145 at h
  refine sx_iload_n (i := 2) k145_0 rfl rfl ?_
  by_cases hb1 : p2 = 0
  · rw [if_pos hb1] at h
    refine sx_if_ne (tgt := 8) k145_1 (by decide) (fun q => absurd hb1 q) (fun _ => ?_)
    refine sx_iload_n (i := 1) k145_4 rfl rfl ?_
    by_cases hb2 : p1 = 0
    · rw [if_pos hb2] at h
      refine sx_if_eq (tgt := 30) k145_5 (by decide) (fun _ => ?_) (fun q => absurd hb2 q)
      refine sx_aload_n (i := 0) k145_30 rfl rfl ?_
      refine cx_getI (k := 9) k145_31 ow_145 fl_7_135 (by decide) sk_28 ft_6_9 ?_
      refine sx_aload_n (i := 0) k145_34 rfl rfl ?_
      refine cx_getI (k := 10) k145_35 ow_145 fl_7_121 (by decide) sk_28 ft_6_10 ?_
      by_cases hb3 : (μ.1 28 9) = (μ.1 28 10)
      · rw [if_pos hb3] at h
        refine sx_icmp_eq (tgt := 56) k145_38 (by decide) (fun _ => ?_) (fun q => absurd hb3 q)
        refine sx_aload_n (i := 0) k145_56 rfl rfl ?_
        refine cx_getI (k := 8) k145_57 ow_145 fl_7_43 (by decide) sk_28 ft_6_8 ?_
        refine sx_iconst (v := 1) k145_60 (by decide) ?_
        by_cases hb4 : (μ.1 28 8) = (1 : Int32)
        · rw [if_pos hb4] at h
          refine sx_icmp_ne (tgt := 66) k145_61 (by decide) (fun q => absurd hb4 q) (fun _ => ?_)
          refine sx_iconst (v := 0) k145_64 (by decide) ?_
          exact cx_reti k145_65 rt_145 h
        · rw [if_neg hb4] at h
          refine sx_icmp_ne (tgt := 66) k145_61 (by decide) (fun _ => ?_) (fun q => absurd q hb4)
          refine sx_aload_n (i := 0) k145_66 rfl rfl ?_
          refine cx_getI (k := 8) k145_67 ow_145 fl_7_43 (by decide) sk_28 ft_6_8 ?_
          refine sx_iconst (v := 2) k145_70 (by decide) ?_
          by_cases hb5 : (μ.1 28 8) = (2 : Int32)
          · rw [if_pos hb5] at h
            refine sx_icmp_eq (tgt := 82) k145_71 (by decide) (fun _ => ?_) (fun q => absurd hb5 q)
            refine sx_iconst (v := 3) k145_82 (by decide) ?_
            exact cx_reti k145_83 rt_145 h
          · rw [if_neg hb5] at h
            refine sx_icmp_eq (tgt := 82) k145_71 (by decide) (fun q => absurd q hb5) (fun _ => ?_)
            refine sx_aload_n (i := 0) k145_74 rfl rfl ?_
            refine cx_getI (k := 8) k145_75 ow_145 fl_7_43 (by decide) sk_28 ft_6_8 ?_
            refine sx_iconst (v := 3) k145_78 (by decide) ?_
            by_cases hb6 : (μ.1 28 8) = (3 : Int32)
            · rw [if_pos hb6] at h
              refine sx_icmp_ne (tgt := 84) k145_79 (by decide) (fun q => absurd hb6 q) (fun _ => ?_)
              refine sx_iconst (v := 3) k145_82 (by decide) ?_
              exact cx_reti k145_83 rt_145 h
            · rw [if_neg hb6] at h
              refine sx_icmp_ne (tgt := 84) k145_79 (by decide) (fun _ => ?_) (fun q => absurd q hb6)
              refine sx_aload_n (i := 0) k145_84 rfl rfl ?_
              refine sx_iconst (v := 1) k145_85 (by decide) ?_
              obtain ⟨m7, e8, h⟩ := Option.bind_eq_some_iff.mp h
              refine cx_putI (k := 8) k145_86 ow_145 fl_7_43 (by decide) sk_28 nf_6_8 fu_6_8 e8 ?_
              refine sx_aload_n (i := 0) k145_89 rfl rfl ?_
              refine sx_iconst (v := 0) k145_90 (by decide) ?_
              obtain ⟨m9, e10, h⟩ := Option.bind_eq_some_iff.mp h
              refine cx_putI (k := 14) k145_91 ow_145 fl_7_143 (by decide) sk_28 nf_6_14 fu_6_14 e10 ?_
              refine sx_iconst (v := -1) k145_94 (by decide) ?_
              exact cx_reti k145_95 rt_145 h
      · rw [if_neg hb3] at h
        refine sx_icmp_eq (tgt := 56) k145_38 (by decide) (fun q => absurd q hb3) (fun _ => ?_)
        refine sx_aload_n (i := 0) k145_41 rfl rfl ?_
        refine sx_aload_n (i := 0) k145_42 rfl rfl ?_
        refine cx_getI (k := 9) k145_43 ow_145 fl_7_135 (by decide) sk_28 ft_6_9 ?_
        obtain ⟨r11, e12, h⟩ := Option.bind_eq_some_iff.mp h
        refine cx_V (sk := []) (vs := [.int (μ.1 28 9)]) st_145_139 k145_46 ow_145 cl_7_178 (by decide) rfl (Nat.le_of_ble_eq_true rfl) sk_28 (ok139 (μ.1 28 9) _ _ e12) (sk3 := []) rfl rfl ?_
        refine sx_aload_n (i := 0) k145_49 rfl rfl ?_
        refine sx_iconst (v := 1) k145_50 (by decide) ?_
        obtain ⟨m13, e14, h⟩ := Option.bind_eq_some_iff.mp h
        refine cx_putI (k := 8) k145_51 ow_145 fl_7_43 (by decide) sk_28 nf_6_8 fu_6_8 e14 ?_
        refine sx_iconst (v := -1) k145_54 (by decide) ?_
        exact cx_reti k145_55 rt_145 h
    · rw [if_neg hb2] at h
      refine sx_if_eq (tgt := 30) k145_5 (by decide) (fun q => absurd q hb2) (fun _ => ?_)
      refine sx_pick (lo2 := [(0, .ref 28), (2, .int p2)]) [0, 2] rfl ?_
      exact c145_8_ok p2 _ _ h
  · rw [if_neg hb1] at h
    refine sx_if_ne (tgt := 8) k145_1 (by decide) (fun _ => ?_) (fun q => absurd q hb1)
    refine sx_pick (lo2 := [(0, .ref 28), (2, .int p2)]) [0, 2] rfl ?_
    exact c145_8_ok p2 _ _ h
theorem k147_0 : decode (gb 147) 0 = .ok (.iload_n 1, 1) := by decide +kernel
theorem k147_1 : decode (gb 147) 1 = .ok (.aload_n 0, 1) := by decide +kernel
theorem k147_2 : decode (gb 147) 2 = .ok (.getfield 121, 3) := by decide +kernel
theorem k147_5 : decode (gb 147) 5 = .ok (.if_icmp .eq 7, 3) := by decide +kernel
theorem k147_8 : decode (gb 147) 8 = .ok (.iconst 1, 1) := by decide +kernel
theorem k147_9 : decode (gb 147) 9 = .ok (.goto 4, 3) := by decide +kernel
theorem k147_12 : decode (gb 147) 12 = .ok (.iconst 0, 1) := by decide +kernel
theorem k147_13 : decode (gb 147) 13 = .ok (.istore_n 3, 1) := by decide +kernel
theorem k147_14 : decode (gb 147) 14 = .ok (.iload_n 3, 1) := by decide +kernel
theorem k147_15 : decode (gb 147) 15 = .ok (.ifCond .eq 8, 3) := by decide +kernel
theorem k147_18 : decode (gb 147) 18 = .ok (.aload_n 0, 1) := by decide +kernel
theorem k147_19 : decode (gb 147) 19 = .ok (.iload_n 1, 1) := by decide +kernel
theorem k147_20 : decode (gb 147) 20 = .ok (.invokevirtual 178, 3) := by decide +kernel
theorem k147_23 : decode (gb 147) 23 = .ok (.aload_n 0, 1) := by decide +kernel
theorem k147_24 : decode (gb 147) 24 = .ok (.getfield 50, 3) := by decide +kernel
theorem k147_27 : decode (gb 147) 27 = .ok (.iconst 1, 1) := by decide +kernel
theorem k147_28 : decode (gb 147) 28 = .ok (.if_icmp .ne 5, 3) := by decide +kernel
theorem k147_31 : decode (gb 147) 31 = .ok (.iconst 5, 1) := by decide +kernel
theorem k147_32 : decode (gb 147) 32 = .ok (.ireturn, 1) := by decide +kernel
theorem k147_33 : decode (gb 147) 33 = .ok (.iload_n 2, 1) := by decide +kernel
theorem k147_34 : decode (gb 147) 34 = .ok (.ifCond .eq 10, 3) := by decide +kernel
theorem k147_37 : decode (gb 147) 37 = .ok (.aload_n 0, 1) := by decide +kernel
theorem k147_38 : decode (gb 147) 38 = .ok (.iconst 3, 1) := by decide +kernel
theorem k147_39 : decode (gb 147) 39 = .ok (.putfield 43, 3) := by decide +kernel
theorem k147_42 : decode (gb 147) 42 = .ok (.iconst 0, 1) := by decide +kernel
theorem k147_43 : decode (gb 147) 43 = .ok (.ireturn, 1) := by decide +kernel
theorem k147_44 : decode (gb 147) 44 = .ok (.iload_n 3, 1) := by decide +kernel
theorem k147_45 : decode (gb 147) 45 = .ok (.ifCond .ne 21, 3) := by decide +kernel
theorem k147_48 : decode (gb 147) 48 = .ok (.aload_n 0, 1) := by decide +kernel
theorem k147_49 : decode (gb 147) 49 = .ok (.getfield 47, 3) := by decide +kernel
theorem k147_52 : decode (gb 147) 52 = .ok (.aload_n 0, 1) := by decide +kernel
theorem k147_53 : decode (gb 147) 53 = .ok (.getfield 50, 3) := by decide +kernel
theorem k147_56 : decode (gb 147) 56 = .ok (.if_icmp .lt 10, 3) := by decide +kernel
theorem k147_59 : decode (gb 147) 59 = .ok (.aload_n 0, 1) := by decide +kernel
theorem k147_60 : decode (gb 147) 60 = .ok (.iconst 2, 1) := by decide +kernel
theorem k147_61 : decode (gb 147) 61 = .ok (.putfield 43, 3) := by decide +kernel
theorem k147_64 : decode (gb 147) 64 = .ok (.iconst 0, 1) := by decide +kernel
theorem k147_65 : decode (gb 147) 65 = .ok (.ireturn, 1) := by decide +kernel
theorem k147_66 : decode (gb 147) 66 = .ok (.iload_n 3, 1) := by decide +kernel
theorem k147_67 : decode (gb 147) 67 = .ok (.ifCond .ne 13, 3) := by decide +kernel
theorem k147_70 : decode (gb 147) 70 = .ok (.aload_n 0, 1) := by decide +kernel
theorem k147_71 : decode (gb 147) 71 = .ok (.getfield 43, 3) := by decide +kernel
theorem k147_74 : decode (gb 147) 74 = .ok (.iconst 2, 1) := by decide +kernel
theorem k147_75 : decode (gb 147) 75 = .ok (.if_icmp .ne 5, 3) := by decide +kernel
theorem k147_78 : decode (gb 147) 78 = .ok (.iconst 0, 1) := by decide +kernel
theorem k147_79 : decode (gb 147) 79 = .ok (.ireturn, 1) := by decide +kernel
theorem k147_80 : decode (gb 147) 80 = .ok (.aload_n 0, 1) := by decide +kernel
theorem k147_81 : decode (gb 147) 81 = .ok (.invokevirtual 181, 3) := by decide +kernel
theorem k147_84 : decode (gb 147) 84 = .ok (.aload_n 0, 1) := by decide +kernel
theorem k147_85 : decode (gb 147) 85 = .ok (.iconst 2, 1) := by decide +kernel
theorem k147_86 : decode (gb 147) 86 = .ok (.putfield 43, 3) := by decide +kernel
theorem k147_89 : decode (gb 147) 89 = .ok (.iconst (-1), 1) := by decide +kernel
theorem k147_90 : decode (gb 147) 90 = .ok (.ireturn, 1) := by decide +kernel
def c147_80 (μ : Mem) : Option (Mem × Int32) :=
  (f138 μ).bind fun r1 =>
  (pfI 28 8 (2 : Int32) r1).bind fun m3 =>
  some (m3, (-1 : Int32))
theorem c147_80_ok {L : Nat} (μ : Mem) (res : Mem × Int32) (h : c147_80 μ = some res) : Sx 147 80 [(0, .ref 28)] [] 0 0 (mk L μ) (mk L res.1, some (.int res.2)) := by
  unfold c147_80 at h
  refine sx_aload_n (i := 0) k147_80 rfl rfl ?_
  obtain ⟨r1, e2, h⟩ := Option.bind_eq_some_iff.mp h
  refine cx_V (sk := []) (vs := []) st_147_138 k147_81 ow_147 cl_7_181 (by decide) rfl (Nat.le_of_ble_eq_true rfl) sk_28 (ok138 _ _ e2) (sk3 := []) rfl rfl ?_
  refine sx_aload_n (i := 0) k147_84 rfl rfl ?_
  refine sx_iconst (v := 2) k147_85 (by decide) ?_
  obtain ⟨m3, e4, h⟩ := Option.bind_eq_some_iff.mp h
  refine cx_putI (k := 8) k147_86 ow_147 fl_7_43 (by decide) sk_28 nf_6_8 fu_6_8 e4 ?_
  refine sx_iconst (v := -1) k147_89 (by decide) ?_
  exact cx_reti k147_90 rt_147 h
def c147_66 (v3 : Int32) (μ : Mem) : Option (Mem × Int32) :=
  if v3 = 0 then
    if (μ.1 28 8) = (2 : Int32) then
      some (μ, (0 : Int32))
    else
      c147_80 μ
  else
    c147_80 μ
theorem c147_66_ok {L : Nat} (v3 : Int32) (μ : Mem) (res : Mem × Int32) (h : c147_66 v3 μ = some res) : Sx 147 66 [(0, .ref 28), (3, .int v3)] [] 0 0 (mk L μ) (mk L res.1, some (.int res.2)) := by
  unfold c147_66 at h
  refine sx_iload_n (i := 3) k147_66 rfl rfl ?_
  by_cases hb1 : v3 = 0
  · rw [if_pos hb1] at h
    refine sx_if_ne (tgt := 80) k147_67 (by decide) (fun q => absurd hb1 q) (fun _ => ?_)
    refine sx_aload_n (i := 0) k147_70 rfl rfl ?_
    refine cx_getI (k := 8) k147_71 ow_147 fl_7_43 (by decide) sk_28 ft_6_8 ?_
    refine sx_iconst (v := 2) k147_74 (by decide) ?_
    by_cases hb2 : (μ.1 28 8) = (2 : Int32)
    · rw [if_pos hb2] at h
      refine sx_icmp_ne (tgt := 80) k147_75 (by decide) (fun q => absurd hb2 q) (fun _ => ?_)
      refine sx_iconst (v := 0) k147_78 (by decide) ?_
      exact cx_reti k147_79 rt_147 h
    · rw [if_neg hb2] at h
      refine sx_icmp_ne (tgt := 80) k147_75 (by decide) (fun _ => ?_) (fun q => absurd q hb2)
      refine sx_pick (lo2 := [(0, .ref 28)]) [0] rfl ?_
      exact c147_80_ok _ _ h
  · rw [if_neg hb1] at h
    refine sx_if_ne (tgt := 80) k147_67 (by decide) (fun _ => ?_) (fun q => absurd q hb1)
    refine sx_pick (lo2 := [(0, .ref 28)]) [0] rfl ?_
    exact c147_80_ok _ _ h
def c147_23 (v2 : Int32) (v3 : Int32) (μ : Mem) : Option (Mem × Int32) :=
  if (μ.1 28 12) = (1 : Int32) then
    some (μ, (5 : Int32))
  else
    if v2 = 0 then
      if v3 = 0 then
        if (μ.1 28 11) < (μ.1 28 12) then
          c147_66 v3 μ
        else
          (pfI 28 8 (2 : Int32) μ).bind fun m5 =>
          some (m5, (0 : Int32))
      else
        c147_66 v3 μ
    else
      (pfI 28 8 (3 : Int32) μ).bind fun m7 =>
      some (m7, (0 : Int32))
theorem c147_23_ok {L : Nat} (v2 : Int32) (v3 : Int32) (μ : Mem) (res : Mem × Int32) (h : c147_23 v2 v3 μ = some res) : Sx 147 23 [(0, .ref 28), (2, .int v2), (3, .int v3)] [] 0 0 (mk L μ) (mk L res.1, some (.int res.2)) := by
  unfold c147_23 at h
  refine sx_aload_n (i := 0) k147_23 rfl rfl ?_
  refine cx_getI (k := 12) k147_24 ow_147 fl_7_50 (by decide) sk_28 ft_6_12 ?_
  refine sx_iconst (v := 1) k147_27 (by decide) ?_
  by_cases hb1 : (μ.1 28 12) = (1 : Int32)
  · rw [if_pos hb1] at h
    refine sx_icmp_ne (tgt := 33) k147_28 (by decide) (fun q => absurd hb1 q) (fun _ => ?_)
    refine sx_iconst (v := 5) k147_31 (by decide) ?_
    exact cx_reti k147_32 rt_147 h
  · rw [if_neg hb1] at h
    refine sx_icmp_ne (tgt := 33) k147_28 (by decide) (fun _ => ?_) (fun q => absurd q hb1)
    refine sx_iload_n (i := 2) k147_33 rfl rfl ?_
    by_cases hb2 : v2 = 0
    · rw [if_pos hb2] at h
      refine sx_if_eq (tgt := 44) k147_34 (by decide) (fun _ => ?_) (fun q => absurd hb2 q)
      refine sx_iload_n (i := 3) k147_44 rfl rfl ?_
      by_cases hb3 : v3 = 0
      · rw [if_pos hb3] at h
        refine sx_if_ne (tgt := 66) k147_45 (by decide) (fun q => absurd hb3 q) (fun _ => ?_)
        refine sx_aload_n (i := 0) k147_48 rfl rfl ?_
        refine cx_getI (k := 11) k147_49 ow_147 fl_7_47 (by decide) sk_28 ft_6_11 ?_
        refine sx_aload_n (i := 0) k147_52 rfl rfl ?_
        refine cx_getI (k := 12) k147_53 ow_147 fl_7_50 (by decide) sk_28 ft_6_12 ?_
        by_cases hb4 : (μ.1 28 11) < (μ.1 28 12)
        · rw [if_pos hb4] at h
          refine sx_icmp_lt (tgt := 66) k147_56 (by decide) (fun _ => ?_) (fun q => absurd hb4 q)
          refine sx_pick (lo2 := [(0, .ref 28), (3, .int v3)]) [0, 2] rfl ?_
          exact c147_66_ok v3 _ _ h
        · rw [if_neg hb4] at h
          refine sx_icmp_lt (tgt := 66) k147_56 (by decide) (fun q => absurd q hb4) (fun _ => ?_)
          refine sx_aload_n (i := 0) k147_59 rfl rfl ?_
          refine sx_iconst (v := 2) k147_60 (by decide) ?_
          obtain ⟨m5, e6, h⟩ := Option.bind_eq_some_iff.mp h
          refine cx_putI (k := 8) k147_61 ow_147 fl_7_43 (by decide) sk_28 nf_6_8 fu_6_8 e6 ?_
          refine sx_iconst (v := 0) k147_64 (by decide) ?_
          exact cx_reti k147_65 rt_147 h
      · rw [if_neg hb3] at h
        refine sx_if_ne (tgt := 66) k147_45 (by decide) (fun _ => ?_) (fun q => absurd q hb3)
        refine sx_pick (lo2 := [(0, .ref 28), (3, .int v3)]) [0, 2] rfl ?_
        exact c147_66_ok v3 _ _ h
    · rw [if_neg hb2] at h
      refine sx_if_eq (tgt := 44) k147_34 (by decide) (fun q => absurd q hb2) (fun _ => ?_)
      refine sx_aload_n (i := 0) k147_37 rfl rfl ?_
      refine sx_iconst (v := 3) k147_38 (by decide) ?_
      obtain ⟨m7, e8, h⟩ := Option.bind_eq_some_iff.mp h
      refine cx_putI (k := 8) k147_39 ow_147 fl_7_43 (by decide) sk_28 nf_6_8 fu_6_8 e8 ?_
      refine sx_iconst (v := 0) k147_42 (by decide) ?_
      exact cx_reti k147_43 rt_147 h
def c147_13 (v1 : Int32) (v2 : Int32) (s0 : Int32) (μ : Mem) : Option (Mem × Int32) :=
  if s0 = 0 then
    c147_23 v2 s0 μ
  else
    (f139 v1 μ).bind fun r2 =>
    c147_23 v2 s0 r2
theorem c147_13_ok {L : Nat} (v1 : Int32) (v2 : Int32) (s0 : Int32) (μ : Mem) (res : Mem × Int32) (h : c147_13 v1 v2 s0 μ = some res) : Sx 147 13 [(0, .ref 28), (1, .int v1), (2, .int v2)] [.int s0] 0 0 (mk L μ) (mk L res.1, some (.int res.2)) := by
  unfold c147_13 at h
  refine cx_istore_n (lo2 := [(3, .int s0), (0, .ref 28), (1, .int v1), (2, .int v2)]) k147_13 rfl (by rw [mx_147]; decide) rfl ?_
  refine sx_iload_n (i := 3) k147_14 rfl rfl ?_
  by_cases hb1 : s0 = 0
  · rw [if_pos hb1] at h
    refine sx_if_eq (tgt := 23) k147_15 (by decide) (fun _ => ?_) (fun q => absurd hb1 q)
    refine sx_pick (lo2 := [(0, .ref 28), (2, .int v2), (3, .int s0)]) [1, 3, 0] rfl ?_
    exact c147_23_ok v2 s0 _ _ h
  · rw [if_neg hb1] at h
    refine sx_if_eq (tgt := 23) k147_15 (by decide) (fun q => absurd q hb1) (fun _ => ?_)
    refine sx_aload_n (i := 0) k147_18 rfl rfl ?_
    refine sx_iload_n (i := 1) k147_19 rfl rfl ?_
    obtain ⟨r2, e3, h⟩ := Option.bind_eq_some_iff.mp h
    refine cx_V (sk := []) (vs := [.int v1]) st_147_139 k147_20 ow_147 cl_7_178 (by decide) rfl (Nat.le_of_ble_eq_true rfl) sk_28 (ok139 v1 _ _ e3) (sk3 := []) rfl rfl ?_
    refine sx_pick (lo2 := [(0, .ref 28), (2, .int v2), (3, .int s0)]) [1, 3, 0] rfl ?_
    exact c147_23_ok v2 s0 _ _ h
/-- Sender.judgeAgain(IZ)I -/
def f147 (p1 : Int32) (p2 : Int32) (μ : Mem) : Option (Mem × Int32) :=
  if p1 = (μ.1 28 10) then
    c147_13 p1 p2 (0 : Int32) μ
  else
    c147_13 p1 p2 (1 : Int32) μ
theorem ok147 {L : Nat} (p1 : Int32) (p2 : Int32) (μ : Mem) (res : Mem × Int32) (h : f147 p1 p2 μ = some res) : Mx 147 [.ref 28, .int p1, .int p2] (mk L μ) (mk L res.1, some (.int res.2)) := by
  refine Mx_of ml_147 (by rw [mx_147]; exact Nat.le_of_ble_eq_true rfl) ?_
  show Sx 147 0 [(0, .ref 28), (1, .int p1), (2, .int p2)] [] 0 0 (mk L μ) _
  unfold f147 at h
  refine sx_iload_n (i := 1) k147_0 rfl rfl ?_
  refine sx_aload_n (i := 0) k147_1 rfl rfl ?_
  refine cx_getI (k := 10) k147_2 ow_147 fl_7_121 (by decide) sk_28 ft_6_10 ?_
  by_cases hb1 : p1 = (μ.1 28 10)
  · rw [if_pos hb1] at h
    refine sx_icmp_eq (tgt := 12) k147_5 (by decide) (fun _ => ?_) (fun q => absurd hb1 q)
    refine sx_iconst (v := 0) k147_12 (by decide) ?_
    refine sx_pick (lo2 := [(0, .ref 28), (1, .int p1), (2, .int p2)]) [0, 1, 2] rfl ?_
    exact c147_13_ok p1 p2 (0 : Int32) _ _ h
  · rw [if_neg hb1] at h
    refine sx_icmp_eq (tgt := 12) k147_5 (by decide) (fun q => absurd q hb1) (fun _ => ?_)
    refine sx_iconst (v := 1) k147_8 (by decide) ?_
    refine sx_goto (tgt := 13) k147_9 (by decide) ?_
    refine sx_pick (lo2 := [(0, .ref 28), (1, .int p1), (2, .int p2)]) [0, 1, 2] rfl ?_
    exact c147_13_ok p1 p2 (1 : Int32) _ _ h
theorem k146_0 : decode (gb 146) 0 = .ok (.iload_n 2, 1) := by decide +kernel
theorem k146_1 : decode (gb 146) 1 = .ok (.ifCond .eq 5, 3) := by decide +kernel
theorem k146_4 : decode (gb 146) 4 = .ok (.iconst 4, 1) := by decide +kernel
theorem k146_5 : decode (gb 146) 5 = .ok (.ireturn, 1) := by decide +kernel
theorem k146_6 : decode (gb 146) 6 = .ok (.iload_n 1, 1) := by decide +kernel
theorem k146_7 : decode (gb 146) 7 = .ok (.aload_n 0, 1) := by decide +kernel
theorem k146_8 : decode (gb 146) 8 = .ok (.getfield 121, 3) := by decide +kernel
theorem k146_11 : decode (gb 146) 11 = .ok (.if_icmp .ne 17, 3) := by decide +kernel
theorem k146_14 : decode (gb 146) 14 = .ok (.aload_n 0, 1) := by decide +kernel
theorem k146_15 : decode (gb 146) 15 = .ok (.getfield 43, 3) := by decide +kernel
theorem k146_18 : decode (gb 146) 18 = .ok (.iconst 1, 1) := by decide +kernel
theorem k146_19 : decode (gb 146) 19 = .ok (.if_icmp .ne 7, 3) := by decide +kernel
theorem k146_22 : decode (gb 146) 22 = .ok (.iconst 0, 1) := by decide +kernel
theorem k146_23 : decode (gb 146) 23 = .ok (.goto 4, 3) := by decide +kernel
theorem k146_26 : decode (gb 146) 26 = .ok (.iconst 3, 1) := by decide +kernel
theorem k146_27 : decode (gb 146) 27 = .ok (.ireturn, 1) := by decide +kernel
theorem k146_28 : decode (gb 146) 28 = .ok (.aload_n 0, 1) := by decide +kernel
theorem k146_29 : decode (gb 146) 29 = .ok (.iload_n 1, 1) := by decide +kernel
theorem k146_30 : decode (gb 146) 30 = .ok (.invokevirtual 178, 3) := by decide +kernel
theorem k146_33 : decode (gb 146) 33 = .ok (.aload_n 0, 1) := by decide +kernel
theorem k146_34 : decode (gb 146) 34 = .ok (.iconst 1, 1) := by decide +kernel
theorem k146_35 : decode (gb 146) 35 = .ok (.putfield 43, 3) := by decide +kernel
theorem k146_38 : decode (gb 146) 38 = .ok (.iconst (-1), 1) := by decide +kernel
theorem k146_39 : decode (gb 146) 39 = .ok (.ireturn, 1) := by decide +kernel
/-- Sender.judgeSome(IZ)I -/
def f146 (p1 : Int32) (p2 : Int32) (μ : Mem) : Option (Mem × Int32) :=
  if p2 = 0 then
    if p1 = (μ.1 28 10) then
      if (μ.1 28 8) = (1 : Int32) then
        some (μ, (0 : Int32))
      else
        some (μ, (3 : Int32))
    else
      (f139 p1 μ).bind fun r3 =>
      (pfI 28 8 (1 : Int32) r3).bind fun m5 =>
      some (m5, (-1 : Int32))
  else
    some (μ, (4 : Int32))
theorem ok146 {L : Nat} (p1 : Int32) (p2 : Int32) (μ : Mem) (res : Mem × Int32) (h : f146 p1 p2 μ = some res) : Mx 146 [.ref 28, .int p1, .int p2] (mk L μ) (mk L res.1, some (.int res.2)) := by
  refine Mx_of ml_146 (by rw [mx_146]; exact Nat.le_of_ble_eq_true rfl) ?_
  show Sx 146 0 [(0, .ref 28), (1, .int p1), (2, .int p2)] [] 0 0 (mk L μ) _
  unfold f146 at h
  refine sx_iload_n (i := 2) k146_0 rfl rfl ?_
  by_cases hb1 : p2 = 0
  · rw [if_pos hb1] at h
    refine sx_if_eq (tgt := 6) k146_1 (by decide) (fun _ => ?_) (fun q => absurd hb1 q)
    refine sx_iload_n (i := 1) k146_6 rfl rfl ?_
    refine sx_aload_n (i := 0) k146_7 rfl rfl ?_
    refine cx_getI (k := 10) k146_8 ow_146 fl_7_121 (by decide) sk_28 ft_6_10 ?_
    by_cases hb2 : p1 = (μ.1 28 10)
    · rw [if_pos hb2] at h
      refine sx_icmp_ne (tgt := 28) k146_11 (by decide) (fun q => absurd hb2 q) (fun _ => ?_)
      refine sx_aload_n (i := 0) k146_14 rfl rfl ?_
      refine cx_getI (k := 8) k146_15 ow_146 fl_7_43 (by decide) sk_28 ft_6_8 ?_
      refine sx_iconst (v := 1) k146_18 (by decide) ?_
      by_cases hb7 : (μ.1 28 8) = (1 : Int32)
      · rw [if_pos hb7] at h
        refine sx_icmp_ne (tgt := 26) k146_19 (by decide) (fun q => absurd hb7 q) (fun _ => ?_)
        refine sx_iconst (v := 0) k146_22 (by decide) ?_
        refine sx_goto (tgt := 27) k146_23 (by decide) ?_
        exact cx_reti k146_27 rt_146 h
      · rw [if_neg hb7] at h
        refine sx_icmp_ne (tgt := 26) k146_19 (by decide) (fun _ => ?_) (fun q => absurd q hb7)
        refine sx_iconst (v := 3) k146_26 (by decide) ?_
        exact cx_reti k146_27 rt_146 h
    · rw [if_neg hb2] at h
      refine sx_icmp_ne (tgt := 28) k146_11 (by decide) (fun _ => ?_) (fun q => absurd q hb2)
      refine sx_aload_n (i := 0) k146_28 rfl rfl ?_
      refine sx_iload_n (i := 1) k146_29 rfl rfl ?_
      obtain ⟨r3, e4, h⟩ := Option.bind_eq_some_iff.mp h
      refine cx_V (sk := []) (vs := [.int p1]) st_146_139 k146_30 ow_146 cl_7_178 (by decide) rfl (Nat.le_of_ble_eq_true rfl) sk_28 (ok139 p1 _ _ e4) (sk3 := []) rfl rfl ?_
      refine sx_aload_n (i := 0) k146_33 rfl rfl ?_
      refine sx_iconst (v := 1) k146_34 (by decide) ?_
      obtain ⟨m5, e6, h⟩ := Option.bind_eq_some_iff.mp h
      refine cx_putI (k := 8) k146_35 ow_146 fl_7_43 (by decide) sk_28 nf_6_8 fu_6_8 e6 ?_
      refine sx_iconst (v := -1) k146_38 (by decide) ?_
      exact cx_reti k146_39 rt_146 h
  · rw [if_neg hb1] at h
    refine sx_if_eq (tgt := 6) k146_1 (by decide) (fun q => absurd q hb1) (fun _ => ?_)
    refine sx_iconst (v := 4) k146_4 (by decide) ?_
    exact cx_reti k146_5 rt_146 h
theorem k144_0 : decode (gb 144) 0 = .ok (.iload_n 1, 1) := by decide +kernel
theorem k144_1 : decode (gb 144) 1 = .ok (.ifCond .eq 17, 3) := by decide +kernel
theorem k144_4 : decode (gb 144) 4 = .ok (.aload_n 0, 1) := by decide +kernel
theorem k144_5 : decode (gb 144) 5 = .ok (.getfield 43, 3) := by decide +kernel
theorem k144_8 : decode (gb 144) 8 = .ok (.iconst 5, 1) := by decide +kernel
theorem k144_9 : decode (gb 144) 9 = .ok (.if_icmp .ne 7, 3) := by decide +kernel
theorem k144_12 : decode (gb 144) 12 = .ok (.iconst 0, 1) := by decide +kernel
theorem k144_13 : decode (gb 144) 13 = .ok (.goto 4, 3) := by decide +kernel
theorem k144_16 : decode (gb 144) 16 = .ok (.iconst 1, 1) := by decide +kernel
theorem k144_17 : decode (gb 144) 17 = .ok (.ireturn, 1) := by decide +kernel
theorem k144_18 : decode (gb 144) 18 = .ok (.iload 4, 2) := by decide +kernel
theorem k144_20 : decode (gb 144) 20 = .ok (.aload_n 0, 1) := by decide +kernel
theorem k144_21 : decode (gb 144) 21 = .ok (.getfield 121, 3) := by decide +kernel
theorem k144_24 : decode (gb 144) 24 = .ok (.isub, 1) := by decide +kernel
theorem k144_25 : decode (gb 144) 25 = .ok (.sipush 255, 3) := by decide +kernel
theorem k144_28 : decode (gb 144) 28 = .ok (.iand, 1) := by decide +kernel
theorem k144_29 : decode (gb 144) 29 = .ok (.aload_n 0, 1) := by decide +kernel
theorem k144_30 : decode (gb 144) 30 = .ok (.getfield 135, 3) := by decide +kernel
theorem k144_33 : decode (gb 144) 33 = .ok (.aload_n 0, 1) := by decide +kernel
theorem k144_34 : decode (gb 144) 34 = .ok (.getfield 121, 3) := by decide +kernel
theorem k144_37 : decode (gb 144) 37 = .ok (.isub, 1) := by decide +kernel
theorem k144_38 : decode (gb 144) 38 = .ok (.sipush 255, 3) := by decide +kernel
theorem k144_41 : decode (gb 144) 41 = .ok (.iand, 1) := by decide +kernel
theorem k144_42 : decode (gb 144) 42 = .ok (.if_icmp .le 5, 3) := by decide +kernel
theorem k144_45 : decode (gb 144) 45 = .ok (.iconst 2, 1) := by decide +kernel
theorem k144_46 : decode (gb 144) 46 = .ok (.ireturn, 1) := by decide +kernel
theorem k144_47 : decode (gb 144) 47 = .ok (.iload 4, 2) := by decide +kernel
theorem k144_49 : decode (gb 144) 49 = .ok (.aload_n 0, 1) := by decide +kernel
theorem k144_50 : decode (gb 144) 50 = .ok (.getfield 135, 3) := by decide +kernel
theorem k144_53 : decode (gb 144) 53 = .ok (.if_icmp .ne 10, 3) := by decide +kernel
theorem k144_56 : decode (gb 144) 56 = .ok (.aload_n 0, 1) := by decide +kernel
theorem k144_57 : decode (gb 144) 57 = .ok (.iload_n 2, 1) := by decide +kernel
theorem k144_58 : decode (gb 144) 58 = .ok (.iload_n 3, 1) := by decide +kernel
theorem k144_59 : decode (gb 144) 59 = .ok (.invokevirtual 167, 3) := by decide +kernel
theorem k144_62 : decode (gb 144) 62 = .ok (.ireturn, 1) := by decide +kernel
theorem k144_63 : decode (gb 144) 63 = .ok (.iload_n 3, 1) := by decide +kernel
theorem k144_64 : decode (gb 144) 64 = .ok (.ifCond .eq 13, 3) := by decide +kernel
theorem k144_67 : decode (gb 144) 67 = .ok (.aload_n 0, 1) := by decide +kernel
theorem k144_68 : decode (gb 144) 68 = .ok (.iload 4, 2) := by decide +kernel
theorem k144_70 : decode (gb 144) 70 = .ok (.iload_n 2, 1) := by decide +kernel
theorem k144_71 : decode (gb 144) 71 = .ok (.invokevirtual 171, 3) := by decide +kernel
theorem k144_74 : decode (gb 144) 74 = .ok (.goto 10, 3) := by decide +kernel
theorem k144_77 : decode (gb 144) 77 = .ok (.aload_n 0, 1) := by decide +kernel
theorem k144_78 : decode (gb 144) 78 = .ok (.iload 4, 2) := by decide +kernel
theorem k144_80 : decode (gb 144) 80 = .ok (.iload_n 2, 1) := by decide +kernel
theorem k144_81 : decode (gb 144) 81 = .ok (.invokevirtual 175, 3) := by decide +kernel
theorem k144_84 : decode (gb 144) 84 = .ok (.ireturn, 1) := by decide +kernel
/-- Sender.judge(ZZZI)I -/
def f144 (p1 : Int32) (p2 : Int32) (p3 : Int32) (p4 : Int32) (μ : Mem) : Option (Mem × Int32) :=
  if p1 = 0 then
    if ((p4 - (μ.1 28 10)) &&& (255 : Int32)) ≤ (((μ.1 28 9) - (μ.1 28 10)) &&& (255 : Int32)) then
      if p4 = (μ.1 28 9) then
        (f145 p2 p3 μ).bind fun r9 =>
        some (r9.1, r9.2)
      else
        if p3 = 0 then
          (f146 p4 p2 μ).bind fun r5 =>
          some (r5.1, r5.2)
        else
          (f147 p4 p2 μ).bind fun r7 =>
          some (r7.1, r7.2)
    else
      some (μ, (2 : Int32))
  else
    if (μ.1 28 8) = (5 : Int32) then
      some (μ, (0 : Int32))
    else
      some (μ, (1 : Int32))
theorem ok144 {L : Nat} (p1 : Int32) (p2 : Int32) (p3 : Int32) (p4 : Int32) (μ : Mem) (res : Mem × Int32) (h : f144 p1 p2 p3 p4 μ = some res) : Mx 144 [.ref 28, .int p1, .int p2, .int p3, .int p4] (mk L μ) (mk L res.1, some (.int res.2)) := by
  refine Mx_of ml_144 (by rw [mx_144]; exact Nat.le_of_ble_eq_true rfl) ?_
  show Sx 144 0 [(0, .ref 28), (1, .int p1), (2, .int p2), (3, .int p3), (4, .int p4)] [] 0 0 (mk L μ) _
  unfold f144 at h
  refine sx_iload_n (i := 1) k144_0 rfl rfl ?_
  by_cases hb1 : p1 = 0
  · rw [if_pos hb1] at h
    refine sx_if_eq (tgt := 18) k144_1 (by decide) (fun _ => ?_) (fun q => absurd hb1 q)
    refine sx_iload k144_18 rfl ?_
    refine sx_aload_n (i := 0) k144_20 rfl rfl ?_
    refine cx_getI (k := 10) k144_21 ow_144 fl_7_121 (by decide) sk_28 ft_6_10 ?_
    refine sx_isub k144_24 ?_
    refine sx_sipush (v := 255) k144_25 (by decide) ?_
    refine sx_iand k144_28 ?_
    refine sx_aload_n (i := 0) k144_29 rfl rfl ?_
    refine cx_getI (k := 9) k144_30 ow_144 fl_7_135 (by decide) sk_28 ft_6_9 ?_
    refine sx_aload_n (i := 0) k144_33 rfl rfl ?_
    refine cx_getI (k := 10) k144_34 ow_144 fl_7_121 (by decide) sk_28 ft_6_10 ?_
    refine sx_isub k144_37 ?_
    refine sx_sipush (v := 255) k144_38 (by decide) ?_
    refine sx_iand k144_41 ?_
    by_cases hb2 : ((p4 - (μ.1 28 10)) &&& (255 : Int32)) ≤ (((μ.1 28 9) - (μ.1 28 10)) &&& (255 : Int32))
    · rw [if_pos hb2] at h
      refine sx_icmp_le (tgt := 47) k144_42 (by decide) (fun _ => ?_) (fun q => absurd hb2 q)
      refine sx_iload k144_47 rfl ?_
      refine sx_aload_n (i := 0) k144_49 rfl rfl ?_
      refine cx_getI (k := 9) k144_50 ow_144 fl_7_135 (by decide) sk_28 ft_6_9 ?_
      by_cases hb3 : p4 = (μ.1 28 9)
      · rw [if_pos hb3] at h
        refine sx_icmp_ne (tgt := 63) k144_53 (by decide) (fun q => absurd hb3 q) (fun _ => ?_)
        refine sx_aload_n (i := 0) k144_56 rfl rfl ?_
        refine sx_iload_n (i := 2) k144_57 rfl rfl ?_
        refine sx_iload_n (i := 3) k144_58 rfl rfl ?_
        obtain ⟨r9, e10, h⟩ := Option.bind_eq_some_iff.mp h
        refine cx_V (sk := []) (vs := [.int p2, .int p3]) st_144_145 k144_59 ow_144 cl_7_167 (by decide) rfl (Nat.le_of_ble_eq_true rfl) sk_28 (ok145 p2 p3 _ _ e10) (sk3 := [.int r9.2]) rfl rfl ?_
        exact cx_reti k144_62 rt_144 h
      · rw [if_neg hb3] at h
        refine sx_icmp_ne (tgt := 63) k144_53 (by decide) (fun _ => ?_) (fun q => absurd q hb3)
        refine sx_iload_n (i := 3) k144_63 rfl rfl ?_
        by_cases hb4 : p3 = 0
        · rw [if_pos hb4] at h
          refine sx_if_eq (tgt := 77) k144_64 (by decide) (fun _ => ?_) (fun q => absurd hb4 q)
          refine sx_aload_n (i := 0) k144_77 rfl rfl ?_
          refine sx_iload k144_78 rfl ?_
          refine sx_iload_n (i := 2) k144_80 rfl rfl ?_
          obtain ⟨r5, e6, h⟩ := Option.bind_eq_some_iff.mp h
          refine cx_V (sk := []) (vs := [.int p4, .int p2]) st_144_146 k144_81 ow_144 cl_7_175 (by decide) rfl (Nat.le_of_ble_eq_true rfl) sk_28 (ok146 p4 p2 _ _ e6) (sk3 := [.int r5.2]) rfl rfl ?_
          exact cx_reti k144_84 rt_144 h
        · rw [if_neg hb4] at h
          refine sx_if_eq (tgt := 77) k144_64 (by decide) (fun q => absurd q hb4) (fun _ => ?_)
          refine sx_aload_n (i := 0) k144_67 rfl rfl ?_
          refine sx_iload k144_68 rfl ?_
          refine sx_iload_n (i := 2) k144_70 rfl rfl ?_
          obtain ⟨r7, e8, h⟩ := Option.bind_eq_some_iff.mp h
          refine cx_V (sk := []) (vs := [.int p4, .int p2]) st_144_147 k144_71 ow_144 cl_7_171 (by decide) rfl (Nat.le_of_ble_eq_true rfl) sk_28 (ok147 p4 p2 _ _ e8) (sk3 := [.int r7.2]) rfl rfl ?_
          refine sx_goto (tgt := 84) k144_74 (by decide) ?_
          exact cx_reti k144_84 rt_144 h
    · rw [if_neg hb2] at h
      refine sx_icmp_le (tgt := 47) k144_42 (by decide) (fun q => absurd q hb2) (fun _ => ?_)
      refine sx_iconst (v := 2) k144_45 (by decide) ?_
      exact cx_reti k144_46 rt_144 h
  · rw [if_neg hb1] at h
    refine sx_if_eq (tgt := 18) k144_1 (by decide) (fun q => absurd q hb1) (fun _ => ?_)
    refine sx_aload_n (i := 0) k144_4 rfl rfl ?_
    refine cx_getI (k := 8) k144_5 ow_144 fl_7_43 (by decide) sk_28 ft_6_8 ?_
    refine sx_iconst (v := 5) k144_8 (by decide) ?_
    by_cases hb11 : (μ.1 28 8) = (5 : Int32)
    · rw [if_pos hb11] at h
      refine sx_icmp_ne (tgt := 16) k144_9 (by decide) (fun q => absurd hb11 q) (fun _ => ?_)
      refine sx_iconst (v := 0) k144_12 (by decide) ?_
      refine sx_goto (tgt := 17) k144_13 (by decide) ?_
      exact cx_reti k144_17 rt_144 h
    · rw [if_neg hb11] at h
      refine sx_icmp_ne (tgt := 16) k144_9 (by decide) (fun _ => ?_) (fun q => absurd q hb11)
      refine sx_iconst (v := 1) k144_16 (by decide) ?_
      exact cx_reti k144_17 rt_144 h
theorem k143_0 : decode (gb 143) 0 = .ok (.aload_n 0, 1) := by decide +kernel
theorem k143_1 : decode (gb 143) 1 = .ok (.getfield 43, 3) := by decide +kernel
theorem k143_4 : decode (gb 143) 4 = .ok (.bipush 6, 2) := by decide +kernel
theorem k143_6 : decode (gb 143) 6 = .ok (.if_icmp .ne 5, 3) := by decide +kernel
theorem k143_9 : decode (gb 143) 9 = .ok (.iconst 0, 1) := by decide +kernel
theorem k143_10 : decode (gb 143) 10 = .ok (.ireturn, 1) := by decide +kernel
theorem k143_11 : decode (gb 143) 11 = .ok (.aload_n 0, 1) := by decide +kernel
theorem k143_12 : decode (gb 143) 12 = .ok (.iload_n 1, 1) := by decide +kernel
theorem k143_13 : decode (gb 143) 13 = .ok (.bipush 16, 2) := by decide +kernel
theorem k143_15 : decode (gb 143) 15 = .ok (.iand, 1) := by decide +kernel
theorem k143_16 : decode (gb 143) 16 = .ok (.ifCond .eq 7, 3) := by decide +kernel
theorem k143_19 : decode (gb 143) 19 = .ok (.iconst 1, 1) := by decide +kernel
theorem k143_20 : decode (gb 143) 20 = .ok (.goto 4, 3) := by decide +kernel
theorem k143_23 : decode (gb 143) 23 = .ok (.iconst 0, 1) := by decide +kernel
theorem k143_24 : decode (gb 143) 24 = .ok (.iload_n 1, 1) := by decide +kernel
theorem k143_25 : decode (gb 143) 25 = .ok (.bipush 8, 2) := by decide +kernel
theorem k143_27 : decode (gb 143) 27 = .ok (.iand, 1) := by decide +kernel
theorem k143_28 : decode (gb 143) 28 = .ok (.ifCond .eq 7, 3) := by decide +kernel
theorem k143_31 : decode (gb 143) 31 = .ok (.iconst 1, 1) := by decide +kernel
theorem k143_32 : decode (gb 143) 32 = .ok (.goto 4, 3) := by decide +kernel
theorem k143_35 : decode (gb 143) 35 = .ok (.iconst 0, 1) := by decide +kernel
theorem k143_36 : decode (gb 143) 36 = .ok (.iload_n 1, 1) := by decide +kernel
theorem k143_37 : decode (gb 143) 37 = .ok (.iconst 4, 1) := by decide +kernel
theorem k143_38 : decode (gb 143) 38 = .ok (.iand, 1) := by decide +kernel
theorem k143_39 : decode (gb 143) 39 = .ok (.ifCond .eq 7, 3) := by decide +kernel
theorem k143_42 : decode (gb 143) 42 = .ok (.iconst 1, 1) := by decide +kernel
theorem k143_43 : decode (gb 143) 43 = .ok (.goto 4, 3) := by decide +kernel
theorem k143_46 : decode (gb 143) 46 = .ok (.iconst 0, 1) := by decide +kernel
theorem k143_47 : decode (gb 143) 47 = .ok (.iload_n 2, 1) := by decide +kernel
theorem k143_48 : decode (gb 143) 48 = .ok (.invokevirtual 160, 3) := by decide +kernel
theorem k143_51 : decode (gb 143) 51 = .ok (.istore_n 3, 1) := by decide +kernel
theorem k143_52 : decode (gb 143) 52 = .ok (.iload_n 3, 1) := by decide +kernel
theorem k143_53 : decode (gb 143) 53 = .ok (.ifCond .le 8, 3) := by decide +kernel
theorem k143_56 : decode (gb 143) 56 = .ok (.aload_n 0, 1) := by decide +kernel
theorem k143_57 : decode (gb 143) 57 = .ok (.iload_n 3, 1) := by decide +kernel
theorem k143_58 : decode (gb 143) 58 = .ok (.invokevirtual 164, 3) := by decide +kernel
theorem k143_61 : decode (gb 143) 61 = .ok (.iload_n 3, 1) := by decide +kernel
theorem k143_62 : decode (gb 143) 62 = .ok (.iconst (-1), 1) := by decide +kernel
theorem k143_63 : decode (gb 143) 63 = .ok (.if_icmp .ne 7, 3) := by decide +kernel
theorem k143_66 : decode (gb 143) 66 = .ok (.iconst 1, 1) := by decide +kernel
theorem k143_67 : decode (gb 143) 67 = .ok (.goto 4, 3) := by decide +kernel
theorem k143_70 : decode (gb 143) 70 = .ok (.iconst 0, 1) := by decide +kernel
theorem k143_71 : decode (gb 143) 71 = .ok (.ireturn, 1) := by decide +kernel
def c143_61 (v3 : Int32) (μ : Mem) : Option (Mem × Int32) :=
  if v3 = (-1 : Int32) then
    rtZ (1 : Int32) μ
  else
    rtZ (0 : Int32) μ
theorem c143_61_ok {L : Nat} (v3 : Int32) (μ : Mem) (res : Mem × Int32) (h : c143_61 v3 μ = some res) : Sx 143 61 [(3, .int v3)] [] 0 0 (mk L μ) (mk L res.1, some (.int res.2)) := by
  unfold c143_61 at h
  refine sx_iload_n (i := 3) k143_61 rfl rfl ?_
  refine sx_iconst (v := -1) k143_62 (by decide) ?_
  by_cases hb1 : v3 = (-1 : Int32)
  · rw [if_pos hb1] at h
    refine sx_icmp_ne (tgt := 70) k143_63 (by decide) (fun q => absurd hb1 q) (fun _ => ?_)
    refine sx_iconst (v := 1) k143_66 (by decide) ?_
    refine sx_goto (tgt := 71) k143_67 (by decide) ?_
    exact cx_retz k143_71 rt_143 h
  · rw [if_neg hb1] at h
    refine sx_icmp_ne (tgt := 70) k143_63 (by decide) (fun _ => ?_) (fun q => absurd q hb1)
    refine sx_iconst (v := 0) k143_70 (by decide) ?_
    exact cx_retz k143_71 rt_143 h
def c143_47 (v2 : Int32) (s1 : Int32) (s2 : Int32) (s3 : Int32) (μ : Mem) : Option (Mem × Int32) :=
  (f144 s1 s2 s3 v2 μ).bind fun r1 =>
  if r1.2 ≤ 0 then
    c143_61 r1.2 r1.1
  else
    (f141 r1.2 r1.1).bind fun r4 =>
    c143_61 r1.2 r4
theorem c143_47_ok {L : Nat} (v2 : Int32) (s1 : Int32) (s2 : Int32) (s3 : Int32) (μ : Mem) (res : Mem × Int32) (h : c143_47 v2 s1 s2 s3 μ = some res) : Sx 143 47 [(0, .ref 28), (2, .int v2)] [.int s3, .int s2, .int s1, .ref 28] 0 0 (mk L μ) (mk L res.1, some (.int res.2)) := by
  unfold c143_47 at h
  refine sx_iload_n (i := 2) k143_47 rfl rfl ?_
  obtain ⟨r1, e2, h⟩ := Option.bind_eq_some_iff.mp h
  refine cx_V (sk := []) (vs := [.int s1, .int s2, .int s3, .int v2]) st_143_144 k143_48 ow_143 cl_7_160 (by decide) rfl (Nat.le_of_ble_eq_true rfl) sk_28 (ok144 s1 s2 s3 v2 _ _ e2) (sk3 := [.int r1.2]) rfl rfl ?_
  refine cx_istore_n (lo2 := [(3, .int r1.2), (0, .ref 28), (2, .int v2)]) k143_51 rfl (by rw [mx_143]; decide) rfl ?_
  refine sx_iload_n (i := 3) k143_52 rfl rfl ?_
  by_cases hb3 : r1.2 ≤ 0
  · rw [if_pos hb3] at h
    refine sx_if_le (tgt := 61) k143_53 (by decide) (fun _ => ?_) (fun q => absurd hb3 q)
    refine sx_pick (lo2 := [(3, .int r1.2)]) [0] rfl ?_
    exact c143_61_ok r1.2 _ _ h
  · rw [if_neg hb3] at h
    refine sx_if_le (tgt := 61) k143_53 (by decide) (fun q => absurd q hb3) (fun _ => ?_)
    refine sx_aload_n (i := 0) k143_56 rfl rfl ?_
    refine sx_iload_n (i := 3) k143_57 rfl rfl ?_
    obtain ⟨r4, e5, h⟩ := Option.bind_eq_some_iff.mp h
    refine cx_V (sk := []) (vs := [.int r1.2]) st_143_141 k143_58 ow_143 cl_7_164 (by decide) rfl (Nat.le_of_ble_eq_true rfl) sk_28 (ok141 r1.2 _ _ e5) (sk3 := []) rfl rfl ?_
    refine sx_pick (lo2 := [(3, .int r1.2)]) [0] rfl ?_
    exact c143_61_ok r1.2 _ _ h
def c143_36 (v1 : Int32) (v2 : Int32) (s1 : Int32) (s2 : Int32) (μ : Mem) : Option (Mem × Int32) :=
  if (v1 &&& (4 : Int32)) = 0 then
    c143_47 v2 s1 s2 (0 : Int32) μ
  else
    c143_47 v2 s1 s2 (1 : Int32) μ
theorem c143_36_ok {L : Nat} (v1 : Int32) (v2 : Int32) (s1 : Int32) (s2 : Int32) (μ : Mem) (res : Mem × Int32) (h : c143_36 v1 v2 s1 s2 μ = some res) : Sx 143 36 [(0, .ref 28), (1, .int v1), (2, .int v2)] [.int s2, .int s1, .ref 28] 0 0 (mk L μ) (mk L res.1, some (.int res.2)) := by
  unfold c143_36 at h
  refine sx_iload_n (i := 1) k143_36 rfl rfl ?_
  refine sx_iconst (v := 4) k143_37 (by decide) ?_
  refine sx_iand k143_38 ?_
  by_cases hb1 : (v1 &&& (4 : Int32)) = 0
  · rw [if_pos hb1] at h
    refine sx_if_eq (tgt := 46) k143_39 (by decide) (fun _ => ?_) (fun q => absurd hb1 q)
    refine sx_iconst (v := 0) k143_46 (by decide) ?_
    refine sx_pick (lo2 := [(0, .ref 28), (2, .int v2)]) [0, 2] rfl ?_
    exact c143_47_ok v2 s1 s2 (0 : Int32) _ _ h
  · rw [if_neg hb1] at h
    refine sx_if_eq (tgt := 46) k143_39 (by decide) (fun q => absurd q hb1) (fun _ => ?_)
    refine sx_iconst (v := 1) k143_42 (by decide) ?_
    refine sx_goto (tgt := 47) k143_43 (by decide) ?_
    refine sx_pick (lo2 := [(0, .ref 28), (2, .int v2)]) [0, 2] rfl ?_
    exact c143_47_ok v2 s1 s2 (1 : Int32) _ _ h
def c143_24 (v1 : Int32) (v2 : Int32) (s1 : Int32) (μ : Mem) : Option (Mem × Int32) :=
  if (v1 &&& (8 : Int32)) = 0 then
    c143_36 v1 v2 s1 (0 : Int32) μ
  else
    c143_36 v1 v2 s1 (1 : Int32) μ
theorem c143_24_ok {L : Nat} (v1 : Int32) (v2 : Int32) (s1 : Int32) (μ : Mem) (res : Mem × Int32) (h : c143_24 v1 v2 s1 μ = some res) : Sx 143 24 [(0, .ref 28), (1, .int v1), (2, .int v2)] [.int s1, .ref 28] 0 0 (mk L μ) (mk L res.1, some (.int res.2)) := by
  unfold c143_24 at h
  refine sx_iload_n (i := 1) k143_24 rfl rfl ?_
  refine sx_bipush (v := 8) k143_25 (by decide) ?_
  refine sx_iand k143_27 ?_
  by_cases hb1 : (v1 &&& (8 : Int32)) = 0
  · rw [if_pos hb1] at h
    refine sx_if_eq (tgt := 35) k143_28 (by decide) (fun _ => ?_) (fun q => absurd hb1 q)
    refine sx_iconst (v := 0) k143_35 (by decide) ?_
    refine sx_pick (lo2 := [(0, .ref 28), (1, .int v1), (2, .int v2)]) [0, 1, 2] rfl ?_
    exact c143_36_ok v1 v2 s1 (0 : Int32) _ _ h
  · rw [if_neg hb1] at h
    refine sx_if_eq (tgt := 35) k143_28 (by decide) (fun q => absurd q hb1) (fun _ => ?_)
    refine sx_iconst (v := 1) k143_31 (by decide) ?_
    refine sx_goto (tgt := 36) k143_32 (by decide) ?_
    refine sx_pick (lo2 := [(0, .ref 28), (1, .int v1), (2, .int v2)]) [0, 1, 2] rfl ?_
    exact c143_36_ok v1 v2 s1 (1 : Int32) _ _ h
/-- Sender.hear(II)Z -/
def f143 (p1 : Int32) (p2 : Int32) (μ : Mem) : Option (Mem × Int32) :=
  if (μ.1 28 8) = (6 : Int32) then
    rtZ (0 : Int32) μ
  else
    if (p1 &&& (16 : Int32)) = 0 then
      c143_24 p1 p2 (0 : Int32) μ
    else
      c143_24 p1 p2 (1 : Int32) μ
theorem ok143 {L : Nat} (p1 : Int32) (p2 : Int32) (μ : Mem) (res : Mem × Int32) (h : f143 p1 p2 μ = some res) : Mx 143 [.ref 28, .int p1, .int p2] (mk L μ) (mk L res.1, some (.int res.2)) := by
  refine Mx_of ml_143 (by rw [mx_143]; exact Nat.le_of_ble_eq_true rfl) ?_
  show Sx 143 0 [(0, .ref 28), (1, .int p1), (2, .int p2)] [] 0 0 (mk L μ) _
  unfold f143 at h
  refine sx_aload_n (i := 0) k143_0 rfl rfl ?_
  refine cx_getI (k := 8) k143_1 ow_143 fl_7_43 (by decide) sk_28 ft_6_8 ?_
  refine sx_bipush (v := 6) k143_4 (by decide) ?_
  by_cases hb1 : (μ.1 28 8) = (6 : Int32)
  · rw [if_pos hb1] at h
    refine sx_icmp_ne (tgt := 11) k143_6 (by decide) (fun q => absurd hb1 q) (fun _ => ?_)
    refine sx_iconst (v := 0) k143_9 (by decide) ?_
    exact cx_retz k143_10 rt_143 h
  · rw [if_neg hb1] at h
    refine sx_icmp_ne (tgt := 11) k143_6 (by decide) (fun _ => ?_) (fun q => absurd q hb1)
    refine sx_aload_n (i := 0) k143_11 rfl rfl ?_
    refine sx_iload_n (i := 1) k143_12 rfl rfl ?_
    refine sx_bipush (v := 16) k143_13 (by decide) ?_
    refine sx_iand k143_15 ?_
    by_cases hb2 : (p1 &&& (16 : Int32)) = 0
    · rw [if_pos hb2] at h
      refine sx_if_eq (tgt := 23) k143_16 (by decide) (fun _ => ?_) (fun q => absurd hb2 q)
      refine sx_iconst (v := 0) k143_23 (by decide) ?_
      refine sx_pick (lo2 := [(0, .ref 28), (1, .int p1), (2, .int p2)]) [0, 1, 2] rfl ?_
      exact c143_24_ok p1 p2 (0 : Int32) _ _ h
    · rw [if_neg hb2] at h
      refine sx_if_eq (tgt := 23) k143_16 (by decide) (fun q => absurd q hb2) (fun _ => ?_)
      refine sx_iconst (v := 1) k143_19 (by decide) ?_
      refine sx_goto (tgt := 24) k143_20 (by decide) ?_
      refine sx_pick (lo2 := [(0, .ref 28), (1, .int p1), (2, .int p2)]) [0, 1, 2] rfl ?_
      exact c143_24_ok p1 p2 (1 : Int32) _ _ h
theorem k148_0 : decode (gb 148) 0 = .ok (.aload_n 0, 1) := by decide +kernel
theorem k148_1 : decode (gb 148) 1 = .ok (.getfield 143, 3) := by decide +kernel
theorem k148_4 : decode (gb 148) 4 = .ok (.ifCond .ne 5, 3) := by decide +kernel
theorem k148_7 : decode (gb 148) 7 = .ok (.iconst 0, 1) := by decide +kernel
theorem k148_8 : decode (gb 148) 8 = .ok (.ireturn, 1) := by decide +kernel
theorem k148_9 : decode (gb 148) 9 = .ok (.aload_n 0, 1) := by decide +kernel
theorem k148_10 : decode (gb 148) 10 = .ok (.dup, 1) := by decide +kernel
theorem k148_11 : decode (gb 148) 11 = .ok (.getfield 143, 3) := by decide +kernel
theorem k148_14 : decode (gb 148) 14 = .ok (.iconst 1, 1) := by decide +kernel
theorem k148_15 : decode (gb 148) 15 = .ok (.isub, 1) := by decide +kernel
theorem k148_16 : decode (gb 148) 16 = .ok (.putfield 143, 3) := by decide +kernel
theorem k148_19 : decode (gb 148) 19 = .ok (.aload_n 0, 1) := by decide +kernel
theorem k148_20 : decode (gb 148) 20 = .ok (.getfield 143, 3) := by decide +kernel
theorem k148_23 : decode (gb 148) 23 = .ok (.ifCond .ne 7, 3) := by decide +kernel
theorem k148_26 : decode (gb 148) 26 = .ok (.iconst 1, 1) := by decide +kernel
theorem k148_27 : decode (gb 148) 27 = .ok (.goto 4, 3) := by decide +kernel
theorem k148_30 : decode (gb 148) 30 = .ok (.iconst 0, 1) := by decide +kernel
theorem k148_31 : decode (gb 148) 31 = .ok (.ireturn, 1) := by decide +kernel
/-- Sender.timerEnds()Z -/
def f148 (μ : Mem) : Option (Mem × Int32) :=
  if (μ.1 28 14) = 0 then
    rtZ (0 : Int32) μ
  else
    (pfI 28 14 ((μ.1 28 14) - (1 : Int32)) μ).bind fun m2 =>
    if (m2.1 28 14) = 0 then
      rtZ (1 : Int32) m2
    else
      rtZ (0 : Int32) m2
theorem ok148 {L : Nat} (μ : Mem) (res : Mem × Int32) (h : f148 μ = some res) : Mx 148 [.ref 28] (mk L μ) (mk L res.1, some (.int res.2)) := by
  refine Mx_of ml_148 (by rw [mx_148]; exact Nat.le_of_ble_eq_true rfl) ?_
  show Sx 148 0 [(0, .ref 28)] [] 0 0 (mk L μ) _
  unfold f148 at h
  refine sx_aload_n (i := 0) k148_0 rfl rfl ?_
  refine cx_getI (k := 14) k148_1 ow_148 fl_7_143 (by decide) sk_28 ft_6_14 ?_
  by_cases hb1 : (μ.1 28 14) = 0
  · rw [if_pos hb1] at h
    refine sx_if_ne (tgt := 9) k148_4 (by decide) (fun q => absurd hb1 q) (fun _ => ?_)
    refine sx_iconst (v := 0) k148_7 (by decide) ?_
    exact cx_retz k148_8 rt_148 h
  · rw [if_neg hb1] at h
    refine sx_if_ne (tgt := 9) k148_4 (by decide) (fun _ => ?_) (fun q => absurd q hb1)
    refine sx_aload_n (i := 0) k148_9 rfl rfl ?_
    refine sx_dup k148_10 rfl ?_
    refine cx_getI (k := 14) k148_11 ow_148 fl_7_143 (by decide) sk_28 ft_6_14 ?_
    refine sx_iconst (v := 1) k148_14 (by decide) ?_
    refine sx_isub k148_15 ?_
    obtain ⟨m2, e3, h⟩ := Option.bind_eq_some_iff.mp h
    refine cx_putI (k := 14) k148_16 ow_148 fl_7_143 (by decide) sk_28 nf_6_14 fu_6_14 e3 ?_
    refine sx_aload_n (i := 0) k148_19 rfl rfl ?_
    refine cx_getI (k := 14) k148_20 ow_148 fl_7_143 (by decide) sk_28 ft_6_14 ?_
    by_cases hb4 : (m2.1 28 14) = 0
    · rw [if_pos hb4] at h
      refine sx_if_ne (tgt := 30) k148_23 (by decide) (fun q => absurd hb4 q) (fun _ => ?_)
      refine sx_iconst (v := 1) k148_26 (by decide) ?_
      refine sx_goto (tgt := 31) k148_27 (by decide) ?_
      exact cx_retz k148_31 rt_148 h
    · rw [if_neg hb4] at h
      refine sx_if_ne (tgt := 30) k148_23 (by decide) (fun _ => ?_) (fun q => absurd q hb4)
      refine sx_iconst (v := 0) k148_30 (by decide) ?_
      exact cx_retz k148_31 rt_148 h
theorem k150_0 : decode (gb 150) 0 = .ok (.aload_n 0, 1) := by decide +kernel
theorem k150_1 : decode (gb 150) 1 = .ok (.getfield 190, 3) := by decide +kernel
theorem k150_4 : decode (gb 150) 4 = .ok (.ifCond .eq 11, 3) := by decide +kernel
theorem k150_7 : decode (gb 150) 7 = .ok (.aload_n 0, 1) := by decide +kernel
theorem k150_8 : decode (gb 150) 8 = .ok (.getfield 43, 3) := by decide +kernel
theorem k150_11 : decode (gb 150) 11 = .ok (.iconst 5, 1) := by decide +kernel
theorem k150_12 : decode (gb 150) 12 = .ok (.if_icmp .ne 12, 3) := by decide +kernel
theorem k150_15 : decode (gb 150) 15 = .ok (.aload_n 0, 1) := by decide +kernel
theorem k150_16 : decode (gb 150) 16 = .ok (.bipush 6, 2) := by decide +kernel
theorem k150_18 : decode (gb 150) 18 = .ok (.invokevirtual 164, 3) := by decide +kernel
theorem k150_21 : decode (gb 150) 21 = .ok (.goto 7, 3) := by decide +kernel
theorem k150_24 : decode (gb 150) 24 = .ok (.aload_n 0, 1) := by decide +kernel
theorem k150_25 : decode (gb 150) 25 = .ok (.invokevirtual 193, 3) := by decide +kernel
theorem k150_28 : decode (gb 150) 28 = .ok (.return_, 1) := by decide +kernel
def c150_15 (μ : Mem) : Option (Mem) :=
  (f141 (6 : Int32) μ).bind fun r1 =>
  some r1
theorem c150_15_ok {L : Nat} (μ : Mem) (res : Mem) (h : c150_15 μ = some res) : Sx 150 15 [(0, .ref 28)] [] 0 0 (mk L μ) (mk L res, none) := by
  unfold c150_15 at h
  refine sx_aload_n (i := 0) k150_15 rfl rfl ?_
  refine sx_bipush (v := 6) k150_16 (by decide) ?_
  obtain ⟨r1, e2, h⟩ := Option.bind_eq_some_iff.mp h
  refine cx_V (sk := []) (vs := [.int (6 : Int32)]) st_150_141 k150_18 ow_150 cl_7_164 (by decide) rfl (Nat.le_of_ble_eq_true rfl) sk_28 (ok141 (6 : Int32) _ _ e2) (sk3 := []) rfl rfl ?_
  refine sx_goto (tgt := 28) k150_21 (by decide) ?_
  exact cx_retv k150_28 rt_150 h
/-- Sender.alarmOrHold()V -/
def f150 (μ : Mem) : Option (Mem) :=
  if (μ.1 28 16) = 0 then
    c150_15 μ
  else
    if (μ.1 28 8) = (5 : Int32) then
      c150_15 μ
    else
      (f142 μ).bind fun r3 =>
      some r3
theorem ok150 {L : Nat} (μ : Mem) (res : Mem) (h : f150 μ = some res) : Mx 150 [.ref 28] (mk L μ) (mk L res, none) := by
  refine Mx_of ml_150 (by rw [mx_150]; exact Nat.le_of_ble_eq_true rfl) ?_
  show Sx 150 0 [(0, .ref 28)] [] 0 0 (mk L μ) _
  unfold f150 at h
  refine sx_aload_n (i := 0) k150_0 rfl rfl ?_
  refine cx_getI (k := 16) k150_1 ow_150 fl_7_190 (by decide) sk_28 ft_6_16 ?_
  by_cases hb1 : (μ.1 28 16) = 0
  · rw [if_pos hb1] at h
    refine sx_if_eq (tgt := 15) k150_4 (by decide) (fun _ => ?_) (fun q => absurd hb1 q)
    refine sx_pick (lo2 := [(0, .ref 28)]) [0] rfl ?_
    exact c150_15_ok _ _ h
  · rw [if_neg hb1] at h
    refine sx_if_eq (tgt := 15) k150_4 (by decide) (fun q => absurd q hb1) (fun _ => ?_)
    refine sx_aload_n (i := 0) k150_7 rfl rfl ?_
    refine cx_getI (k := 8) k150_8 ow_150 fl_7_43 (by decide) sk_28 ft_6_8 ?_
    refine sx_iconst (v := 5) k150_11 (by decide) ?_
    by_cases hb2 : (μ.1 28 8) = (5 : Int32)
    · rw [if_pos hb2] at h
      refine sx_icmp_ne (tgt := 24) k150_12 (by decide) (fun q => absurd hb2 q) (fun _ => ?_)
      refine sx_pick (lo2 := [(0, .ref 28)]) [0] rfl ?_
      exact c150_15_ok _ _ h
    · rw [if_neg hb2] at h
      refine sx_icmp_ne (tgt := 24) k150_12 (by decide) (fun _ => ?_) (fun q => absurd q hb2)
      refine sx_aload_n (i := 0) k150_24 rfl rfl ?_
      obtain ⟨r3, e4, h⟩ := Option.bind_eq_some_iff.mp h
      refine cx_V (sk := []) (vs := []) st_150_142 k150_25 ow_150 cl_7_193 (by decide) rfl (Nat.le_of_ble_eq_true rfl) sk_28 (ok142 _ _ e4) (sk3 := []) rfl rfl ?_
      exact cx_retv k150_28 rt_150 h
theorem k149_0 : decode (gb 149) 0 = .ok (.aload_n 0, 1) := by decide +kernel
theorem k149_1 : decode (gb 149) 1 = .ok (.getfield 47, 3) := by decide +kernel
theorem k149_4 : decode (gb 149) 4 = .ok (.aload_n 0, 1) := by decide +kernel
theorem k149_5 : decode (gb 149) 5 = .ok (.getfield 50, 3) := by decide +kernel
theorem k149_8 : decode (gb 149) 8 = .ok (.if_icmp .lt 9, 3) := by decide +kernel
theorem k149_11 : decode (gb 149) 11 = .ok (.aload_n 0, 1) := by decide +kernel
theorem k149_12 : decode (gb 149) 12 = .ok (.invokevirtual 184, 3) := by decide +kernel
theorem k149_15 : decode (gb 149) 15 = .ok (.iconst 0, 1) := by decide +kernel
theorem k149_16 : decode (gb 149) 16 = .ok (.ireturn, 1) := by decide +kernel
theorem k149_17 : decode (gb 149) 17 = .ok (.aload_n 0, 1) := by decide +kernel
theorem k149_18 : decode (gb 149) 18 = .ok (.getfield 43, 3) := by decide +kernel
theorem k149_21 : decode (gb 149) 21 = .ok (.tableswitch 71 1 5 #[35, 35, 71, 41, 47], 35) := by decide +kernel
theorem k149_56 : decode (gb 149) 56 = .ok (.aload_n 0, 1) := by decide +kernel
theorem k149_57 : decode (gb 149) 57 = .ok (.invokevirtual 181, 3) := by decide +kernel
theorem k149_60 : decode (gb 149) 60 = .ok (.iconst 1, 1) := by decide +kernel
theorem k149_61 : decode (gb 149) 61 = .ok (.ireturn, 1) := by decide +kernel
theorem k149_62 : decode (gb 149) 62 = .ok (.aload_n 0, 1) := by decide +kernel
theorem k149_63 : decode (gb 149) 63 = .ok (.invokevirtual 184, 3) := by decide +kernel
theorem k149_66 : decode (gb 149) 66 = .ok (.iconst 0, 1) := by decide +kernel
theorem k149_67 : decode (gb 149) 67 = .ok (.ireturn, 1) := by decide +kernel
theorem k149_68 : decode (gb 149) 68 = .ok (.aload_n 0, 1) := by decide +kernel
theorem k149_69 : decode (gb 149) 69 = .ok (.invokevirtual 187, 3) := by decide +kernel
theorem k149_72 : decode (gb 149) 72 = .ok (.aload_n 0, 1) := by decide +kernel
theorem k149_73 : decode (gb 149) 73 = .ok (.dup, 1) := by decide +kernel
theorem k149_74 : decode (gb 149) 74 = .ok (.getfield 47, 3) := by decide +kernel
theorem k149_77 : decode (gb 149) 77 = .ok (.iconst 1, 1) := by decide +kernel
theorem k149_78 : decode (gb 149) 78 = .ok (.iadd, 1) := by decide +kernel
theorem k149_79 : decode (gb 149) 79 = .ok (.putfield 47, 3) := by decide +kernel
theorem k149_82 : decode (gb 149) 82 = .ok (.aload_n 0, 1) := by decide +kernel
theorem k149_83 : decode (gb 149) 83 = .ok (.aload_n 0, 1) := by decide +kernel
theorem k149_84 : decode (gb 149) 84 = .ok (.getfield 56, 3) := by decide +kernel
theorem k149_87 : decode (gb 149) 87 = .ok (.putfield 143, 3) := by decide +kernel
theorem k149_90 : decode (gb 149) 90 = .ok (.iconst 0, 1) := by decide +kernel
theorem k149_91 : decode (gb 149) 91 = .ok (.ireturn, 1) := by decide +kernel
theorem k149_92 : decode (gb 149) 92 = .ok (.iconst 0, 1) := by decide +kernel
theorem k149_93 : decode (gb 149) 93 = .ok (.ireturn, 1) := by decide +kernel
/-- Sender.timeIsOut()Z -/
def f149 (μ : Mem) : Option (Mem × Int32) :=
  if (μ.1 28 11) < (μ.1 28 12) then
    if (μ.1 28 8) = (1 : Int32) then
      (f138 μ).bind fun r2 =>
      rtZ (1 : Int32) r2
    else if (μ.1 28 8) = (2 : Int32) then
      (f138 μ).bind fun r5 =>
      rtZ (1 : Int32) r5
    else if (μ.1 28 8) = (3 : Int32) then
      rtZ (0 : Int32) μ
    else if (μ.1 28 8) = (4 : Int32) then
      (f150 μ).bind fun r9 =>
      rtZ (0 : Int32) r9
    else if (μ.1 28 8) = (5 : Int32) then
      (f133 μ).bind fun r12 =>
      (pfI 28 11 ((r12.1 28 11) + (1 : Int32)) r12).bind fun m14 =>
      (pfI 28 14 (m14.1 28 15) m14).bind fun m16 =>
      rtZ (0 : Int32) m16
    else 
      rtZ (0 : Int32) μ
  else
    (f150 μ).bind fun r19 =>
    rtZ (0 : Int32) r19
theorem ok149 {L : Nat} (μ : Mem) (res : Mem × Int32) (h : f149 μ = some res) : Mx 149 [.ref 28] (mk L μ) (mk L res.1, some (.int res.2)) := by
  refine Mx_of ml_149 (by rw [mx_149]; exact Nat.le_of_ble_eq_true rfl) ?_
  show Sx 149 0 [(0, .ref 28)] [] 0 0 (mk L μ) _
  unfold f149 at h
  refine sx_aload_n (i := 0) k149_0 rfl rfl ?_
  refine cx_getI (k := 11) k149_1 ow_149 fl_7_47 (by decide) sk_28 ft_6_11 ?_
  refine sx_aload_n (i := 0) k149_4 rfl rfl ?_
  refine cx_getI (k := 12) k149_5 ow_149 fl_7_50 (by decide) sk_28 ft_6_12 ?_
  by_cases hb1 : (μ.1 28 11) < (μ.1 28 12)
  · rw [if_pos hb1] at h
    refine sx_icmp_lt (tgt := 17) k149_8 (by decide) (fun _ => ?_) (fun q => absurd hb1 q)
    refine sx_aload_n (i := 0) k149_17 rfl rfl ?_
    refine cx_getI (k := 8) k149_18 ow_149 fl_7_43 (by decide) sk_28 ft_6_8 ?_
    by_cases hb4 : (μ.1 28 8) = (1 : Int32)
    · rw [if_pos hb4] at h
      refine sx_tableIn (off := 35) (tgt := 56) k149_21 (by rw [hb4]; decide) (by rw [hb4]; decide) (by rw [hb4]; rfl) (by decide) ?_
      refine sx_aload_n (i := 0) k149_56 rfl rfl ?_
      obtain ⟨r2, e3, h⟩ := Option.bind_eq_some_iff.mp h
      refine cx_V (sk := []) (vs := []) st_149_138 k149_57 ow_149 cl_7_181 (by decide) rfl (Nat.le_of_ble_eq_true rfl) sk_28 (ok138 _ _ e3) (sk3 := []) rfl rfl ?_
      refine sx_iconst (v := 1) k149_60 (by decide) ?_
      exact cx_retz k149_61 rt_149 h
    · rw [if_neg hb4] at h
      by_cases hb7 : (μ.1 28 8) = (2 : Int32)
      · rw [if_pos hb7] at h
        refine sx_tableIn (off := 35) (tgt := 56) k149_21 (by rw [hb7]; decide) (by rw [hb7]; decide) (by rw [hb7]; rfl) (by decide) ?_
        refine sx_aload_n (i := 0) k149_56 rfl rfl ?_
        obtain ⟨r5, e6, h⟩ := Option.bind_eq_some_iff.mp h
        refine cx_V (sk := []) (vs := []) st_149_138 k149_57 ow_149 cl_7_181 (by decide) rfl (Nat.le_of_ble_eq_true rfl) sk_28 (ok138 _ _ e6) (sk3 := []) rfl rfl ?_
        refine sx_iconst (v := 1) k149_60 (by decide) ?_
        exact cx_retz k149_61 rt_149 h
      · rw [if_neg hb7] at h
        by_cases hb8 : (μ.1 28 8) = (3 : Int32)
        · rw [if_pos hb8] at h
          refine sx_tableIn (off := 71) (tgt := 92) k149_21 (by rw [hb8]; decide) (by rw [hb8]; decide) (by rw [hb8]; rfl) (by decide) ?_
          refine sx_iconst (v := 0) k149_92 (by decide) ?_
          exact cx_retz k149_93 rt_149 h
        · rw [if_neg hb8] at h
          by_cases hb11 : (μ.1 28 8) = (4 : Int32)
          · rw [if_pos hb11] at h
            refine sx_tableIn (off := 41) (tgt := 62) k149_21 (by rw [hb11]; decide) (by rw [hb11]; decide) (by rw [hb11]; rfl) (by decide) ?_
            refine sx_aload_n (i := 0) k149_62 rfl rfl ?_
            obtain ⟨r9, e10, h⟩ := Option.bind_eq_some_iff.mp h
            refine cx_V (sk := []) (vs := []) st_149_150 k149_63 ow_149 cl_7_184 (by decide) rfl (Nat.le_of_ble_eq_true rfl) sk_28 (ok150 _ _ e10) (sk3 := []) rfl rfl ?_
            refine sx_iconst (v := 0) k149_66 (by decide) ?_
            exact cx_retz k149_67 rt_149 h
          · rw [if_neg hb11] at h
            by_cases hb18 : (μ.1 28 8) = (5 : Int32)
            · rw [if_pos hb18] at h
              refine sx_tableIn (off := 47) (tgt := 68) k149_21 (by rw [hb18]; decide) (by rw [hb18]; decide) (by rw [hb18]; rfl) (by decide) ?_
              refine sx_aload_n (i := 0) k149_68 rfl rfl ?_
              obtain ⟨r12, e13, h⟩ := Option.bind_eq_some_iff.mp h
              refine cx_V (sk := []) (vs := []) st_149_133 k149_69 ow_149 cl_7_187 (by decide) rfl (Nat.le_of_ble_eq_true rfl) sk_28 (ok133 _ _ e13) (sk3 := []) rfl rfl ?_
              refine sx_aload_n (i := 0) k149_72 rfl rfl ?_
              refine sx_dup k149_73 rfl ?_
              refine cx_getI (k := 11) k149_74 ow_149 fl_7_47 (by decide) sk_28 ft_6_11 ?_
              refine sx_iconst (v := 1) k149_77 (by decide) ?_
              refine sx_iadd k149_78 ?_
              obtain ⟨m14, e15, h⟩ := Option.bind_eq_some_iff.mp h
              refine cx_putI (k := 11) k149_79 ow_149 fl_7_47 (by decide) sk_28 nf_6_11 fu_6_11 e15 ?_
              refine sx_aload_n (i := 0) k149_82 rfl rfl ?_
              refine sx_aload_n (i := 0) k149_83 rfl rfl ?_
              refine cx_getI (k := 15) k149_84 ow_149 fl_7_56 (by decide) sk_28 ft_6_15 ?_
              obtain ⟨m16, e17, h⟩ := Option.bind_eq_some_iff.mp h
              refine cx_putI (k := 14) k149_87 ow_149 fl_7_143 (by decide) sk_28 nf_6_14 fu_6_14 e17 ?_
              refine sx_iconst (v := 0) k149_90 (by decide) ?_
              exact cx_retz k149_91 rt_149 h
            · rw [if_neg hb18] at h
              refine sx_tableOut (tgt := 92) k149_21 (sw_out (n := 5) (fun j hj => ?_)) (by decide) ?_
              · intro hj2
                exact sw_no [(1 : Int32), (2 : Int32), (3 : Int32), (4 : Int32), (5 : Int32)] (by decide) hj hj2 ⟨hb4, hb7, hb8, hb11, hb18, trivial⟩
              ·
                refine sx_iconst (v := 0) k149_92 (by decide) ?_
                exact cx_retz k149_93 rt_149 h
  · rw [if_neg hb1] at h
    refine sx_icmp_lt (tgt := 17) k149_8 (by decide) (fun q => absurd q hb1) (fun _ => ?_)
    refine sx_aload_n (i := 0) k149_11 rfl rfl ?_
    obtain ⟨r19, e20, h⟩ := Option.bind_eq_some_iff.mp h
    refine cx_V (sk := []) (vs := []) st_149_150 k149_12 ow_149 cl_7_184 (by decide) rfl (Nat.le_of_ble_eq_true rfl) sk_28 (ok150 _ _ e20) (sk3 := []) rfl rfl ?_
    refine sx_iconst (v := 0) k149_15 (by decide) ?_
    exact cx_retz k149_16 rt_149 h
theorem k151_0 : decode (gb 151) 0 = .ok (.iload_n 1, 1) := by decide +kernel
theorem k151_1 : decode (gb 151) 1 = .ok (.tableswitch 73 4 6 #[27, 29, 51], 27) := by decide +kernel
theorem k151_28 : decode (gb 151) 28 = .ok (.iconst 1, 1) := by decide +kernel
theorem k151_29 : decode (gb 151) 29 = .ok (.ireturn, 1) := by decide +kernel
theorem k151_30 : decode (gb 151) 30 = .ok (.aload_n 0, 1) := by decide +kernel
theorem k151_31 : decode (gb 151) 31 = .ok (.getfield 43, 3) := by decide +kernel
theorem k151_34 : decode (gb 151) 34 = .ok (.bipush 6, 2) := by decide +kernel
theorem k151_36 : decode (gb 151) 36 = .ok (.if_icmp .ne 14, 3) := by decide +kernel
theorem k151_39 : decode (gb 151) 39 = .ok (.aload_n 0, 1) := by decide +kernel
theorem k151_40 : decode (gb 151) 40 = .ok (.getfield 151, 3) := by decide +kernel
theorem k151_43 : decode (gb 151) 43 = .ok (.ifCond .eq 7, 3) := by decide +kernel
theorem k151_46 : decode (gb 151) 46 = .ok (.iconst 1, 1) := by decide +kernel
theorem k151_47 : decode (gb 151) 47 = .ok (.goto 4, 3) := by decide +kernel
theorem k151_50 : decode (gb 151) 50 = .ok (.iconst 0, 1) := by decide +kernel
theorem k151_51 : decode (gb 151) 51 = .ok (.ireturn, 1) := by decide +kernel
theorem k151_52 : decode (gb 151) 52 = .ok (.aload_n 0, 1) := by decide +kernel
theorem k151_53 : decode (gb 151) 53 = .ok (.getfield 43, 3) := by decide +kernel
theorem k151_56 : decode (gb 151) 56 = .ok (.bipush 6, 2) := by decide +kernel
theorem k151_58 : decode (gb 151) 58 = .ok (.if_icmp .ne 14, 3) := by decide +kernel
theorem k151_61 : decode (gb 151) 61 = .ok (.aload_n 0, 1) := by decide +kernel
theorem k151_62 : decode (gb 151) 62 = .ok (.getfield 151, 3) := by decide +kernel
theorem k151_65 : decode (gb 151) 65 = .ok (.ifCond .ne 7, 3) := by decide +kernel
theorem k151_68 : decode (gb 151) 68 = .ok (.iconst 1, 1) := by decide +kernel
theorem k151_69 : decode (gb 151) 69 = .ok (.goto 4, 3) := by decide +kernel
theorem k151_72 : decode (gb 151) 72 = .ok (.iconst 0, 1) := by decide +kernel
theorem k151_73 : decode (gb 151) 73 = .ok (.ireturn, 1) := by decide +kernel
theorem k151_74 : decode (gb 151) 74 = .ok (.aload_n 0, 1) := by decide +kernel
theorem k151_75 : decode (gb 151) 75 = .ok (.getfield 43, 3) := by decide +kernel
theorem k151_78 : decode (gb 151) 78 = .ok (.bipush 6, 2) := by decide +kernel
theorem k151_80 : decode (gb 151) 80 = .ok (.if_icmp .ne 7, 3) := by decide +kernel
theorem k151_83 : decode (gb 151) 83 = .ok (.iconst 1, 1) := by decide +kernel
theorem k151_84 : decode (gb 151) 84 = .ok (.goto 4, 3) := by decide +kernel
theorem k151_87 : decode (gb 151) 87 = .ok (.iconst 0, 1) := by decide +kernel
theorem k151_88 : decode (gb 151) 88 = .ok (.ireturn, 1) := by decide +kernel
/-- Sender.stateFits(I)Z -/
def f151 (p1 : Int32) (μ : Mem) : Option (Mem × Int32) :=
  if p1 = (4 : Int32) then
    rtZ (1 : Int32) μ
  else if p1 = (5 : Int32) then
    if (μ.1 28 8) = (6 : Int32) then
      if (μ.1 28 17) = 0 then
        rtZ (0 : Int32) μ
      else
        rtZ (1 : Int32) μ
    else
      rtZ (0 : Int32) μ
  else if p1 = (6 : Int32) then
    if (μ.1 28 8) = (6 : Int32) then
      if (μ.1 28 17) = 0 then
        rtZ (1 : Int32) μ
      else
        rtZ (0 : Int32) μ
    else
      rtZ (0 : Int32) μ
  else 
    if (μ.1 28 8) = (6 : Int32) then
      rtZ (1 : Int32) μ
    else
      rtZ (0 : Int32) μ
theorem ok151 {L : Nat} (p1 : Int32) (μ : Mem) (res : Mem × Int32) (h : f151 p1 μ = some res) : Mx 151 [.ref 28, .int p1] (mk L μ) (mk L res.1, some (.int res.2)) := by
  refine Mx_of ml_151 (by rw [mx_151]; exact Nat.le_of_ble_eq_true rfl) ?_
  show Sx 151 0 [(0, .ref 28), (1, .int p1)] [] 0 0 (mk L μ) _
  unfold f151 at h
  refine sx_iload_n (i := 1) k151_0 rfl rfl ?_
  by_cases hb1 : p1 = (4 : Int32)
  · rw [if_pos hb1] at h
    refine sx_tableIn (off := 27) (tgt := 28) k151_1 (by rw [hb1]; decide) (by rw [hb1]; decide) (by rw [hb1]; rfl) (by decide) ?_
    refine sx_iconst (v := 1) k151_28 (by decide) ?_
    exact cx_retz k151_29 rt_151 h
  · rw [if_neg hb1] at h
    by_cases hb4 : p1 = (5 : Int32)
    · rw [if_pos hb4] at h
      refine sx_tableIn (off := 29) (tgt := 30) k151_1 (by rw [hb4]; decide) (by rw [hb4]; decide) (by rw [hb4]; rfl) (by decide) ?_
      refine sx_aload_n (i := 0) k151_30 rfl rfl ?_
      refine cx_getI (k := 8) k151_31 ow_151 fl_7_43 (by decide) sk_28 ft_6_8 ?_
      refine sx_bipush (v := 6) k151_34 (by decide) ?_
      by_cases hb2 : (μ.1 28 8) = (6 : Int32)
      · rw [if_pos hb2] at h
        refine sx_icmp_ne (tgt := 50) k151_36 (by decide) (fun q => absurd hb2 q) (fun _ => ?_)
        refine sx_aload_n (i := 0) k151_39 rfl rfl ?_
        refine cx_getI (k := 17) k151_40 ow_151 fl_7_151 (by decide) sk_28 ft_6_17 ?_
        by_cases hb3 : (μ.1 28 17) = 0
        · rw [if_pos hb3] at h
          refine sx_if_eq (tgt := 50) k151_43 (by decide) (fun _ => ?_) (fun q => absurd hb3 q)
          refine sx_iconst (v := 0) k151_50 (by decide) ?_
          exact cx_retz k151_51 rt_151 h
        · rw [if_neg hb3] at h
          refine sx_if_eq (tgt := 50) k151_43 (by decide) (fun q => absurd q hb3) (fun _ => ?_)
          refine sx_iconst (v := 1) k151_46 (by decide) ?_
          refine sx_goto (tgt := 51) k151_47 (by decide) ?_
          exact cx_retz k151_51 rt_151 h
      · rw [if_neg hb2] at h
        refine sx_icmp_ne (tgt := 50) k151_36 (by decide) (fun _ => ?_) (fun q => absurd q hb2)
        refine sx_iconst (v := 0) k151_50 (by decide) ?_
        exact cx_retz k151_51 rt_151 h
    · rw [if_neg hb4] at h
      by_cases hb7 : p1 = (6 : Int32)
      · rw [if_pos hb7] at h
        refine sx_tableIn (off := 51) (tgt := 52) k151_1 (by rw [hb7]; decide) (by rw [hb7]; decide) (by rw [hb7]; rfl) (by decide) ?_
        refine sx_aload_n (i := 0) k151_52 rfl rfl ?_
        refine cx_getI (k := 8) k151_53 ow_151 fl_7_43 (by decide) sk_28 ft_6_8 ?_
        refine sx_bipush (v := 6) k151_56 (by decide) ?_
        by_cases hb5 : (μ.1 28 8) = (6 : Int32)
        · rw [if_pos hb5] at h
          refine sx_icmp_ne (tgt := 72) k151_58 (by decide) (fun q => absurd hb5 q) (fun _ => ?_)
          refine sx_aload_n (i := 0) k151_61 rfl rfl ?_
          refine cx_getI (k := 17) k151_62 ow_151 fl_7_151 (by decide) sk_28 ft_6_17 ?_
          by_cases hb6 : (μ.1 28 17) = 0
          · rw [if_pos hb6] at h
            refine sx_if_ne (tgt := 72) k151_65 (by decide) (fun q => absurd hb6 q) (fun _ => ?_)
            refine sx_iconst (v := 1) k151_68 (by decide) ?_
            refine sx_goto (tgt := 73) k151_69 (by decide) ?_
            exact cx_retz k151_73 rt_151 h
          · rw [if_neg hb6] at h
            refine sx_if_ne (tgt := 72) k151_65 (by decide) (fun _ => ?_) (fun q => absurd q hb6)
            refine sx_iconst (v := 0) k151_72 (by decide) ?_
            exact cx_retz k151_73 rt_151 h
        · rw [if_neg hb5] at h
          refine sx_icmp_ne (tgt := 72) k151_58 (by decide) (fun _ => ?_) (fun q => absurd q hb5)
          refine sx_iconst (v := 0) k151_72 (by decide) ?_
          exact cx_retz k151_73 rt_151 h
      · rw [if_neg hb7] at h
        refine sx_tableOut (tgt := 74) k151_1 (sw_out (n := 3) (fun j hj => ?_)) (by decide) ?_
        · intro hj2
          exact sw_no [(4 : Int32), (5 : Int32), (6 : Int32)] (by decide) hj hj2 ⟨hb1, hb4, hb7, trivial⟩
        ·
          refine sx_aload_n (i := 0) k151_74 rfl rfl ?_
          refine cx_getI (k := 8) k151_75 ow_151 fl_7_43 (by decide) sk_28 ft_6_8 ?_
          refine sx_bipush (v := 6) k151_78 (by decide) ?_
          by_cases hb8 : (μ.1 28 8) = (6 : Int32)
          · rw [if_pos hb8] at h
            refine sx_icmp_ne (tgt := 87) k151_80 (by decide) (fun q => absurd hb8 q) (fun _ => ?_)
            refine sx_iconst (v := 1) k151_83 (by decide) ?_
            refine sx_goto (tgt := 88) k151_84 (by decide) ?_
            exact cx_retz k151_88 rt_151 h
          · rw [if_neg hb8] at h
            refine sx_icmp_ne (tgt := 87) k151_80 (by decide) (fun _ => ?_) (fun q => absurd q hb8)
            refine sx_iconst (v := 0) k151_87 (by decide) ?_
            exact cx_retz k151_88 rt_151 h
theorem k153_0 : decode (gb 153) 0 = .ok (.aload_n 0, 1) := by decide +kernel
theorem k153_1 : decode (gb 153) 1 = .ok (.invokevirtual 157, 3) := by decide +kernel
theorem k153_4 : decode (gb 153) 4 = .ok (.aload_n 0, 1) := by decide +kernel
theorem k153_5 : decode (gb 153) 5 = .ok (.iconst 1, 1) := by decide +kernel
theorem k153_6 : decode (gb 153) 6 = .ok (.putfield 47, 3) := by decide +kernel
theorem k153_9 : decode (gb 153) 9 = .ok (.iload_n 1, 1) := by decide +kernel
theorem k153_10 : decode (gb 153) 10 = .ok (.ifCond .ne 9, 3) := by decide +kernel
theorem k153_13 : decode (gb 153) 13 = .ok (.aload_n 0, 1) := by decide +kernel
theorem k153_14 : decode (gb 153) 14 = .ok (.iconst 1, 1) := by decide +kernel
theorem k153_15 : decode (gb 153) 15 = .ok (.putfield 43, 3) := by decide +kernel
theorem k153_18 : decode (gb 153) 18 = .ok (.return_, 1) := by decide +kernel
theorem k153_19 : decode (gb 153) 19 = .ok (.aload_n 0, 1) := by decide +kernel
theorem k153_20 : decode (gb 153) 20 = .ok (.aload_n 0, 1) := by decide +kernel
theorem k153_21 : decode (gb 153) 21 = .ok (.getfield 56, 3) := by decide +kernel
theorem k153_24 : decode (gb 153) 24 = .ok (.putfield 143, 3) := by decide +kernel
theorem k153_27 : decode (gb 153) 27 = .ok (.iload_n 1, 1) := by decide +kernel
theorem k153_28 : decode (gb 153) 28 = .ok (.iconst 1, 1) := by decide +kernel
theorem k153_29 : decode (gb 153) 29 = .ok (.if_icmp .ne 9, 3) := by decide +kernel
theorem k153_32 : decode (gb 153) 32 = .ok (.aload_n 0, 1) := by decide +kernel
theorem k153_33 : decode (gb 153) 33 = .ok (.iconst 4, 1) := by decide +kernel
theorem k153_34 : decode (gb 153) 34 = .ok (.putfield 43, 3) := by decide +kernel
theorem k153_37 : decode (gb 153) 37 = .ok (.return_, 1) := by decide +kernel
theorem k153_38 : decode (gb 153) 38 = .ok (.aload_n 0, 1) := by decide +kernel
theorem k153_39 : decode (gb 153) 39 = .ok (.iconst 5, 1) := by decide +kernel
theorem k153_40 : decode (gb 153) 40 = .ok (.putfield 43, 3) := by decide +kernel
theorem k153_43 : decode (gb 153) 43 = .ok (.aload_n 0, 1) := by decide +kernel
theorem k153_44 : decode (gb 153) 44 = .ok (.getfield 28, 3) := by decide +kernel
theorem k153_47 : decode (gb 153) 47 = .ok (.invokevirtual 82, 3) := by decide +kernel
theorem k153_50 : decode (gb 153) 50 = .ok (.iload_n 1, 1) := by decide +kernel
theorem k153_51 : decode (gb 153) 51 = .ok (.iconst 2, 1) := by decide +kernel
theorem k153_52 : decode (gb 153) 52 = .ok (.if_icmp .ne 14, 3) := by decide +kernel
theorem k153_55 : decode (gb 153) 55 = .ok (.aload_n 0, 1) := by decide +kernel
theorem k153_56 : decode (gb 153) 56 = .ok (.getfield 28, 3) := by decide +kernel
theorem k153_59 : decode (gb 153) 59 = .ok (.iconst 0, 1) := by decide +kernel
theorem k153_60 : decode (gb 153) 60 = .ok (.invokevirtual 88, 3) := by decide +kernel
theorem k153_63 : decode (gb 153) 63 = .ok (.goto 30, 3) := by decide +kernel
theorem k153_66 : decode (gb 153) 66 = .ok (.aload_n 0, 1) := by decide +kernel
theorem k153_67 : decode (gb 153) 67 = .ok (.getfield 28, 3) := by decide +kernel
theorem k153_70 : decode (gb 153) 70 = .ok (.ldc 199, 2) := by decide +kernel
theorem k153_72 : decode (gb 153) 72 = .ok (.invokevirtual 85, 3) := by decide +kernel
theorem k153_75 : decode (gb 153) 75 = .ok (.aload_n 0, 1) := by decide +kernel
theorem k153_76 : decode (gb 153) 76 = .ok (.getfield 28, 3) := by decide +kernel
theorem k153_79 : decode (gb 153) 79 = .ok (.iload_n 2, 1) := by decide +kernel
theorem k153_80 : decode (gb 153) 80 = .ok (.invokevirtual 88, 3) := by decide +kernel
theorem k153_83 : decode (gb 153) 83 = .ok (.aload_n 0, 1) := by decide +kernel
theorem k153_84 : decode (gb 153) 84 = .ok (.iload_n 2, 1) := by decide +kernel
theorem k153_85 : decode (gb 153) 85 = .ok (.putfield 135, 3) := by decide +kernel
theorem k153_88 : decode (gb 153) 88 = .ok (.aload_n 0, 1) := by decide +kernel
theorem k153_89 : decode (gb 153) 89 = .ok (.iload_n 2, 1) := by decide +kernel
theorem k153_90 : decode (gb 153) 90 = .ok (.putfield 121, 3) := by decide +kernel
theorem k153_93 : decode (gb 153) 93 = .ok (.aload_n 0, 1) := by decide +kernel
theorem k153_94 : decode (gb 153) 94 = .ok (.invokevirtual 187, 3) := by decide +kernel
theorem k153_97 : decode (gb 153) 97 = .ok (.return_, 1) := by decide +kernel
def c153_93 (μ : Mem) : Option (Mem) :=
  (f133 μ).bind fun r1 =>
  some r1
theorem c153_93_ok {L : Nat} (μ : Mem) (res : Mem) (h : c153_93 μ = some res) : Sx 153 93 [(0, .ref 28)] [] 0 0 (mk L μ) (mk L res, none) := by
  unfold c153_93 at h
  refine sx_aload_n (i := 0) k153_93 rfl rfl ?_
  obtain ⟨r1, e2, h⟩ := Option.bind_eq_some_iff.mp h
  refine cx_V (sk := []) (vs := []) st_153_133 k153_94 ow_153 cl_7_187 (by decide) rfl (Nat.le_of_ble_eq_true rfl) sk_28 (ok133 _ _ e2) (sk3 := []) rfl rfl ?_
  exact cx_retv k153_97 rt_153 h
/-- Sender.begin(II)V -/
def f153 (p1 : Int32) (p2 : Int32) (μ : Mem) : Option (Mem) :=
  (f140 μ).bind fun r1 =>
  (pfI 28 11 (1 : Int32) r1).bind fun m3 =>
  if p1 = 0 then
    (pfI 28 8 (1 : Int32) m3).bind fun m26 =>
    some m26
  else
    (pfI 28 14 (m3.1 28 15) m3).bind fun m6 =>
    if p1 = (1 : Int32) then
      (pfI 28 8 (4 : Int32) m6).bind fun m24 =>
      some m24
    else
      (pfI 28 8 (5 : Int32) m6).bind fun m9 =>
      (f64 41 m9).bind fun r11 =>
      if p1 = (2 : Int32) then
        (f65 41 (0 : Int32) r11).bind fun r22 =>
        c153_93 r22
      else
        (f66 41 (33280 : Int32) r11).bind fun r14 =>
        (f65 41 p2 r14).bind fun r16 =>
        (pfI 28 9 p2 r16).bind fun m18 =>
        (pfI 28 10 p2 m18).bind fun m20 =>
        c153_93 m20
theorem ok153 {L : Nat} (p1 : Int32) (p2 : Int32) (μ : Mem) (res : Mem) (h : f153 p1 p2 μ = some res) : Mx 153 [.ref 28, .int p1, .int p2] (mk L μ) (mk L res, none) := by
  refine Mx_of ml_153 (by rw [mx_153]; exact Nat.le_of_ble_eq_true rfl) ?_
  show Sx 153 0 [(0, .ref 28), (1, .int p1), (2, .int p2)] [] 0 0 (mk L μ) _
  unfold f153 at h
  refine sx_aload_n (i := 0) k153_0 rfl rfl ?_
  obtain ⟨r1, e2, h⟩ := Option.bind_eq_some_iff.mp h
  refine cx_V (sk := []) (vs := []) st_153_140 k153_1 ow_153 cl_7_157 (by decide) rfl (Nat.le_of_ble_eq_true rfl) sk_28 (ok140 _ _ e2) (sk3 := []) rfl rfl ?_
  refine sx_aload_n (i := 0) k153_4 rfl rfl ?_
  refine sx_iconst (v := 1) k153_5 (by decide) ?_
  obtain ⟨m3, e4, h⟩ := Option.bind_eq_some_iff.mp h
  refine cx_putI (k := 11) k153_6 ow_153 fl_7_47 (by decide) sk_28 nf_6_11 fu_6_11 e4 ?_
  refine sx_iload_n (i := 1) k153_9 rfl rfl ?_
  by_cases hb5 : p1 = 0
  · rw [if_pos hb5] at h
    refine sx_if_ne (tgt := 19) k153_10 (by decide) (fun q => absurd hb5 q) (fun _ => ?_)
    refine sx_aload_n (i := 0) k153_13 rfl rfl ?_
    refine sx_iconst (v := 1) k153_14 (by decide) ?_
    obtain ⟨m26, e27, h⟩ := Option.bind_eq_some_iff.mp h
    refine cx_putI (k := 8) k153_15 ow_153 fl_7_43 (by decide) sk_28 nf_6_8 fu_6_8 e27 ?_
    exact cx_retv k153_18 rt_153 h
  · rw [if_neg hb5] at h
    refine sx_if_ne (tgt := 19) k153_10 (by decide) (fun _ => ?_) (fun q => absurd q hb5)
    refine sx_aload_n (i := 0) k153_19 rfl rfl ?_
    refine sx_aload_n (i := 0) k153_20 rfl rfl ?_
    refine cx_getI (k := 15) k153_21 ow_153 fl_7_56 (by decide) sk_28 ft_6_15 ?_
    obtain ⟨m6, e7, h⟩ := Option.bind_eq_some_iff.mp h
    refine cx_putI (k := 14) k153_24 ow_153 fl_7_143 (by decide) sk_28 nf_6_14 fu_6_14 e7 ?_
    refine sx_iload_n (i := 1) k153_27 rfl rfl ?_
    refine sx_iconst (v := 1) k153_28 (by decide) ?_
    by_cases hb8 : p1 = (1 : Int32)
    · rw [if_pos hb8] at h
      refine sx_icmp_ne (tgt := 38) k153_29 (by decide) (fun q => absurd hb8 q) (fun _ => ?_)
      refine sx_aload_n (i := 0) k153_32 rfl rfl ?_
      refine sx_iconst (v := 4) k153_33 (by decide) ?_
      obtain ⟨m24, e25, h⟩ := Option.bind_eq_some_iff.mp h
      refine cx_putI (k := 8) k153_34 ow_153 fl_7_43 (by decide) sk_28 nf_6_8 fu_6_8 e25 ?_
      exact cx_retv k153_37 rt_153 h
    · rw [if_neg hb8] at h
      refine sx_icmp_ne (tgt := 38) k153_29 (by decide) (fun _ => ?_) (fun q => absurd q hb8)
      refine sx_aload_n (i := 0) k153_38 rfl rfl ?_
      refine sx_iconst (v := 5) k153_39 (by decide) ?_
      obtain ⟨m9, e10, h⟩ := Option.bind_eq_some_iff.mp h
      refine cx_putI (k := 8) k153_40 ow_153 fl_7_43 (by decide) sk_28 nf_6_8 fu_6_8 e10 ?_
      refine sx_aload_n (i := 0) k153_43 rfl rfl ?_
      refine cx_getR (k := 4) k153_44 ow_153 fl_7_28 (by decide) sk_28 ft_6_4 sr_28_4 ?_
      obtain ⟨r11, e12, h⟩ := Option.bind_eq_some_iff.mp h
      refine cx_V (sk := []) (vs := []) st_153_64 k153_47 ow_153 cl_7_82 (by decide) rfl (Nat.le_of_ble_eq_true rfl) sk_41 (ok64 41 sk_41 _ _ e12) (sk3 := []) rfl rfl ?_
      refine sx_iload_n (i := 1) k153_50 rfl rfl ?_
      refine sx_iconst (v := 2) k153_51 (by decide) ?_
      by_cases hb13 : p1 = (2 : Int32)
      · rw [if_pos hb13] at h
        refine sx_icmp_ne (tgt := 66) k153_52 (by decide) (fun q => absurd hb13 q) (fun _ => ?_)
        refine sx_aload_n (i := 0) k153_55 rfl rfl ?_
        refine cx_getR (k := 4) k153_56 ow_153 fl_7_28 (by decide) sk_28 ft_6_4 sr_28_4 ?_
        refine sx_iconst (v := 0) k153_59 (by decide) ?_
        obtain ⟨r22, e23, h⟩ := Option.bind_eq_some_iff.mp h
        refine cx_V (sk := []) (vs := [.int (0 : Int32)]) st_153_65 k153_60 ow_153 cl_7_88 (by decide) rfl (Nat.le_of_ble_eq_true rfl) sk_41 (ok65 41 (0 : Int32) sk_41 _ _ e23) (sk3 := []) rfl rfl ?_
        refine sx_goto (tgt := 93) k153_63 (by decide) ?_
        refine sx_pick (lo2 := [(0, .ref 28)]) [0] rfl ?_
        exact c153_93_ok _ _ h
      · rw [if_neg hb13] at h
        refine sx_icmp_ne (tgt := 66) k153_52 (by decide) (fun _ => ?_) (fun q => absurd q hb13)
        refine sx_aload_n (i := 0) k153_66 rfl rfl ?_
        refine cx_getR (k := 4) k153_67 ow_153 fl_7_28 (by decide) sk_28 ft_6_4 sr_28_4 ?_
        refine cx_ldc (v := 33280) k153_70 ow_153 kl_7_199 (by decide) ?_
        obtain ⟨r14, e15, h⟩ := Option.bind_eq_some_iff.mp h
        refine cx_V (sk := []) (vs := [.int (33280 : Int32)]) st_153_66 k153_72 ow_153 cl_7_85 (by decide) rfl (Nat.le_of_ble_eq_true rfl) sk_41 (ok66 41 (33280 : Int32) sk_41 _ _ e15) (sk3 := []) rfl rfl ?_
        refine sx_aload_n (i := 0) k153_75 rfl rfl ?_
        refine cx_getR (k := 4) k153_76 ow_153 fl_7_28 (by decide) sk_28 ft_6_4 sr_28_4 ?_
        refine sx_iload_n (i := 2) k153_79 rfl rfl ?_
        obtain ⟨r16, e17, h⟩ := Option.bind_eq_some_iff.mp h
        refine cx_V (sk := []) (vs := [.int p2]) st_153_65 k153_80 ow_153 cl_7_88 (by decide) rfl (Nat.le_of_ble_eq_true rfl) sk_41 (ok65 41 p2 sk_41 _ _ e17) (sk3 := []) rfl rfl ?_
        refine sx_aload_n (i := 0) k153_83 rfl rfl ?_
        refine sx_iload_n (i := 2) k153_84 rfl rfl ?_
        obtain ⟨m18, e19, h⟩ := Option.bind_eq_some_iff.mp h
        refine cx_putI (k := 9) k153_85 ow_153 fl_7_135 (by decide) sk_28 nf_6_9 fu_6_9 e19 ?_
        refine sx_aload_n (i := 0) k153_88 rfl rfl ?_
        refine sx_iload_n (i := 2) k153_89 rfl rfl ?_
        obtain ⟨m20, e21, h⟩ := Option.bind_eq_some_iff.mp h
        refine cx_putI (k := 10) k153_90 ow_153 fl_7_121 (by decide) sk_28 nf_6_10 fu_6_10 e21 ?_
        refine sx_pick (lo2 := [(0, .ref 28)]) [0] rfl ?_
        exact c153_93_ok _ _ h
theorem k152_0 : decode (gb 152) 0 = .ok (.iload_n 1, 1) := by decide +kernel
theorem k152_1 : decode (gb 152) 1 = .ok (.tableswitch 70 4 6 #[27, 35, 58], 27) := by decide +kernel
theorem k152_28 : decode (gb 152) 28 = .ok (.aload_n 0, 1) := by decide +kernel
theorem k152_29 : decode (gb 152) 29 = .ok (.bipush 7, 2) := by decide +kernel
theorem k152_31 : decode (gb 152) 31 = .ok (.invokevirtual 164, 3) := by decide +kernel
theorem k152_34 : decode (gb 152) 34 = .ok (.iconst 0, 1) := by decide +kernel
theorem k152_35 : decode (gb 152) 35 = .ok (.ireturn, 1) := by decide +kernel
theorem k152_36 : decode (gb 152) 36 = .ok (.aload_n 0, 1) := by decide +kernel
theorem k152_37 : decode (gb 152) 37 = .ok (.aload_n 0, 1) := by decide +kernel
theorem k152_38 : decode (gb 152) 38 = .ok (.getfield 151, 3) := by decide +kernel
theorem k152_41 : decode (gb 152) 41 = .ok (.putfield 43, 3) := by decide +kernel
theorem k152_44 : decode (gb 152) 44 = .ok (.aload_n 0, 1) := by decide +kernel
theorem k152_45 : decode (gb 152) 45 = .ok (.iconst 0, 1) := by decide +kernel
theorem k152_46 : decode (gb 152) 46 = .ok (.putfield 151, 3) := by decide +kernel
theorem k152_49 : decode (gb 152) 49 = .ok (.aload_n 0, 1) := by decide +kernel
theorem k152_50 : decode (gb 152) 50 = .ok (.aload_n 0, 1) := by decide +kernel
theorem k152_51 : decode (gb 152) 51 = .ok (.getfield 56, 3) := by decide +kernel
theorem k152_54 : decode (gb 152) 54 = .ok (.putfield 143, 3) := by decide +kernel
theorem k152_57 : decode (gb 152) 57 = .ok (.iconst 1, 1) := by decide +kernel
theorem k152_58 : decode (gb 152) 58 = .ok (.ireturn, 1) := by decide +kernel
theorem k152_59 : decode (gb 152) 59 = .ok (.aload_n 0, 1) := by decide +kernel
theorem k152_60 : decode (gb 152) 60 = .ok (.iload_n 2, 1) := by decide +kernel
theorem k152_61 : decode (gb 152) 61 = .ok (.putfield 135, 3) := by decide +kernel
theorem k152_64 : decode (gb 152) 64 = .ok (.aload_n 0, 1) := by decide +kernel
theorem k152_65 : decode (gb 152) 65 = .ok (.iload_n 2, 1) := by decide +kernel
theorem k152_66 : decode (gb 152) 66 = .ok (.putfield 121, 3) := by decide +kernel
theorem k152_69 : decode (gb 152) 69 = .ok (.iconst 0, 1) := by decide +kernel
theorem k152_70 : decode (gb 152) 70 = .ok (.ireturn, 1) := by decide +kernel
theorem k152_71 : decode (gb 152) 71 = .ok (.aload_n 0, 1) := by decide +kernel
theorem k152_72 : decode (gb 152) 72 = .ok (.iload_n 1, 1) := by decide +kernel
theorem k152_73 : decode (gb 152) 73 = .ok (.iload_n 2, 1) := by decide +kernel
theorem k152_74 : decode (gb 152) 74 = .ok (.invokevirtual 196, 3) := by decide +kernel
theorem k152_77 : decode (gb 152) 77 = .ok (.iconst 0, 1) := by decide +kernel
theorem k152_78 : decode (gb 152) 78 = .ok (.ireturn, 1) := by decide +kernel
/-- Sender.obey(II)Z -/
def f152 (p1 : Int32) (p2 : Int32) (μ : Mem) : Option (Mem × Int32) :=
  if p1 = (4 : Int32) then
    (f141 (7 : Int32) μ).bind fun r1 =>
    rtZ (0 : Int32) r1
  else if p1 = (5 : Int32) then
    (pfI 28 8 (μ.1 28 17) μ).bind fun m4 =>
    (pfI 28 17 (0 : Int32) m4).bind fun m6 =>
    (pfI 28 14 (m6.1 28 15) m6).bind fun m8 =>
    rtZ (1 : Int32) m8
  else if p1 = (6 : Int32) then
    (pfI 28 9 p2 μ).bind fun m11 =>
    (pfI 28 10 p2 m11).bind fun m13 =>
    rtZ (0 : Int32) m13
  else 
    (f153 p1 p2 μ).bind fun r16 =>
    rtZ (0 : Int32) r16
theorem ok152 {L : Nat} (p1 : Int32) (p2 : Int32) (μ : Mem) (res : Mem × Int32) (h : f152 p1 p2 μ = some res) : Mx 152 [.ref 28, .int p1, .int p2] (mk L μ) (mk L res.1, some (.int res.2)) := by
  refine Mx_of ml_152 (by rw [mx_152]; exact Nat.le_of_ble_eq_true rfl) ?_
  show Sx 152 0 [(0, .ref 28), (1, .int p1), (2, .int p2)] [] 0 0 (mk L μ) _
  unfold f152 at h
  refine sx_iload_n (i := 1) k152_0 rfl rfl ?_
  by_cases hb3 : p1 = (4 : Int32)
  · rw [if_pos hb3] at h
    refine sx_tableIn (off := 27) (tgt := 28) k152_1 (by rw [hb3]; decide) (by rw [hb3]; decide) (by rw [hb3]; rfl) (by decide) ?_
    refine sx_aload_n (i := 0) k152_28 rfl rfl ?_
    refine sx_bipush (v := 7) k152_29 (by decide) ?_
    obtain ⟨r1, e2, h⟩ := Option.bind_eq_some_iff.mp h
    refine cx_V (sk := []) (vs := [.int (7 : Int32)]) st_152_141 k152_31 ow_152 cl_7_164 (by decide) rfl (Nat.le_of_ble_eq_true rfl) sk_28 (ok141 (7 : Int32) _ _ e2) (sk3 := []) rfl rfl ?_
    refine sx_iconst (v := 0) k152_34 (by decide) ?_
    exact cx_retz k152_35 rt_152 h
  · rw [if_neg hb3] at h
    by_cases hb10 : p1 = (5 : Int32)
    · rw [if_pos hb10] at h
      refine sx_tableIn (off := 35) (tgt := 36) k152_1 (by rw [hb10]; decide) (by rw [hb10]; decide) (by rw [hb10]; rfl) (by decide) ?_
      refine sx_aload_n (i := 0) k152_36 rfl rfl ?_
      refine sx_aload_n (i := 0) k152_37 rfl rfl ?_
      refine cx_getI (k := 17) k152_38 ow_152 fl_7_151 (by decide) sk_28 ft_6_17 ?_
      obtain ⟨m4, e5, h⟩ := Option.bind_eq_some_iff.mp h
      refine cx_putI (k := 8) k152_41 ow_152 fl_7_43 (by decide) sk_28 nf_6_8 fu_6_8 e5 ?_
      refine sx_aload_n (i := 0) k152_44 rfl rfl ?_
      refine sx_iconst (v := 0) k152_45 (by decide) ?_
      obtain ⟨m6, e7, h⟩ := Option.bind_eq_some_iff.mp h
      refine cx_putI (k := 17) k152_46 ow_152 fl_7_151 (by decide) sk_28 nf_6_17 fu_6_17 e7 ?_
      refine sx_aload_n (i := 0) k152_49 rfl rfl ?_
      refine sx_aload_n (i := 0) k152_50 rfl rfl ?_
      refine cx_getI (k := 15) k152_51 ow_152 fl_7_56 (by decide) sk_28 ft_6_15 ?_
      obtain ⟨m8, e9, h⟩ := Option.bind_eq_some_iff.mp h
      refine cx_putI (k := 14) k152_54 ow_152 fl_7_143 (by decide) sk_28 nf_6_14 fu_6_14 e9 ?_
      refine sx_iconst (v := 1) k152_57 (by decide) ?_
      exact cx_retz k152_58 rt_152 h
    · rw [if_neg hb10] at h
      by_cases hb15 : p1 = (6 : Int32)
      · rw [if_pos hb15] at h
        refine sx_tableIn (off := 58) (tgt := 59) k152_1 (by rw [hb15]; decide) (by rw [hb15]; decide) (by rw [hb15]; rfl) (by decide) ?_
        refine sx_aload_n (i := 0) k152_59 rfl rfl ?_
        refine sx_iload_n (i := 2) k152_60 rfl rfl ?_
        obtain ⟨m11, e12, h⟩ := Option.bind_eq_some_iff.mp h
        refine cx_putI (k := 9) k152_61 ow_152 fl_7_135 (by decide) sk_28 nf_6_9 fu_6_9 e12 ?_
        refine sx_aload_n (i := 0) k152_64 rfl rfl ?_
        refine sx_iload_n (i := 2) k152_65 rfl rfl ?_
        obtain ⟨m13, e14, h⟩ := Option.bind_eq_some_iff.mp h
        refine cx_putI (k := 10) k152_66 ow_152 fl_7_121 (by decide) sk_28 nf_6_10 fu_6_10 e14 ?_
        refine sx_iconst (v := 0) k152_69 (by decide) ?_
        exact cx_retz k152_70 rt_152 h
      · rw [if_neg hb15] at h
        refine sx_tableOut (tgt := 71) k152_1 (sw_out (n := 3) (fun j hj => ?_)) (by decide) ?_
        · intro hj2
          exact sw_no [(4 : Int32), (5 : Int32), (6 : Int32)] (by decide) hj hj2 ⟨hb3, hb10, hb15, trivial⟩
        ·
          refine sx_aload_n (i := 0) k152_71 rfl rfl ?_
          refine sx_iload_n (i := 1) k152_72 rfl rfl ?_
          refine sx_iload_n (i := 2) k152_73 rfl rfl ?_
          obtain ⟨r16, e17, h⟩ := Option.bind_eq_some_iff.mp h
          refine cx_V (sk := []) (vs := [.int p1, .int p2]) st_152_153 k152_74 ow_152 cl_7_196 (by decide) rfl (Nat.le_of_ble_eq_true rfl) sk_28 (ok153 p1 p2 _ _ e17) (sk3 := []) rfl rfl ?_
          refine sx_iconst (v := 0) k152_77 (by decide) ?_
          exact cx_retz k152_78 rt_152 h
theorem k154_0 : decode (gb 154) 0 = .ok (.iload_n 1, 1) := by decide +kernel
theorem k154_1 : decode (gb 154) 1 = .ok (.tableswitch 63 7 10 #[31, 39, 47, 55], 31) := by decide +kernel
theorem k154_32 : decode (gb 154) 32 = .ok (.aload_n 0, 1) := by decide +kernel
theorem k154_33 : decode (gb 154) 33 = .ok (.iload_n 2, 1) := by decide +kernel
theorem k154_34 : decode (gb 154) 34 = .ok (.putfield 53, 3) := by decide +kernel
theorem k154_37 : decode (gb 154) 37 = .ok (.goto 27, 3) := by decide +kernel
theorem k154_40 : decode (gb 154) 40 = .ok (.aload_n 0, 1) := by decide +kernel
theorem k154_41 : decode (gb 154) 41 = .ok (.iload_n 2, 1) := by decide +kernel
theorem k154_42 : decode (gb 154) 42 = .ok (.putfield 56, 3) := by decide +kernel
theorem k154_45 : decode (gb 154) 45 = .ok (.goto 19, 3) := by decide +kernel
theorem k154_48 : decode (gb 154) 48 = .ok (.aload_n 0, 1) := by decide +kernel
theorem k154_49 : decode (gb 154) 49 = .ok (.iload_n 2, 1) := by decide +kernel
theorem k154_50 : decode (gb 154) 50 = .ok (.putfield 50, 3) := by decide +kernel
theorem k154_53 : decode (gb 154) 53 = .ok (.goto 11, 3) := by decide +kernel
theorem k154_56 : decode (gb 154) 56 = .ok (.aload_n 0, 1) := by decide +kernel
theorem k154_57 : decode (gb 154) 57 = .ok (.iload_n 2, 1) := by decide +kernel
theorem k154_58 : decode (gb 154) 58 = .ok (.putfield 190, 3) := by decide +kernel
theorem k154_61 : decode (gb 154) 61 = .ok (.goto 3, 3) := by decide +kernel
theorem k154_64 : decode (gb 154) 64 = .ok (.return_, 1) := by decide +kernel
/-- Sender.setNumber(II)V -/
def f154 (p1 : Int32) (p2 : Int32) (μ : Mem) : Option (Mem) :=
  if p1 = (7 : Int32) then
    (pfI 28 13 p2 μ).bind fun m1 =>
    some m1
  else if p1 = (8 : Int32) then
    (pfI 28 15 p2 μ).bind fun m4 =>
    some m4
  else if p1 = (9 : Int32) then
    (pfI 28 12 p2 μ).bind fun m7 =>
    some m7
  else if p1 = (10 : Int32) then
    (pfI 28 16 p2 μ).bind fun m10 =>
    some m10
  else 
    some μ
theorem ok154 {L : Nat} (p1 : Int32) (p2 : Int32) (μ : Mem) (res : Mem) (h : f154 p1 p2 μ = some res) : Mx 154 [.ref 28, .int p1, .int p2] (mk L μ) (mk L res, none) := by
  refine Mx_of ml_154 (by rw [mx_154]; exact Nat.le_of_ble_eq_true rfl) ?_
  show Sx 154 0 [(0, .ref 28), (1, .int p1), (2, .int p2)] [] 0 0 (mk L μ) _
  unfold f154 at h
  refine sx_iload_n (i := 1) k154_0 rfl rfl ?_
  by_cases hb3 : p1 = (7 : Int32)
  · rw [if_pos hb3] at h
    refine sx_tableIn (off := 31) (tgt := 32) k154_1 (by rw [hb3]; decide) (by rw [hb3]; decide) (by rw [hb3]; rfl) (by decide) ?_
    refine sx_aload_n (i := 0) k154_32 rfl rfl ?_
    refine sx_iload_n (i := 2) k154_33 rfl rfl ?_
    obtain ⟨m1, e2, h⟩ := Option.bind_eq_some_iff.mp h
    refine cx_putI (k := 13) k154_34 ow_154 fl_7_53 (by decide) sk_28 nf_6_13 fu_6_13 e2 ?_
    refine sx_goto (tgt := 64) k154_37 (by decide) ?_
    exact cx_retv k154_64 rt_154 h
  · rw [if_neg hb3] at h
    by_cases hb6 : p1 = (8 : Int32)
    · rw [if_pos hb6] at h
      refine sx_tableIn (off := 39) (tgt := 40) k154_1 (by rw [hb6]; decide) (by rw [hb6]; decide) (by rw [hb6]; rfl) (by decide) ?_
      refine sx_aload_n (i := 0) k154_40 rfl rfl ?_
      refine sx_iload_n (i := 2) k154_41 rfl rfl ?_
      obtain ⟨m4, e5, h⟩ := Option.bind_eq_some_iff.mp h
      refine cx_putI (k := 15) k154_42 ow_154 fl_7_56 (by decide) sk_28 nf_6_15 fu_6_15 e5 ?_
      refine sx_goto (tgt := 64) k154_45 (by decide) ?_
      exact cx_retv k154_64 rt_154 h
    · rw [if_neg hb6] at h
      by_cases hb9 : p1 = (9 : Int32)
      · rw [if_pos hb9] at h
        refine sx_tableIn (off := 47) (tgt := 48) k154_1 (by rw [hb9]; decide) (by rw [hb9]; decide) (by rw [hb9]; rfl) (by decide) ?_
        refine sx_aload_n (i := 0) k154_48 rfl rfl ?_
        refine sx_iload_n (i := 2) k154_49 rfl rfl ?_
        obtain ⟨m7, e8, h⟩ := Option.bind_eq_some_iff.mp h
        refine cx_putI (k := 12) k154_50 ow_154 fl_7_50 (by decide) sk_28 nf_6_12 fu_6_12 e8 ?_
        refine sx_goto (tgt := 64) k154_53 (by decide) ?_
        exact cx_retv k154_64 rt_154 h
      · rw [if_neg hb9] at h
        by_cases hb12 : p1 = (10 : Int32)
        · rw [if_pos hb12] at h
          refine sx_tableIn (off := 55) (tgt := 56) k154_1 (by rw [hb12]; decide) (by rw [hb12]; decide) (by rw [hb12]; rfl) (by decide) ?_
          refine sx_aload_n (i := 0) k154_56 rfl rfl ?_
          refine sx_iload_n (i := 2) k154_57 rfl rfl ?_
          obtain ⟨m10, e11, h⟩ := Option.bind_eq_some_iff.mp h
          refine cx_putI (k := 16) k154_58 ow_154 fl_7_190 (by decide) sk_28 nf_6_16 fu_6_16 e11 ?_
          refine sx_goto (tgt := 64) k154_61 (by decide) ?_
          exact cx_retv k154_64 rt_154 h
        · rw [if_neg hb12] at h
          refine sx_tableOut (tgt := 64) k154_1 (sw_out (n := 4) (fun j hj => ?_)) (by decide) ?_
          · intro hj2
            exact sw_no [(7 : Int32), (8 : Int32), (9 : Int32), (10 : Int32)] (by decide) hj hj2 ⟨hb3, hb6, hb9, hb12, trivial⟩
          ·
            exact cx_retv k154_64 rt_154 h
theorem k156_0 : decode (gb 156) 0 = .ok (.iconst 0, 1) := by decide +kernel
theorem k156_1 : decode (gb 156) 1 = .ok (.istore_n 1, 1) := by decide +kernel
theorem k156_2 : decode (gb 156) 2 = .ok (.iconst 0, 1) := by decide +kernel
theorem k156_3 : decode (gb 156) 3 = .ok (.istore_n 2, 1) := by decide +kernel
theorem k156_4 : decode (gb 156) 4 = .ok (.iload_n 2, 1) := by decide +kernel
theorem k156_5 : decode (gb 156) 5 = .ok (.aload_n 0, 1) := by decide +kernel
theorem k156_6 : decode (gb 156) 6 = .ok (.getfield 16, 3) := by decide +kernel
theorem k156_9 : decode (gb 156) 9 = .ok (.getfield 124, 3) := by decide +kernel
theorem k156_12 : decode (gb 156) 12 = .ok (.if_icmp .ge 20, 3) := by decide +kernel
theorem k156_15 : decode (gb 156) 15 = .ok (.iload_n 1, 1) := by decide +kernel
theorem k156_16 : decode (gb 156) 16 = .ok (.aload_n 0, 1) := by decide +kernel
theorem k156_17 : decode (gb 156) 17 = .ok (.getfield 16, 3) := by decide +kernel
theorem k156_20 : decode (gb 156) 20 = .ok (.iload_n 2, 1) := by decide +kernel
theorem k156_21 : decode (gb 156) 21 = .ok (.invokevirtual 125, 3) := by decide +kernel
theorem k156_24 : decode (gb 156) 24 = .ok (.iadd, 1) := by decide +kernel
theorem k156_25 : decode (gb 156) 25 = .ok (.istore_n 1, 1) := by decide +kernel
theorem k156_26 : decode (gb 156) 26 = .ok (.iinc 2 1, 3) := by decide +kernel
theorem k156_29 : decode (gb 156) 29 = .ok (.goto (-25), 3) := by decide +kernel
theorem k156_32 : decode (gb 156) 32 = .ok (.iload_n 1, 1) := by decide +kernel
theorem k156_33 : decode (gb 156) 33 = .ok (.ireturn, 1) := by decide +kernel
def b156_4 (kl4 : Int32 → Int32 → Mem → Option (Mem × Int32)) (v1 : Int32) (v2 : Int32) (μ : Mem) : Option (Mem × Int32) :=
  if (μ.1 29 5) ≤ v2 then
    some (μ, v1)
  else
    (f168 29 v2 μ).bind fun r2 =>
    nm (v1 + r2.2) fun x4 =>
    nm (v2 + (1 : Int32)) fun x5 =>
    kl4 x4 x5 r2.1
theorem b156_4_ok {L : Nat} (kl4 : Int32 → Int32 → Mem → Option (Mem × Int32)) (hk4 : (∀ (v1 : Int32) (v2 : Int32) (μ : Mem) (res : Mem × Int32), kl4 v1 v2 μ = some res → Sx 156 4 [(0, .ref 28), (1, .int v1), (2, .int v2)] [] 0 0 (mk L μ) (mk L res.1, some (.int res.2)))) (v1 : Int32) (v2 : Int32) (μ : Mem) (res : Mem × Int32) (h : b156_4 kl4 v1 v2 μ = some res) : Sx 156 4 [(0, .ref 28), (1, .int v1), (2, .int v2)] [] 0 0 (mk L μ) (mk L res.1, some (.int res.2)) := by
  unfold b156_4 at h
  refine sx_iload_n (i := 2) k156_4 rfl rfl ?_
  refine sx_aload_n (i := 0) k156_5 rfl rfl ?_
  refine cx_getR (k := 2) k156_6 ow_156 fl_7_16 (by decide) sk_28 ft_6_2 sr_28_2 ?_
  refine cx_getI (k := 5) k156_9 ow_156 fl_7_124 (by decide) sk_29 ft_7_5 ?_
  by_cases hb1 : (μ.1 29 5) ≤ v2
  · rw [if_pos hb1] at h
    refine sx_icmp_ge (tgt := 32) k156_12 (by decide) (fun _ => ?_) (fun q => absurd hb1 q)
    refine sx_iload_n (i := 1) k156_32 rfl rfl ?_
    exact cx_reti k156_33 rt_156 h
  · rw [if_neg hb1] at h
    refine sx_icmp_ge (tgt := 32) k156_12 (by decide) (fun q => absurd q hb1) (fun _ => ?_)
    refine sx_iload_n (i := 1) k156_15 rfl rfl ?_
    refine sx_aload_n (i := 0) k156_16 rfl rfl ?_
    refine cx_getR (k := 2) k156_17 ow_156 fl_7_16 (by decide) sk_28 ft_6_2 sr_28_2 ?_
    refine sx_iload_n (i := 2) k156_20 rfl rfl ?_
    obtain ⟨r2, e3, h⟩ := Option.bind_eq_some_iff.mp h
    refine cx_V (sk := [.int v1]) (vs := [.int v2]) st_156_168 k156_21 ow_156 cl_7_125 (by decide) rfl (Nat.le_of_ble_eq_true rfl) sk_29 (ok168 29 v2 sk_29 _ _ e3) (sk3 := [.int r2.2, .int v1]) rfl rfl ?_
    refine sx_iadd k156_24 ?_
    refine cx_nm h (fun x4 h => ?_)
    refine cx_istore_n (lo2 := [(1, .int x4), (0, .ref 28), (2, .int v2)]) k156_25 rfl (by rw [mx_156]; decide) rfl ?_
    refine cx_iinc (c := 1) (lo2 := fun x5 => [(2, .int x5), (1, .int x4), (0, .ref 28)]) k156_26 rfl (by decide) (by rw [mx_156]; decide) (fun _ => rfl) h (fun x5 h => ?_)
    refine sx_goto (tgt := 4) k156_29 (by decide) ?_
    refine sx_pick (lo2 := [(0, .ref 28), (1, .int x4), (2, .int x5)]) [2, 1, 0] rfl ?_
    exact hk4 x4 x5 _ _ h
def l156_4 : Nat → Int32 × Int32 × Mem → Option (Mem × Int32) :=
  fixN (fun self x => b156_4 (fun v1 v2 μ => self (v1, v2, μ)) (x.1) (x.2.1) (x.2.2))
theorem l156_4_ok {L : Nat} (n : Nat) (v1 : Int32) (v2 : Int32) (μ : Mem) (res : Mem × Int32) (h : l156_4 n (v1, v2, μ) = some res) : Sx 156 4 [(0, .ref 28), (1, .int v1), (2, .int v2)] [] 0 0 (mk L μ) (mk L res.1, some (.int res.2)) := by
  have key := fixN_ind (P := fun x res => Sx 156 4 [(0, .ref 28), (1, .int (x.1)), (2, .int (x.2.1))] [] 0 0 (mk L (x.2.2)) (mk L res.1, some (.int res.2))) (F := fun self x => b156_4 (fun v1 v2 μ => self (v1, v2, μ)) (x.1) (x.2.1) (x.2.2)) (fun self hself x res h => b156_4_ok (fun v1 v2 μ => self (v1, v2, μ)) (fun v1 v2 μ res hh => hself (v1, v2, μ) res hh) (x.1) (x.2.1) (x.2.2) res h) n (v1, v2, μ) res h
  exact key
/-- Sender.markedCount()I -/
def f156 (μ : Mem) : Option (Mem × Int32) :=
  l156_4 gF ((0 : Int32), (0 : Int32), μ)
theorem ok156 {L : Nat} (μ : Mem) (res : Mem × Int32) (h : f156 μ = some res) : Mx 156 [.ref 28] (mk L μ) (mk L res.1, some (.int res.2)) := by
  refine Mx_of ml_156 (by rw [mx_156]; exact Nat.le_of_ble_eq_true rfl) ?_
  show Sx 156 0 [(0, .ref 28)] [] 0 0 (mk L μ) _
  unfold f156 at h
  refine sx_iconst (v := 0) k156_0 (by decide) ?_
  refine cx_istore_n (lo2 := [(1, .int (0 : Int32)), (0, .ref 28)]) k156_1 rfl (by rw [mx_156]; decide) rfl ?_
  refine sx_iconst (v := 0) k156_2 (by decide) ?_
  refine cx_istore_n (lo2 := [(2, .int (0 : Int32)), (1, .int (0 : Int32)), (0, .ref 28)]) k156_3 rfl (by rw [mx_156]; decide) rfl ?_
  refine sx_pick (lo2 := [(0, .ref 28), (1, .int (0 : Int32)), (2, .int (0 : Int32))]) [2, 1, 0] rfl ?_
  exact l156_4_ok gF (0 : Int32) (0 : Int32) _ _ h
theorem k155_0 : decode (gb 155) 0 = .ok (.iload_n 1, 1) := by decide +kernel
theorem k155_1 : decode (gb 155) 1 = .ok (.tableswitch 147 0 13 #[71, 76, 81, 86, 91, 96, 101, 106, 114, 122, 127, 132, 137, 142], 71) := by decide +kernel
theorem k155_72 : decode (gb 155) 72 = .ok (.aload_n 0, 1) := by decide +kernel
theorem k155_73 : decode (gb 155) 73 = .ok (.getfield 43, 3) := by decide +kernel
theorem k155_76 : decode (gb 155) 76 = .ok (.ireturn, 1) := by decide +kernel
theorem k155_77 : decode (gb 155) 77 = .ok (.aload_n 0, 1) := by decide +kernel
theorem k155_78 : decode (gb 155) 78 = .ok (.getfield 135, 3) := by decide +kernel
theorem k155_81 : decode (gb 155) 81 = .ok (.ireturn, 1) := by decide +kernel
theorem k155_82 : decode (gb 155) 82 = .ok (.aload_n 0, 1) := by decide +kernel
theorem k155_83 : decode (gb 155) 83 = .ok (.getfield 121, 3) := by decide +kernel
theorem k155_86 : decode (gb 155) 86 = .ok (.ireturn, 1) := by decide +kernel
theorem k155_87 : decode (gb 155) 87 = .ok (.aload_n 0, 1) := by decide +kernel
theorem k155_88 : decode (gb 155) 88 = .ok (.getfield 47, 3) := by decide +kernel
theorem k155_91 : decode (gb 155) 91 = .ok (.ireturn, 1) := by decide +kernel
theorem k155_92 : decode (gb 155) 92 = .ok (.aload_n 0, 1) := by decide +kernel
theorem k155_93 : decode (gb 155) 93 = .ok (.getfield 143, 3) := by decide +kernel
theorem k155_96 : decode (gb 155) 96 = .ok (.ireturn, 1) := by decide +kernel
theorem k155_97 : decode (gb 155) 97 = .ok (.aload_n 0, 1) := by decide +kernel
theorem k155_98 : decode (gb 155) 98 = .ok (.getfield 151, 3) := by decide +kernel
theorem k155_101 : decode (gb 155) 101 = .ok (.ireturn, 1) := by decide +kernel
theorem k155_102 : decode (gb 155) 102 = .ok (.aload_n 0, 1) := by decide +kernel
theorem k155_103 : decode (gb 155) 103 = .ok (.getfield 154, 3) := by decide +kernel
theorem k155_106 : decode (gb 155) 106 = .ok (.ireturn, 1) := by decide +kernel
theorem k155_107 : decode (gb 155) 107 = .ok (.aload_n 0, 1) := by decide +kernel
theorem k155_108 : decode (gb 155) 108 = .ok (.getfield 16, 3) := by decide +kernel
theorem k155_111 : decode (gb 155) 111 = .ok (.getfield 124, 3) := by decide +kernel
theorem k155_114 : decode (gb 155) 114 = .ok (.ireturn, 1) := by decide +kernel
theorem k155_115 : decode (gb 155) 115 = .ok (.aload_n 0, 1) := by decide +kernel
theorem k155_116 : decode (gb 155) 116 = .ok (.getfield 20, 3) := by decide +kernel
theorem k155_119 : decode (gb 155) 119 = .ok (.getfield 124, 3) := by decide +kernel
theorem k155_122 : decode (gb 155) 122 = .ok (.ireturn, 1) := by decide +kernel
theorem k155_123 : decode (gb 155) 123 = .ok (.aload_n 0, 1) := by decide +kernel
theorem k155_124 : decode (gb 155) 124 = .ok (.invokevirtual 200, 3) := by decide +kernel
theorem k155_127 : decode (gb 155) 127 = .ok (.ireturn, 1) := by decide +kernel
theorem k155_128 : decode (gb 155) 128 = .ok (.aload_n 0, 1) := by decide +kernel
theorem k155_129 : decode (gb 155) 129 = .ok (.getfield 50, 3) := by decide +kernel
theorem k155_132 : decode (gb 155) 132 = .ok (.ireturn, 1) := by decide +kernel
theorem k155_133 : decode (gb 155) 133 = .ok (.aload_n 0, 1) := by decide +kernel
theorem k155_134 : decode (gb 155) 134 = .ok (.getfield 53, 3) := by decide +kernel
theorem k155_137 : decode (gb 155) 137 = .ok (.ireturn, 1) := by decide +kernel
theorem k155_138 : decode (gb 155) 138 = .ok (.aload_n 0, 1) := by decide +kernel
theorem k155_139 : decode (gb 155) 139 = .ok (.getfield 56, 3) := by decide +kernel
theorem k155_142 : decode (gb 155) 142 = .ok (.ireturn, 1) := by decide +kernel
theorem k155_143 : decode (gb 155) 143 = .ok (.aload_n 0, 1) := by decide +kernel
theorem k155_144 : decode (gb 155) 144 = .ok (.getfield 190, 3) := by decide +kernel
theorem k155_147 : decode (gb 155) 147 = .ok (.ireturn, 1) := by decide +kernel
theorem k155_148 : decode (gb 155) 148 = .ok (.iconst (-1), 1) := by decide +kernel
theorem k155_149 : decode (gb 155) 149 = .ok (.ireturn, 1) := by decide +kernel
/-- Sender.tell(I)I -/
def f155 (p1 : Int32) (μ : Mem) : Option (Mem × Int32) :=
  if p1 = (0 : Int32) then
    some (μ, (μ.1 28 8))
  else if p1 = (1 : Int32) then
    some (μ, (μ.1 28 9))
  else if p1 = (2 : Int32) then
    some (μ, (μ.1 28 10))
  else if p1 = (3 : Int32) then
    some (μ, (μ.1 28 11))
  else if p1 = (4 : Int32) then
    some (μ, (μ.1 28 14))
  else if p1 = (5 : Int32) then
    some (μ, (μ.1 28 17))
  else if p1 = (6 : Int32) then
    some (μ, (μ.1 28 18))
  else if p1 = (7 : Int32) then
    some (μ, (μ.1 29 5))
  else if p1 = (8 : Int32) then
    some (μ, (μ.1 35 5))
  else if p1 = (9 : Int32) then
    (f156 μ).bind fun r10 =>
    some (r10.1, r10.2)
  else if p1 = (10 : Int32) then
    some (μ, (μ.1 28 12))
  else if p1 = (11 : Int32) then
    some (μ, (μ.1 28 13))
  else if p1 = (12 : Int32) then
    some (μ, (μ.1 28 15))
  else if p1 = (13 : Int32) then
    some (μ, (μ.1 28 16))
  else 
    some (μ, (-1 : Int32))
theorem ok155 {L : Nat} (p1 : Int32) (μ : Mem) (res : Mem × Int32) (h : f155 p1 μ = some res) : Mx 155 [.ref 28, .int p1] (mk L μ) (mk L res.1, some (.int res.2)) := by
  refine Mx_of ml_155 (by rw [mx_155]; exact Nat.le_of_ble_eq_true rfl) ?_
  show Sx 155 0 [(0, .ref 28), (1, .int p1)] [] 0 0 (mk L μ) _
  unfold f155 at h
  refine sx_iload_n (i := 1) k155_0 rfl rfl ?_
  by_cases hb1 : p1 = (0 : Int32)
  · rw [if_pos hb1] at h
    refine sx_tableIn (off := 71) (tgt := 72) k155_1 (by rw [hb1]; decide) (by rw [hb1]; decide) (by rw [hb1]; rfl) (by decide) ?_
    refine sx_aload_n (i := 0) k155_72 rfl rfl ?_
    refine cx_getI (k := 8) k155_73 ow_155 fl_7_43 (by decide) sk_28 ft_6_8 ?_
    exact cx_reti k155_76 rt_155 h
  · rw [if_neg hb1] at h
    by_cases hb2 : p1 = (1 : Int32)
    · rw [if_pos hb2] at h
      refine sx_tableIn (off := 76) (tgt := 77) k155_1 (by rw [hb2]; decide) (by rw [hb2]; decide) (by rw [hb2]; rfl) (by decide) ?_
      refine sx_aload_n (i := 0) k155_77 rfl rfl ?_
      refine cx_getI (k := 9) k155_78 ow_155 fl_7_135 (by decide) sk_28 ft_6_9 ?_
      exact cx_reti k155_81 rt_155 h
    · rw [if_neg hb2] at h
      by_cases hb3 : p1 = (2 : Int32)
      · rw [if_pos hb3] at h
        refine sx_tableIn (off := 81) (tgt := 82) k155_1 (by rw [hb3]; decide) (by rw [hb3]; decide) (by rw [hb3]; rfl) (by decide) ?_
        refine sx_aload_n (i := 0) k155_82 rfl rfl ?_
        refine cx_getI (k := 10) k155_83 ow_155 fl_7_121 (by decide) sk_28 ft_6_10 ?_
        exact cx_reti k155_86 rt_155 h
      · rw [if_neg hb3] at h
        by_cases hb4 : p1 = (3 : Int32)
        · rw [if_pos hb4] at h
          refine sx_tableIn (off := 86) (tgt := 87) k155_1 (by rw [hb4]; decide) (by rw [hb4]; decide) (by rw [hb4]; rfl) (by decide) ?_
          refine sx_aload_n (i := 0) k155_87 rfl rfl ?_
          refine cx_getI (k := 11) k155_88 ow_155 fl_7_47 (by decide) sk_28 ft_6_11 ?_
          exact cx_reti k155_91 rt_155 h
        · rw [if_neg hb4] at h
          by_cases hb5 : p1 = (4 : Int32)
          · rw [if_pos hb5] at h
            refine sx_tableIn (off := 91) (tgt := 92) k155_1 (by rw [hb5]; decide) (by rw [hb5]; decide) (by rw [hb5]; rfl) (by decide) ?_
            refine sx_aload_n (i := 0) k155_92 rfl rfl ?_
            refine cx_getI (k := 14) k155_93 ow_155 fl_7_143 (by decide) sk_28 ft_6_14 ?_
            exact cx_reti k155_96 rt_155 h
          · rw [if_neg hb5] at h
            by_cases hb6 : p1 = (5 : Int32)
            · rw [if_pos hb6] at h
              refine sx_tableIn (off := 96) (tgt := 97) k155_1 (by rw [hb6]; decide) (by rw [hb6]; decide) (by rw [hb6]; rfl) (by decide) ?_
              refine sx_aload_n (i := 0) k155_97 rfl rfl ?_
              refine cx_getI (k := 17) k155_98 ow_155 fl_7_151 (by decide) sk_28 ft_6_17 ?_
              exact cx_reti k155_101 rt_155 h
            · rw [if_neg hb6] at h
              by_cases hb7 : p1 = (6 : Int32)
              · rw [if_pos hb7] at h
                refine sx_tableIn (off := 101) (tgt := 102) k155_1 (by rw [hb7]; decide) (by rw [hb7]; decide) (by rw [hb7]; rfl) (by decide) ?_
                refine sx_aload_n (i := 0) k155_102 rfl rfl ?_
                refine cx_getI (k := 18) k155_103 ow_155 fl_7_154 (by decide) sk_28 ft_6_18 ?_
                exact cx_reti k155_106 rt_155 h
              · rw [if_neg hb7] at h
                by_cases hb8 : p1 = (7 : Int32)
                · rw [if_pos hb8] at h
                  refine sx_tableIn (off := 106) (tgt := 107) k155_1 (by rw [hb8]; decide) (by rw [hb8]; decide) (by rw [hb8]; rfl) (by decide) ?_
                  refine sx_aload_n (i := 0) k155_107 rfl rfl ?_
                  refine cx_getR (k := 2) k155_108 ow_155 fl_7_16 (by decide) sk_28 ft_6_2 sr_28_2 ?_
                  refine cx_getI (k := 5) k155_111 ow_155 fl_7_124 (by decide) sk_29 ft_7_5 ?_
                  exact cx_reti k155_114 rt_155 h
                · rw [if_neg hb8] at h
                  by_cases hb9 : p1 = (8 : Int32)
                  · rw [if_pos hb9] at h
                    refine sx_tableIn (off := 114) (tgt := 115) k155_1 (by rw [hb9]; decide) (by rw [hb9]; decide) (by rw [hb9]; rfl) (by decide) ?_
                    refine sx_aload_n (i := 0) k155_115 rfl rfl ?_
                    refine cx_getR (k := 3) k155_116 ow_155 fl_7_20 (by decide) sk_28 ft_6_3 sr_28_3 ?_
                    refine cx_getI (k := 5) k155_119 ow_155 fl_7_124 (by decide) sk_35 ft_7_5 ?_
                    exact cx_reti k155_122 rt_155 h
                  · rw [if_neg hb9] at h
                    by_cases hb12 : p1 = (9 : Int32)
                    · rw [if_pos hb12] at h
                      refine sx_tableIn (off := 122) (tgt := 123) k155_1 (by rw [hb12]; decide) (by rw [hb12]; decide) (by rw [hb12]; rfl) (by decide) ?_
                      refine sx_aload_n (i := 0) k155_123 rfl rfl ?_
                      obtain ⟨r10, e11, h⟩ := Option.bind_eq_some_iff.mp h
                      refine cx_V (sk := []) (vs := []) st_155_156 k155_124 ow_155 cl_7_200 (by decide) rfl (Nat.le_of_ble_eq_true rfl) sk_28 (ok156 _ _ e11) (sk3 := [.int r10.2]) rfl rfl ?_
                      exact cx_reti k155_127 rt_155 h
                    · rw [if_neg hb12] at h
                      by_cases hb13 : p1 = (10 : Int32)
                      · rw [if_pos hb13] at h
                        refine sx_tableIn (off := 127) (tgt := 128) k155_1 (by rw [hb13]; decide) (by rw [hb13]; decide) (by rw [hb13]; rfl) (by decide) ?_
                        refine sx_aload_n (i := 0) k155_128 rfl rfl ?_
                        refine cx_getI (k := 12) k155_129 ow_155 fl_7_50 (by decide) sk_28 ft_6_12 ?_
                        exact cx_reti k155_132 rt_155 h
                      · rw [if_neg hb13] at h
                        by_cases hb14 : p1 = (11 : Int32)
                        · rw [if_pos hb14] at h
                          refine sx_tableIn (off := 132) (tgt := 133) k155_1 (by rw [hb14]; decide) (by rw [hb14]; decide) (by rw [hb14]; rfl) (by decide) ?_
                          refine sx_aload_n (i := 0) k155_133 rfl rfl ?_
                          refine cx_getI (k := 13) k155_134 ow_155 fl_7_53 (by decide) sk_28 ft_6_13 ?_
                          exact cx_reti k155_137 rt_155 h
                        · rw [if_neg hb14] at h
                          by_cases hb15 : p1 = (12 : Int32)
                          · rw [if_pos hb15] at h
                            refine sx_tableIn (off := 137) (tgt := 138) k155_1 (by rw [hb15]; decide) (by rw [hb15]; decide) (by rw [hb15]; rfl) (by decide) ?_
                            refine sx_aload_n (i := 0) k155_138 rfl rfl ?_
                            refine cx_getI (k := 15) k155_139 ow_155 fl_7_56 (by decide) sk_28 ft_6_15 ?_
                            exact cx_reti k155_142 rt_155 h
                          · rw [if_neg hb15] at h
                            by_cases hb16 : p1 = (13 : Int32)
                            · rw [if_pos hb16] at h
                              refine sx_tableIn (off := 142) (tgt := 143) k155_1 (by rw [hb16]; decide) (by rw [hb16]; decide) (by rw [hb16]; rfl) (by decide) ?_
                              refine sx_aload_n (i := 0) k155_143 rfl rfl ?_
                              refine cx_getI (k := 16) k155_144 ow_155 fl_7_190 (by decide) sk_28 ft_6_16 ?_
                              exact cx_reti k155_147 rt_155 h
                            · rw [if_neg hb16] at h
                              refine sx_tableOut (tgt := 148) k155_1 (sw_out (n := 14) (fun j hj => ?_)) (by decide) ?_
                              · intro hj2
                                exact sw_no [(0 : Int32), (1 : Int32), (2 : Int32), (3 : Int32), (4 : Int32), (5 : Int32), (6 : Int32), (7 : Int32), (8 : Int32), (9 : Int32), (10 : Int32), (11 : Int32), (12 : Int32), (13 : Int32)] (by decide) hj hj2 ⟨hb1, hb2, hb3, hb4, hb5, hb6, hb7, hb8, hb9, hb12, hb13, hb14, hb15, hb16, trivial⟩
                              ·
                                refine sx_iconst (v := -1) k155_148 (by decide) ?_
                                exact cx_reti k155_149 rt_155 h
