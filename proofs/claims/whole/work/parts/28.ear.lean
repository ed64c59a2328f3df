theorem k96_0 : decode (gb 96) 0 = .ok (.aload_n 0, 1) := by decide +kernel
theorem k96_1 : decode (gb 96) 1 = .ok (.getfield 38, 3) := by decide +kernel
theorem k96_4 : decode (gb 96) 4 = .ok (.istore_n 2, 1) := by decide +kernel
theorem k96_5 : decode (gb 96) 5 = .ok (.aload_n 0, 1) := by decide +kernel
theorem k96_6 : decode (gb 96) 6 = .ok (.iload_n 1, 1) := by decide +kernel
theorem k96_7 : decode (gb 96) 7 = .ok (.putfield 38, 3) := by decide +kernel
theorem k96_10 : decode (gb 96) 10 = .ok (.iload_n 2, 1) := by decide +kernel
theorem k96_11 : decode (gb 96) 11 = .ok (.ireturn, 1) := by decide +kernel
/-- GroundEar.changeE(I)I -/
def f96 (p1 : Int32) (μ : Mem) : Option (Mem × Int32) :=
  (pfI 49 6 p1 μ).bind fun m1 =>
  some (m1, (μ.1 49 6))
theorem ok96 {L : Nat} (p1 : Int32) (μ : Mem) (res : Mem × Int32) (h : f96 p1 μ = some res) : Mx 96 [.ref 49, .int p1] (mk L μ) (mk L res.1, some (.int res.2)) := by
  refine Mx_of ml_96 (by rw [mx_96]; exact Nat.le_of_ble_eq_true rfl) ?_
  show Sx 96 0 [(0, .ref 49), (1, .int p1)] [] 0 0 (mk L μ) _
  unfold f96 at h
  refine sx_aload_n (i := 0) k96_0 rfl rfl ?_
  refine cx_getI (k := 6) k96_1 ow_96 fl_4_38 (by decide) sk_49 ft_3_6 ?_
  refine cx_istore_n (lo2 := [(2, .int (μ.1 49 6)), (0, .ref 49), (1, .int p1)]) k96_4 rfl (by rw [mx_96]; decide) rfl ?_
  refine sx_aload_n (i := 0) k96_5 rfl rfl ?_
  refine sx_iload_n (i := 1) k96_6 rfl rfl ?_
  obtain ⟨m1, e2, h⟩ := Option.bind_eq_some_iff.mp h
  refine cx_putI (k := 6) k96_7 ow_96 fl_4_38 (by decide) sk_49 nf_3_6 fu_3_6 e2 ?_
  refine sx_iload_n (i := 2) k96_10 rfl rfl ?_
  exact cx_reti k96_11 rt_96 h
theorem k97_0 : decode (gb 97) 0 = .ok (.aload_n 0, 1) := by decide +kernel
theorem k97_1 : decode (gb 97) 1 = .ok (.getfield 42, 3) := by decide +kernel
theorem k97_4 : decode (gb 97) 4 = .ok (.istore_n 2, 1) := by decide +kernel
theorem k97_5 : decode (gb 97) 5 = .ok (.aload_n 0, 1) := by decide +kernel
theorem k97_6 : decode (gb 97) 6 = .ok (.iload_n 1, 1) := by decide +kernel
theorem k97_7 : decode (gb 97) 7 = .ok (.putfield 42, 3) := by decide +kernel
theorem k97_10 : decode (gb 97) 10 = .ok (.iload_n 2, 1) := by decide +kernel
theorem k97_11 : decode (gb 97) 11 = .ok (.ireturn, 1) := by decide +kernel
/-- GroundEar.changeF(I)I -/
def f97 (p1 : Int32) (μ : Mem) : Option (Mem × Int32) :=
  (pfI 49 7 p1 μ).bind fun m1 =>
  some (m1, (μ.1 49 7))
theorem ok97 {L : Nat} (p1 : Int32) (μ : Mem) (res : Mem × Int32) (h : f97 p1 μ = some res) : Mx 97 [.ref 49, .int p1] (mk L μ) (mk L res.1, some (.int res.2)) := by
  refine Mx_of ml_97 (by rw [mx_97]; exact Nat.le_of_ble_eq_true rfl) ?_
  show Sx 97 0 [(0, .ref 49), (1, .int p1)] [] 0 0 (mk L μ) _
  unfold f97 at h
  refine sx_aload_n (i := 0) k97_0 rfl rfl ?_
  refine cx_getI (k := 7) k97_1 ow_97 fl_4_42 (by decide) sk_49 ft_3_7 ?_
  refine cx_istore_n (lo2 := [(2, .int (μ.1 49 7)), (0, .ref 49), (1, .int p1)]) k97_4 rfl (by rw [mx_97]; decide) rfl ?_
  refine sx_aload_n (i := 0) k97_5 rfl rfl ?_
  refine sx_iload_n (i := 1) k97_6 rfl rfl ?_
  obtain ⟨m1, e2, h⟩ := Option.bind_eq_some_iff.mp h
  refine cx_putI (k := 7) k97_7 ow_97 fl_4_42 (by decide) sk_49 nf_3_7 fu_3_7 e2 ?_
  refine sx_iload_n (i := 2) k97_10 rfl rfl ?_
  exact cx_reti k97_11 rt_97 h
theorem k99_0 : decode (gb 99) 0 = .ok (.aload_n 0, 1) := by decide +kernel
theorem k99_1 : decode (gb 99) 1 = .ok (.getfield 48, 3) := by decide +kernel
theorem k99_4 : decode (gb 99) 4 = .ok (.bipush 8, 2) := by decide +kernel
theorem k99_6 : decode (gb 99) 6 = .ok (.if_icmp .ge 5, 3) := by decide +kernel
theorem k99_9 : decode (gb 99) 9 = .ok (.iconst 0, 1) := by decide +kernel
theorem k99_10 : decode (gb 99) 10 = .ok (.ireturn, 1) := by decide +kernel
theorem k99_11 : decode (gb 99) 11 = .ok (.aload_n 0, 1) := by decide +kernel
theorem k99_12 : decode (gb 99) 12 = .ok (.getfield 14, 3) := by decide +kernel
theorem k99_15 : decode (gb 99) 15 = .ok (.aload_n 0, 1) := by decide +kernel
theorem k99_16 : decode (gb 99) 16 = .ok (.getfield 45, 3) := by decide +kernel
theorem k99_19 : decode (gb 99) 19 = .ok (.invokevirtual 62, 3) := by decide +kernel
theorem k99_22 : decode (gb 99) 22 = .ok (.aload_n 0, 1) := by decide +kernel
theorem k99_23 : decode (gb 99) 23 = .ok (.iconst 0, 1) := by decide +kernel
theorem k99_24 : decode (gb 99) 24 = .ok (.putfield 48, 3) := by decide +kernel
theorem k99_27 : decode (gb 99) 27 = .ok (.aload_n 0, 1) := by decide +kernel
theorem k99_28 : decode (gb 99) 28 = .ok (.getfield 14, 3) := by decide +kernel
theorem k99_31 : decode (gb 99) 31 = .ok (.getfield 65, 3) := by decide +kernel
theorem k99_34 : decode (gb 99) 34 = .ok (.bipush 64, 2) := by decide +kernel
theorem k99_36 : decode (gb 99) 36 = .ok (.if_icmp .ge 5, 3) := by decide +kernel
theorem k99_39 : decode (gb 99) 39 = .ok (.iconst 0, 1) := by decide +kernel
theorem k99_40 : decode (gb 99) 40 = .ok (.ireturn, 1) := by decide +kernel
theorem k99_41 : decode (gb 99) 41 = .ok (.aload_n 0, 1) := by decide +kernel
theorem k99_42 : decode (gb 99) 42 = .ok (.iconst 0, 1) := by decide +kernel
theorem k99_43 : decode (gb 99) 43 = .ok (.putfield 51, 3) := by decide +kernel
theorem k99_46 : decode (gb 99) 46 = .ok (.iconst 1, 1) := by decide +kernel
theorem k99_47 : decode (gb 99) 47 = .ok (.ireturn, 1) := by decide +kernel
/-- GroundEar.takeInFrame()Z -/
def f99 (μ : Mem) : Option (Mem × Int32) :=
  if (8 : Int32) ≤ (μ.1 49 10) then
    (f65 50 (μ.1 49 9) μ).bind fun r2 =>
    (pfI 49 10 (0 : Int32) r2).bind fun m4 =>
    if (64 : Int32) ≤ (m4.1 50 1) then
      (pfZ 49 8 (0 : Int32) m4).bind fun m7 =>
      rtZ (1 : Int32) m7
    else
      rtZ (0 : Int32) m4
  else
    rtZ (0 : Int32) μ
theorem ok99 {L : Nat} (μ : Mem) (res : Mem × Int32) (h : f99 μ = some res) : Mx 99 [.ref 49] (mk L μ) (mk L res.1, some (.int res.2)) := by
  refine Mx_of ml_99 (by rw [mx_99]; exact Nat.le_of_ble_eq_true rfl) ?_
  show Sx 99 0 [(0, .ref 49)] [] 0 0 (mk L μ) _
  unfold f99 at h
  refine sx_aload_n (i := 0) k99_0 rfl rfl ?_
  refine cx_getI (k := 10) k99_1 ow_99 fl_4_48 (by decide) sk_49 ft_3_10 ?_
  refine sx_bipush (v := 8) k99_4 (by decide) ?_
  by_cases hb1 : (8 : Int32) ≤ (μ.1 49 10)
  · rw [if_pos hb1] at h
    refine sx_icmp_ge (tgt := 11) k99_6 (by decide) (fun _ => ?_) (fun q => absurd hb1 q)
    refine sx_aload_n (i := 0) k99_11 rfl rfl ?_
    refine cx_getR (k := 2) k99_12 ow_99 fl_4_14 (by decide) sk_49 ft_3_2 sr_49_2 ?_
    refine sx_aload_n (i := 0) k99_15 rfl rfl ?_
    refine cx_getI (k := 9) k99_16 ow_99 fl_4_45 (by decide) sk_49 ft_3_9 ?_
    obtain ⟨r2, e3, h⟩ := Option.bind_eq_some_iff.mp h
    refine cx_V (sk := []) (vs := [.int (μ.1 49 9)]) st_99_65 k99_19 ow_99 cl_4_62 (by decide) rfl (Nat.le_of_ble_eq_true rfl) sk_50 (ok65 50 (μ.1 49 9) sk_50 _ _ e3) (sk3 := []) rfl rfl ?_
    refine sx_aload_n (i := 0) k99_22 rfl rfl ?_
    refine sx_iconst (v := 0) k99_23 (by decide) ?_
    obtain ⟨m4, e5, h⟩ := Option.bind_eq_some_iff.mp h
    refine cx_putI (k := 10) k99_24 ow_99 fl_4_48 (by decide) sk_49 nf_3_10 fu_3_10 e5 ?_
    refine sx_aload_n (i := 0) k99_27 rfl rfl ?_
    refine cx_getR (k := 2) k99_28 ow_99 fl_4_14 (by decide) sk_49 ft_3_2 sr_49_2 ?_
    refine cx_getI (k := 1) k99_31 ow_99 fl_4_65 (by decide) sk_50 ft_1_1 ?_
    refine sx_bipush (v := 64) k99_34 (by decide) ?_
    by_cases hb6 : (64 : Int32) ≤ (m4.1 50 1)
    · rw [if_pos hb6] at h
      refine sx_icmp_ge (tgt := 41) k99_36 (by decide) (fun _ => ?_) (fun q => absurd hb6 q)
      refine sx_aload_n (i := 0) k99_41 rfl rfl ?_
      refine sx_iconst (v := 0) k99_42 (by decide) ?_
      obtain ⟨m7, e8, h⟩ := Option.bind_eq_some_iff.mp h
      refine cx_putZ (k := 8) k99_43 ow_99 fl_4_51 (by decide) sk_49 nf_3_8 fu_3_8 e8 ?_
      refine sx_iconst (v := 1) k99_46 (by decide) ?_
      exact cx_retz k99_47 rt_99 h
    · rw [if_neg hb6] at h
      refine sx_icmp_ge (tgt := 41) k99_36 (by decide) (fun q => absurd q hb6) (fun _ => ?_)
      refine sx_iconst (v := 0) k99_39 (by decide) ?_
      exact cx_retz k99_40 rt_99 h
  · rw [if_neg hb1] at h
    refine sx_icmp_ge (tgt := 11) k99_6 (by decide) (fun q => absurd q hb1) (fun _ => ?_)
    refine sx_iconst (v := 0) k99_9 (by decide) ?_
    exact cx_retz k99_10 rt_99 h
theorem k102_0 : decode (gb 102) 0 = .ok (.aload_n 0, 1) := by decide +kernel
theorem k102_1 : decode (gb 102) 1 = .ok (.iconst 1, 1) := by decide +kernel
theorem k102_2 : decode (gb 102) 2 = .ok (.putfield 51, 3) := by decide +kernel
theorem k102_5 : decode (gb 102) 5 = .ok (.aload_n 0, 1) := by decide +kernel
theorem k102_6 : decode (gb 102) 6 = .ok (.iconst 0, 1) := by decide +kernel
theorem k102_7 : decode (gb 102) 7 = .ok (.putfield 48, 3) := by decide +kernel
theorem k102_10 : decode (gb 102) 10 = .ok (.aload_n 0, 1) := by decide +kernel
theorem k102_11 : decode (gb 102) 11 = .ok (.getfield 14, 3) := by decide +kernel
theorem k102_14 : decode (gb 102) 14 = .ok (.invokevirtual 87, 3) := by decide +kernel
theorem k102_17 : decode (gb 102) 17 = .ok (.return_, 1) := by decide +kernel
/-- GroundEar.beginFrame()V -/
def f102 (μ : Mem) : Option (Mem) :=
  (pfZ 49 8 (1 : Int32) μ).bind fun m1 =>
  (pfI 49 10 (0 : Int32) m1).bind fun m3 =>
  (f64 50 m3).bind fun r5 =>
  some r5
theorem ok102 {L : Nat} (μ : Mem) (res : Mem) (h : f102 μ = some res) : Mx 102 [.ref 49] (mk L μ) (mk L res, none) := by
  refine Mx_of ml_102 (by rw [mx_102]; exact Nat.le_of_ble_eq_true rfl) ?_
  show Sx 102 0 [(0, .ref 49)] [] 0 0 (mk L μ) _
  unfold f102 at h
  refine sx_aload_n (i := 0) k102_0 rfl rfl ?_
  refine sx_iconst (v := 1) k102_1 (by decide) ?_
  obtain ⟨m1, e2, h⟩ := Option.bind_eq_some_iff.mp h
  refine cx_putZ (k := 8) k102_2 ow_102 fl_4_51 (by decide) sk_49 nf_3_8 fu_3_8 e2 ?_
  refine sx_aload_n (i := 0) k102_5 rfl rfl ?_
  refine sx_iconst (v := 0) k102_6 (by decide) ?_
  obtain ⟨m3, e4, h⟩ := Option.bind_eq_some_iff.mp h
  refine cx_putI (k := 10) k102_7 ow_102 fl_4_48 (by decide) sk_49 nf_3_10 fu_3_10 e4 ?_
  refine sx_aload_n (i := 0) k102_10 rfl rfl ?_
  refine cx_getR (k := 2) k102_11 ow_102 fl_4_14 (by decide) sk_49 ft_3_2 sr_49_2 ?_
  obtain ⟨r5, e6, h⟩ := Option.bind_eq_some_iff.mp h
  refine cx_V (sk := []) (vs := []) st_102_64 k102_14 ow_102 cl_4_87 (by decide) rfl (Nat.le_of_ble_eq_true rfl) sk_50 (ok64 50 sk_50 _ _ e6) (sk3 := []) rfl rfl ?_
  exact cx_retv k102_17 rt_102 h
theorem k101_0 : decode (gb 101) 0 = .ok (.aload_n 0, 1) := by decide +kernel
theorem k101_1 : decode (gb 101) 1 = .ok (.dup, 1) := by decide +kernel
theorem k101_2 : decode (gb 101) 2 = .ok (.getfield 78, 3) := by decide +kernel
theorem k101_5 : decode (gb 101) 5 = .ok (.iconst 1, 1) := by decide +kernel
theorem k101_6 : decode (gb 101) 6 = .ok (.iadd, 1) := by decide +kernel
theorem k101_7 : decode (gb 101) 7 = .ok (.putfield 78, 3) := by decide +kernel
theorem k101_10 : decode (gb 101) 10 = .ok (.aload_n 0, 1) := by decide +kernel
theorem k101_11 : decode (gb 101) 11 = .ok (.getfield 78, 3) := by decide +kernel
theorem k101_14 : decode (gb 101) 14 = .ok (.aload_n 0, 1) := by decide +kernel
theorem k101_15 : decode (gb 101) 15 = .ok (.getfield 42, 3) := by decide +kernel
theorem k101_18 : decode (gb 101) 18 = .ok (.if_icmp .le 16, 3) := by decide +kernel
theorem k101_21 : decode (gb 101) 21 = .ok (.aload_n 0, 1) := by decide +kernel
theorem k101_22 : decode (gb 101) 22 = .ok (.iconst 0, 1) := by decide +kernel
theorem k101_23 : decode (gb 101) 23 = .ok (.putfield 75, 3) := by decide +kernel
theorem k101_26 : decode (gb 101) 26 = .ok (.aload_n 0, 1) := by decide +kernel
theorem k101_27 : decode (gb 101) 27 = .ok (.iconst 0, 1) := by decide +kernel
theorem k101_28 : decode (gb 101) 28 = .ok (.putfield 78, 3) := by decide +kernel
theorem k101_31 : decode (gb 101) 31 = .ok (.goto 7, 3) := by decide +kernel
theorem k101_34 : decode (gb 101) 34 = .ok (.aload_n 0, 1) := by decide +kernel
theorem k101_35 : decode (gb 101) 35 = .ok (.invokevirtual 81, 3) := by decide +kernel
theorem k101_38 : decode (gb 101) 38 = .ok (.return_, 1) := by decide +kernel
/-- GroundEar.miss()V -/
def f101 (μ : Mem) : Option (Mem) :=
  (pfI 49 12 ((μ.1 49 12) + (1 : Int32)) μ).bind fun m1 =>
  if (m1.1 49 12) ≤ (m1.1 49 7) then
    (f102 m1).bind fun r4 =>
    some r4
  else
    (pfZ 49 11 (0 : Int32) m1).bind fun m6 =>
    (pfI 49 12 (0 : Int32) m6).bind fun m8 =>
    some m8
theorem ok101 {L : Nat} (μ : Mem) (res : Mem) (h : f101 μ = some res) : Mx 101 [.ref 49] (mk L μ) (mk L res, none) := by
  refine Mx_of ml_101 (by rw [mx_101]; exact Nat.le_of_ble_eq_true rfl) ?_
  show Sx 101 0 [(0, .ref 49)] [] 0 0 (mk L μ) _
  unfold f101 at h
  refine sx_aload_n (i := 0) k101_0 rfl rfl ?_
  refine sx_dup k101_1 rfl ?_
  refine cx_getI (k := 12) k101_2 ow_101 fl_4_78 (by decide) sk_49 ft_3_12 ?_
  refine sx_iconst (v := 1) k101_5 (by decide) ?_
  refine sx_iadd k101_6 ?_
  obtain ⟨m1, e2, h⟩ := Option.bind_eq_some_iff.mp h
  refine cx_putI (k := 12) k101_7 ow_101 fl_4_78 (by decide) sk_49 nf_3_12 fu_3_12 e2 ?_
  refine sx_aload_n (i := 0) k101_10 rfl rfl ?_
  refine cx_getI (k := 12) k101_11 ow_101 fl_4_78 (by decide) sk_49 ft_3_12 ?_
  refine sx_aload_n (i := 0) k101_14 rfl rfl ?_
  refine cx_getI (k := 7) k101_15 ow_101 fl_4_42 (by decide) sk_49 ft_3_7 ?_
  by_cases hb3 : (m1.1 49 12) ≤ (m1.1 49 7)
  · rw [if_pos hb3] at h
    refine sx_icmp_le (tgt := 34) k101_18 (by decide) (fun _ => ?_) (fun q => absurd hb3 q)
    refine sx_aload_n (i := 0) k101_34 rfl rfl ?_
    obtain ⟨r4, e5, h⟩ := Option.bind_eq_some_iff.mp h
    refine cx_V (sk := []) (vs := []) st_101_102 k101_35 ow_101 cl_4_81 (by decide) rfl (Nat.le_of_ble_eq_true rfl) sk_49 (ok102 _ _ e5) (sk3 := []) rfl rfl ?_
    exact cx_retv k101_38 rt_101 h
  · rw [if_neg hb3] at h
    refine sx_icmp_le (tgt := 34) k101_18 (by decide) (fun q => absurd q hb3) (fun _ => ?_)
    refine sx_aload_n (i := 0) k101_21 rfl rfl ?_
    refine sx_iconst (v := 0) k101_22 (by decide) ?_
    obtain ⟨m6, e7, h⟩ := Option.bind_eq_some_iff.mp h
    refine cx_putZ (k := 11) k101_23 ow_101 fl_4_75 (by decide) sk_49 nf_3_11 fu_3_11 e7 ?_
    refine sx_aload_n (i := 0) k101_26 rfl rfl ?_
    refine sx_iconst (v := 0) k101_27 (by decide) ?_
    obtain ⟨m8, e9, h⟩ := Option.bind_eq_some_iff.mp h
    refine cx_putI (k := 12) k101_28 ow_101 fl_4_78 (by decide) sk_49 nf_3_12 fu_3_12 e9 ?_
    refine sx_goto (tgt := 38) k101_31 (by decide) ?_
    exact cx_retv k101_38 rt_101 h
theorem k100_0 : decode (gb 100) 0 = .ok (.aload_n 0, 1) := by decide +kernel
theorem k100_1 : decode (gb 100) 1 = .ok (.getfield 45, 3) := by decide +kernel
theorem k100_4 : decode (gb 100) 4 = .ok (.ldc 68, 2) := by decide +kernel
theorem k100_6 : decode (gb 100) 6 = .ok (.ixor, 1) := by decide +kernel
theorem k100_7 : decode (gb 100) 7 = .ok (.invokestatic 69, 3) := by decide +kernel
theorem k100_10 : decode (gb 100) 10 = .ok (.aload_n 0, 1) := by decide +kernel
theorem k100_11 : decode (gb 100) 11 = .ok (.getfield 38, 3) := by decide +kernel
theorem k100_14 : decode (gb 100) 14 = .ok (.if_icmp .gt 7, 3) := by decide +kernel
theorem k100_17 : decode (gb 100) 17 = .ok (.iconst 1, 1) := by decide +kernel
theorem k100_18 : decode (gb 100) 18 = .ok (.goto 4, 3) := by decide +kernel
theorem k100_21 : decode (gb 100) 21 = .ok (.iconst 0, 1) := by decide +kernel
theorem k100_22 : decode (gb 100) 22 = .ok (.istore_n 1, 1) := by decide +kernel
theorem k100_23 : decode (gb 100) 23 = .ok (.iload_n 1, 1) := by decide +kernel
theorem k100_24 : decode (gb 100) 24 = .ok (.ifCond .eq 20, 3) := by decide +kernel
theorem k100_27 : decode (gb 100) 27 = .ok (.aload_n 0, 1) := by decide +kernel
theorem k100_28 : decode (gb 100) 28 = .ok (.iconst 1, 1) := by decide +kernel
theorem k100_29 : decode (gb 100) 29 = .ok (.putfield 75, 3) := by decide +kernel
theorem k100_32 : decode (gb 100) 32 = .ok (.aload_n 0, 1) := by decide +kernel
theorem k100_33 : decode (gb 100) 33 = .ok (.iconst 0, 1) := by decide +kernel
theorem k100_34 : decode (gb 100) 34 = .ok (.putfield 78, 3) := by decide +kernel
theorem k100_37 : decode (gb 100) 37 = .ok (.aload_n 0, 1) := by decide +kernel
theorem k100_38 : decode (gb 100) 38 = .ok (.invokevirtual 81, 3) := by decide +kernel
theorem k100_41 : decode (gb 100) 41 = .ok (.goto 14, 3) := by decide +kernel
theorem k100_44 : decode (gb 100) 44 = .ok (.aload_n 0, 1) := by decide +kernel
theorem k100_45 : decode (gb 100) 45 = .ok (.getfield 75, 3) := by decide +kernel
theorem k100_48 : decode (gb 100) 48 = .ok (.ifCond .eq 7, 3) := by decide +kernel
theorem k100_51 : decode (gb 100) 51 = .ok (.aload_n 0, 1) := by decide +kernel
theorem k100_52 : decode (gb 100) 52 = .ok (.invokevirtual 84, 3) := by decide +kernel
theorem k100_55 : decode (gb 100) 55 = .ok (.return_, 1) := by decide +kernel
def c100_22 (s0 : Int32) (μ : Mem) : Option (Mem) :=
  if s0 = 0 then
    if (μ.1 49 11) = 0 then
      some μ
    else
      (f101 μ).bind fun r3 =>
      some r3
  else
    (pfZ 49 11 (1 : Int32) μ).bind fun m5 =>
    (pfI 49 12 (0 : Int32) m5).bind fun m7 =>
    (f102 m7).bind fun r9 =>
    some r9
theorem c100_22_ok {L : Nat} (s0 : Int32) (μ : Mem) (res : Mem) (h : c100_22 s0 μ = some res) : Sx 100 22 [(0, .ref 49)] [.int s0] 0 0 (mk L μ) (mk L res, none) := by
  unfold c100_22 at h
  refine cx_istore_n (lo2 := [(1, .int s0), (0, .ref 49)]) k100_22 rfl (by rw [mx_100]; decide) rfl ?_
  refine sx_iload_n (i := 1) k100_23 rfl rfl ?_
  by_cases hb1 : s0 = 0
  · rw [if_pos hb1] at h
    refine sx_if_eq (tgt := 44) k100_24 (by decide) (fun _ => ?_) (fun q => absurd hb1 q)
    refine sx_aload_n (i := 0) k100_44 rfl rfl ?_
    refine cx_getI (k := 11) k100_45 ow_100 fl_4_75 (by decide) sk_49 ft_3_11 ?_
    by_cases hb2 : (μ.1 49 11) = 0
    · rw [if_pos hb2] at h
      refine sx_if_eq (tgt := 55) k100_48 (by decide) (fun _ => ?_) (fun q => absurd hb2 q)
      exact cx_retv k100_55 rt_100 h
    · rw [if_neg hb2] at h
      refine sx_if_eq (tgt := 55) k100_48 (by decide) (fun q => absurd q hb2) (fun _ => ?_)
      refine sx_aload_n (i := 0) k100_51 rfl rfl ?_
      obtain ⟨r3, e4, h⟩ := Option.bind_eq_some_iff.mp h
      refine cx_V (sk := []) (vs := []) st_100_101 k100_52 ow_100 cl_4_84 (by decide) rfl (Nat.le_of_ble_eq_true rfl) sk_49 (ok101 _ _ e4) (sk3 := []) rfl rfl ?_
      exact cx_retv k100_55 rt_100 h
  · rw [if_neg hb1] at h
    refine sx_if_eq (tgt := 44) k100_24 (by decide) (fun q => absurd q hb1) (fun _ => ?_)
    refine sx_aload_n (i := 0) k100_27 rfl rfl ?_
    refine sx_iconst (v := 1) k100_28 (by decide) ?_
    obtain ⟨m5, e6, h⟩ := Option.bind_eq_some_iff.mp h
    refine cx_putZ (k := 11) k100_29 ow_100 fl_4_75 (by decide) sk_49 nf_3_11 fu_3_11 e6 ?_
    refine sx_aload_n (i := 0) k100_32 rfl rfl ?_
    refine sx_iconst (v := 0) k100_33 (by decide) ?_
    obtain ⟨m7, e8, h⟩ := Option.bind_eq_some_iff.mp h
    refine cx_putI (k := 12) k100_34 ow_100 fl_4_78 (by decide) sk_49 nf_3_12 fu_3_12 e8 ?_
    refine sx_aload_n (i := 0) k100_37 rfl rfl ?_
    obtain ⟨r9, e10, h⟩ := Option.bind_eq_some_iff.mp h
    refine cx_V (sk := []) (vs := []) st_100_102 k100_38 ow_100 cl_4_81 (by decide) rfl (Nat.le_of_ble_eq_true rfl) sk_49 (ok102 _ _ e10) (sk3 := []) rfl rfl ?_
    refine sx_goto (tgt := 55) k100_41 (by decide) ?_
    exact cx_retv k100_55 rt_100 h
/-- GroundEar.lookForMark()V -/
def f100 (μ : Mem) : Option (Mem) :=
  (f364 ((μ.1 49 9) ^^^ (449838109 : Int32)) μ).bind fun r1 =>
  if (r1.1.1 49 6) < r1.2 then
    c100_22 (0 : Int32) r1.1
  else
    c100_22 (1 : Int32) r1.1
theorem ok100 {L : Nat} (μ : Mem) (res : Mem) (h : f100 μ = some res) : Mx 100 [.ref 49] (mk L μ) (mk L res, none) := by
  refine Mx_of ml_100 (by rw [mx_100]; exact Nat.le_of_ble_eq_true rfl) ?_
  show Sx 100 0 [(0, .ref 49)] [] 0 0 (mk L μ) _
  unfold f100 at h
  refine sx_aload_n (i := 0) k100_0 rfl rfl ?_
  refine cx_getI (k := 9) k100_1 ow_100 fl_4_45 (by decide) sk_49 ft_3_9 ?_
  refine cx_ldc (v := 449838109) k100_4 ow_100 kl_4_68 (by decide) ?_
  refine sx_ixor k100_6 ?_
  obtain ⟨r1, e2, h⟩ := Option.bind_eq_some_iff.mp h
  refine cx_S (sk := []) (vs := [.int ((μ.1 49 9) ^^^ (449838109 : Int32))]) st_100_364 k100_7 ow_100 cl_4_69 (by decide) rfl (Nat.le_of_ble_eq_true rfl) (ok364 ((μ.1 49 9) ^^^ (449838109 : Int32)) _ _ e2) (sk3 := [.int r1.2]) rfl rfl ?_
  refine sx_aload_n (i := 0) k100_10 rfl rfl ?_
  refine cx_getI (k := 6) k100_11 ow_100 fl_4_38 (by decide) sk_49 ft_3_6 ?_
  by_cases hb3 : (r1.1.1 49 6) < r1.2
  · rw [if_pos hb3] at h
    refine sx_icmp_gt (tgt := 21) k100_14 (by decide) (fun _ => ?_) (fun q => absurd hb3 q)
    refine sx_iconst (v := 0) k100_21 (by decide) ?_
    refine sx_pick (lo2 := [(0, .ref 49)]) [0] rfl ?_
    exact c100_22_ok (0 : Int32) _ _ h
  · rw [if_neg hb3] at h
    refine sx_icmp_gt (tgt := 21) k100_14 (by decide) (fun q => absurd q hb3) (fun _ => ?_)
    refine sx_iconst (v := 1) k100_17 (by decide) ?_
    refine sx_goto (tgt := 22) k100_18 (by decide) ?_
    refine sx_pick (lo2 := [(0, .ref 49)]) [0] rfl ?_
    exact c100_22_ok (1 : Int32) _ _ h
theorem k98_0 : decode (gb 98) 0 = .ok (.aload_n 0, 1) := by decide +kernel
theorem k98_1 : decode (gb 98) 1 = .ok (.aload_n 0, 1) := by decide +kernel
theorem k98_2 : decode (gb 98) 2 = .ok (.getfield 45, 3) := by decide +kernel
theorem k98_5 : decode (gb 98) 5 = .ok (.iconst 1, 1) := by decide +kernel
theorem k98_6 : decode (gb 98) 6 = .ok (.ishl, 1) := by decide +kernel
theorem k98_7 : decode (gb 98) 7 = .ok (.iload_n 1, 1) := by decide +kernel
theorem k98_8 : decode (gb 98) 8 = .ok (.ior, 1) := by decide +kernel
theorem k98_9 : decode (gb 98) 9 = .ok (.putfield 45, 3) := by decide +kernel
theorem k98_12 : decode (gb 98) 12 = .ok (.aload_n 0, 1) := by decide +kernel
theorem k98_13 : decode (gb 98) 13 = .ok (.dup, 1) := by decide +kernel
theorem k98_14 : decode (gb 98) 14 = .ok (.getfield 48, 3) := by decide +kernel
theorem k98_17 : decode (gb 98) 17 = .ok (.iconst 1, 1) := by decide +kernel
theorem k98_18 : decode (gb 98) 18 = .ok (.iadd, 1) := by decide +kernel
theorem k98_19 : decode (gb 98) 19 = .ok (.putfield 48, 3) := by decide +kernel
theorem k98_22 : decode (gb 98) 22 = .ok (.aload_n 0, 1) := by decide +kernel
theorem k98_23 : decode (gb 98) 23 = .ok (.getfield 51, 3) := by decide +kernel
theorem k98_26 : decode (gb 98) 26 = .ok (.ifCond .eq 8, 3) := by decide +kernel
theorem k98_29 : decode (gb 98) 29 = .ok (.aload_n 0, 1) := by decide +kernel
theorem k98_30 : decode (gb 98) 30 = .ok (.invokevirtual 55, 3) := by decide +kernel
theorem k98_33 : decode (gb 98) 33 = .ok (.ireturn, 1) := by decide +kernel
theorem k98_34 : decode (gb 98) 34 = .ok (.aload_n 0, 1) := by decide +kernel
theorem k98_35 : decode (gb 98) 35 = .ok (.getfield 48, 3) := by decide +kernel
theorem k98_38 : decode (gb 98) 38 = .ok (.bipush 32, 2) := by decide +kernel
theorem k98_40 : decode (gb 98) 40 = .ok (.if_icmp .lt 13, 3) := by decide +kernel
theorem k98_43 : decode (gb 98) 43 = .ok (.aload_n 0, 1) := by decide +kernel
theorem k98_44 : decode (gb 98) 44 = .ok (.bipush 32, 2) := by decide +kernel
theorem k98_46 : decode (gb 98) 46 = .ok (.putfield 48, 3) := by decide +kernel
theorem k98_49 : decode (gb 98) 49 = .ok (.aload_n 0, 1) := by decide +kernel
theorem k98_50 : decode (gb 98) 50 = .ok (.invokevirtual 59, 3) := by decide +kernel
theorem k98_53 : decode (gb 98) 53 = .ok (.iconst 0, 1) := by decide +kernel
theorem k98_54 : decode (gb 98) 54 = .ok (.ireturn, 1) := by decide +kernel
/-- GroundEar.take(I)Z -/
def f98 (p1 : Int32) (μ : Mem) : Option (Mem × Int32) :=
  (pfI 49 9 ((jshl (μ.1 49 9) (1 : Int32)) ||| p1) μ).bind fun m1 =>
  (pfI 49 10 ((m1.1 49 10) + (1 : Int32)) m1).bind fun m3 =>
  if (m3.1 49 8) = 0 then
    if (m3.1 49 10) < (32 : Int32) then
      rtZ (0 : Int32) m3
    else
      (pfI 49 10 (32 : Int32) m3).bind fun m7 =>
      (f100 m7).bind fun r9 =>
      rtZ (0 : Int32) r9
  else
    (f99 m3).bind fun r11 =>
    rtZ r11.2 r11.1
theorem ok98 {L : Nat} (p1 : Int32) (μ : Mem) (res : Mem × Int32) (h : f98 p1 μ = some res) : Mx 98 [.ref 49, .int p1] (mk L μ) (mk L res.1, some (.int res.2)) := by
  refine Mx_of ml_98 (by rw [mx_98]; exact Nat.le_of_ble_eq_true rfl) ?_
  show Sx 98 0 [(0, .ref 49), (1, .int p1)] [] 0 0 (mk L μ) _
  unfold f98 at h
  refine sx_aload_n (i := 0) k98_0 rfl rfl ?_
  refine sx_aload_n (i := 0) k98_1 rfl rfl ?_
  refine cx_getI (k := 9) k98_2 ow_98 fl_4_45 (by decide) sk_49 ft_3_9 ?_
  refine sx_iconst (v := 1) k98_5 (by decide) ?_
  refine sx_ishl k98_6 ?_
  refine sx_iload_n (i := 1) k98_7 rfl rfl ?_
  refine sx_ior k98_8 ?_
  obtain ⟨m1, e2, h⟩ := Option.bind_eq_some_iff.mp h
  refine cx_putI (k := 9) k98_9 ow_98 fl_4_45 (by decide) sk_49 nf_3_9 fu_3_9 e2 ?_
  refine sx_aload_n (i := 0) k98_12 rfl rfl ?_
  refine sx_dup k98_13 rfl ?_
  refine cx_getI (k := 10) k98_14 ow_98 fl_4_48 (by decide) sk_49 ft_3_10 ?_
  refine sx_iconst (v := 1) k98_17 (by decide) ?_
  refine sx_iadd k98_18 ?_
  obtain ⟨m3, e4, h⟩ := Option.bind_eq_some_iff.mp h
  refine cx_putI (k := 10) k98_19 ow_98 fl_4_48 (by decide) sk_49 nf_3_10 fu_3_10 e4 ?_
  refine sx_aload_n (i := 0) k98_22 rfl rfl ?_
  refine cx_getI (k := 8) k98_23 ow_98 fl_4_51 (by decide) sk_49 ft_3_8 ?_
  by_cases hb5 : (m3.1 49 8) = 0
  · rw [if_pos hb5] at h
    refine sx_if_eq (tgt := 34) k98_26 (by decide) (fun _ => ?_) (fun q => absurd hb5 q)
    refine sx_aload_n (i := 0) k98_34 rfl rfl ?_
    refine cx_getI (k := 10) k98_35 ow_98 fl_4_48 (by decide) sk_49 ft_3_10 ?_
    refine sx_bipush (v := 32) k98_38 (by decide) ?_
    by_cases hb6 : (m3.1 49 10) < (32 : Int32)
    · rw [if_pos hb6] at h
      refine sx_icmp_lt (tgt := 53) k98_40 (by decide) (fun _ => ?_) (fun q => absurd hb6 q)
      refine sx_iconst (v := 0) k98_53 (by decide) ?_
      exact cx_retz k98_54 rt_98 h
    · rw [if_neg hb6] at h
      refine sx_icmp_lt (tgt := 53) k98_40 (by decide) (fun q => absurd q hb6) (fun _ => ?_)
      refine sx_aload_n (i := 0) k98_43 rfl rfl ?_
      refine sx_bipush (v := 32) k98_44 (by decide) ?_
      obtain ⟨m7, e8, h⟩ := Option.bind_eq_some_iff.mp h
      refine cx_putI (k := 10) k98_46 ow_98 fl_4_48 (by decide) sk_49 nf_3_10 fu_3_10 e8 ?_
      refine sx_aload_n (i := 0) k98_49 rfl rfl ?_
      obtain ⟨r9, e10, h⟩ := Option.bind_eq_some_iff.mp h
      refine cx_V (sk := []) (vs := []) st_98_100 k98_50 ow_98 cl_4_59 (by decide) rfl (Nat.le_of_ble_eq_true rfl) sk_49 (ok100 _ _ e10) (sk3 := []) rfl rfl ?_
      refine sx_iconst (v := 0) k98_53 (by decide) ?_
      exact cx_retz k98_54 rt_98 h
  · rw [if_neg hb5] at h
    refine sx_if_eq (tgt := 34) k98_26 (by decide) (fun q => absurd q hb5) (fun _ => ?_)
    refine sx_aload_n (i := 0) k98_29 rfl rfl ?_
    obtain ⟨r11, e12, h⟩ := Option.bind_eq_some_iff.mp h
    refine cx_V (sk := []) (vs := []) st_98_99 k98_30 ow_98 cl_4_55 (by decide) rfl (Nat.le_of_ble_eq_true rfl) sk_49 (ok99 _ _ e12) (sk3 := [.int r11.2]) rfl rfl ?_
    exact cx_retz k98_33 rt_98 h
theorem k103_0 : decode (gb 103) 0 = .ok (.aload_n 0, 1) := by decide +kernel
theorem k103_1 : decode (gb 103) 1 = .ok (.dup, 1) := by decide +kernel
theorem k103_2 : decode (gb 103) 2 = .ok (.getfield 90, 3) := by decide +kernel
theorem k103_5 : decode (gb 103) 5 = .ok (.iconst 1, 1) := by decide +kernel
theorem k103_6 : decode (gb 103) 6 = .ok (.iadd, 1) := by decide +kernel
theorem k103_7 : decode (gb 103) 7 = .ok (.putfield 90, 3) := by decide +kernel
theorem k103_10 : decode (gb 103) 10 = .ok (.aload_n 0, 1) := by decide +kernel
theorem k103_11 : decode (gb 103) 11 = .ok (.getfield 14, 3) := by decide +kernel
theorem k103_14 : decode (gb 103) 14 = .ok (.aload_n 0, 1) := by decide +kernel
theorem k103_15 : decode (gb 103) 15 = .ok (.getfield 34, 3) := by decide +kernel
theorem k103_18 : decode (gb 103) 18 = .ok (.invokevirtual 93, 3) := by decide +kernel
theorem k103_21 : decode (gb 103) 21 = .ok (.aload_n 0, 1) := by decide +kernel
theorem k103_22 : decode (gb 103) 22 = .ok (.getfield 14, 3) := by decide +kernel
theorem k103_25 : decode (gb 103) 25 = .ok (.iconst 0, 1) := by decide +kernel
theorem k103_26 : decode (gb 103) 26 = .ok (.invokevirtual 97, 3) := by decide +kernel
theorem k103_29 : decode (gb 103) 29 = .ok (.ldc 100, 2) := by decide +kernel
theorem k103_31 : decode (gb 103) 31 = .ok (.iand, 1) := by decide +kernel
theorem k103_32 : decode (gb 103) 32 = .ok (.sipush 2737, 3) := by decide +kernel
theorem k103_35 : decode (gb 103) 35 = .ok (.if_icmp .ne 46, 3) := by decide +kernel
theorem k103_38 : decode (gb 103) 38 = .ok (.aload_n 0, 1) := by decide +kernel
theorem k103_39 : decode (gb 103) 39 = .ok (.getfield 14, 3) := by decide +kernel
theorem k103_42 : decode (gb 103) 42 = .ok (.iconst 4, 1) := by decide +kernel
theorem k103_43 : decode (gb 103) 43 = .ok (.invokevirtual 101, 3) := by decide +kernel
theorem k103_46 : decode (gb 103) 46 = .ok (.sipush 248, 3) := by decide +kernel
theorem k103_49 : decode (gb 103) 49 = .ok (.iand, 1) := by decide +kernel
theorem k103_50 : decode (gb 103) 50 = .ok (.bipush 24, 2) := by decide +kernel
theorem k103_52 : decode (gb 103) 52 = .ok (.if_icmp .ne 29, 3) := by decide +kernel
theorem k103_55 : decode (gb 103) 55 = .ok (.aload_n 0, 1) := by decide +kernel
theorem k103_56 : decode (gb 103) 56 = .ok (.getfield 14, 3) := by decide +kernel
theorem k103_59 : decode (gb 103) 59 = .ok (.iconst 0, 1) := by decide +kernel
theorem k103_60 : decode (gb 103) 60 = .ok (.bipush 62, 2) := by decide +kernel
theorem k103_62 : decode (gb 103) 62 = .ok (.invokevirtual 104, 3) := by decide +kernel
theorem k103_65 : decode (gb 103) 65 = .ok (.aload_n 0, 1) := by decide +kernel
theorem k103_66 : decode (gb 103) 66 = .ok (.getfield 14, 3) := by decide +kernel
theorem k103_69 : decode (gb 103) 69 = .ok (.bipush 62, 2) := by decide +kernel
theorem k103_71 : decode (gb 103) 71 = .ok (.invokevirtual 97, 3) := by decide +kernel
theorem k103_74 : decode (gb 103) 74 = .ok (.if_icmp .ne 7, 3) := by decide +kernel
theorem k103_77 : decode (gb 103) 77 = .ok (.iconst 1, 1) := by decide +kernel
theorem k103_78 : decode (gb 103) 78 = .ok (.goto 4, 3) := by decide +kernel
theorem k103_81 : decode (gb 103) 81 = .ok (.iconst 0, 1) := by decide +kernel
theorem k103_82 : decode (gb 103) 82 = .ok (.istore_n 1, 1) := by decide +kernel
theorem k103_83 : decode (gb 103) 83 = .ok (.iload_n 1, 1) := by decide +kernel
theorem k103_84 : decode (gb 103) 84 = .ok (.ifCond .ne 13, 3) := by decide +kernel
theorem k103_87 : decode (gb 103) 87 = .ok (.aload_n 0, 1) := by decide +kernel
theorem k103_88 : decode (gb 103) 88 = .ok (.dup, 1) := by decide +kernel
theorem k103_89 : decode (gb 103) 89 = .ok (.getfield 108, 3) := by decide +kernel
theorem k103_92 : decode (gb 103) 92 = .ok (.iconst 1, 1) := by decide +kernel
theorem k103_93 : decode (gb 103) 93 = .ok (.iadd, 1) := by decide +kernel
theorem k103_94 : decode (gb 103) 94 = .ok (.putfield 108, 3) := by decide +kernel
theorem k103_97 : decode (gb 103) 97 = .ok (.iload_n 1, 1) := by decide +kernel
theorem k103_98 : decode (gb 103) 98 = .ok (.ireturn, 1) := by decide +kernel
def c103_82 (s0 : Int32) (μ : Mem) : Option (Mem × Int32) :=
  if s0 = 0 then
    (pfI 49 14 ((μ.1 49 14) + (1 : Int32)) μ).bind fun m2 =>
    rtZ s0 m2
  else
    rtZ s0 μ
theorem c103_82_ok {L : Nat} (s0 : Int32) (μ : Mem) (res : Mem × Int32) (h : c103_82 s0 μ = some res) : Sx 103 82 [(0, .ref 49)] [.int s0] 0 0 (mk L μ) (mk L res.1, some (.int res.2)) := by
  unfold c103_82 at h
  refine cx_istore_n (lo2 := [(1, .int s0), (0, .ref 49)]) k103_82 rfl (by rw [mx_103]; decide) rfl ?_
  refine sx_iload_n (i := 1) k103_83 rfl rfl ?_
  by_cases hb1 : s0 = 0
  · rw [if_pos hb1] at h
    refine sx_if_ne (tgt := 97) k103_84 (by decide) (fun q => absurd hb1 q) (fun _ => ?_)
    refine sx_aload_n (i := 0) k103_87 rfl rfl ?_
    refine sx_dup k103_88 rfl ?_
    refine cx_getI (k := 14) k103_89 ow_103 fl_4_108 (by decide) sk_49 ft_3_14 ?_
    refine sx_iconst (v := 1) k103_92 (by decide) ?_
    refine sx_iadd k103_93 ?_
    obtain ⟨m2, e3, h⟩ := Option.bind_eq_some_iff.mp h
    refine cx_putI (k := 14) k103_94 ow_103 fl_4_108 (by decide) sk_49 nf_3_14 fu_3_14 e3 ?_
    refine sx_iload_n (i := 1) k103_97 rfl rfl ?_
    exact cx_retz k103_98 rt_103 h
  · rw [if_neg hb1] at h
    refine sx_if_ne (tgt := 97) k103_84 (by decide) (fun _ => ?_) (fun q => absurd q hb1)
    refine sx_iload_n (i := 1) k103_97 rfl rfl ?_
    exact cx_retz k103_98 rt_103 h
def c103_81 (μ : Mem) : Option (Mem × Int32) :=
  c103_82 (0 : Int32) μ
theorem c103_81_ok {L : Nat} (μ : Mem) (res : Mem × Int32) (h : c103_81 μ = some res) : Sx 103 81 [(0, .ref 49)] [] 0 0 (mk L μ) (mk L res.1, some (.int res.2)) := by
  unfold c103_81 at h
  refine sx_iconst (v := 0) k103_81 (by decide) ?_
  refine sx_pick (lo2 := [(0, .ref 49)]) [0] rfl ?_
  exact c103_82_ok (0 : Int32) _ _ h
/-- GroundEar.frameIsSound()Z -/
def f103 (μ : Mem) : Option (Mem × Int32) :=
  (pfI 49 13 ((μ.1 49 13) + (1 : Int32)) μ).bind fun m1 =>
  (f74 50 27 m1).bind fun r3 =>
  (f76 50 (0 : Int32) r3).bind fun r5 =>
  if (r5.2 &&& (65521 : Int32)) = (2737 : Int32) then
    (f75 50 (4 : Int32) r5.1).bind fun r8 =>
    if (r8.2 &&& (248 : Int32)) = (24 : Int32) then
      (f78 50 (0 : Int32) (62 : Int32) r8.1).bind fun r11 =>
      (f76 50 (62 : Int32) r11.1).bind fun r13 =>
      if r11.2 = r13.2 then
        c103_82 (1 : Int32) r13.1
      else
        c103_81 r13.1
    else
      c103_81 r8.1
  else
    c103_81 r5.1
theorem ok103 {L : Nat} (μ : Mem) (res : Mem × Int32) (h : f103 μ = some res) : Mx 103 [.ref 49] (mk L μ) (mk L res.1, some (.int res.2)) := by
  refine Mx_of ml_103 (by rw [mx_103]; exact Nat.le_of_ble_eq_true rfl) ?_
  show Sx 103 0 [(0, .ref 49)] [] 0 0 (mk L μ) _
  unfold f103 at h
  refine sx_aload_n (i := 0) k103_0 rfl rfl ?_
  refine sx_dup k103_1 rfl ?_
  refine cx_getI (k := 13) k103_2 ow_103 fl_4_90 (by decide) sk_49 ft_3_13 ?_
  refine sx_iconst (v := 1) k103_5 (by decide) ?_
  refine sx_iadd k103_6 ?_
  obtain ⟨m1, e2, h⟩ := Option.bind_eq_some_iff.mp h
  refine cx_putI (k := 13) k103_7 ow_103 fl_4_90 (by decide) sk_49 nf_3_13 fu_3_13 e2 ?_
  refine sx_aload_n (i := 0) k103_10 rfl rfl ?_
  refine cx_getR (k := 2) k103_11 ow_103 fl_4_14 (by decide) sk_49 ft_3_2 sr_49_2 ?_
  refine sx_aload_n (i := 0) k103_14 rfl rfl ?_
  refine cx_getR (k := 1) k103_15 ow_103 fl_4_34 (by decide) sk_49 ft_3_1 sr_49_1 ?_
  obtain ⟨r3, e4, h⟩ := Option.bind_eq_some_iff.mp h
  refine cx_V (sk := []) (vs := [.ref 27]) st_103_74 k103_18 ow_103 cl_4_93 (by decide) rfl (Nat.le_of_ble_eq_true rfl) sk_50 (ok74 50 27 sk_50 sk_27 _ _ e4) (sk3 := []) rfl rfl ?_
  refine sx_aload_n (i := 0) k103_21 rfl rfl ?_
  refine cx_getR (k := 2) k103_22 ow_103 fl_4_14 (by decide) sk_49 ft_3_2 sr_49_2 ?_
  refine sx_iconst (v := 0) k103_25 (by decide) ?_
  obtain ⟨r5, e6, h⟩ := Option.bind_eq_some_iff.mp h
  refine cx_V (sk := []) (vs := [.int (0 : Int32)]) st_103_76 k103_26 ow_103 cl_4_97 (by decide) rfl (Nat.le_of_ble_eq_true rfl) sk_50 (ok76 50 (0 : Int32) sk_50 _ _ e6) (sk3 := [.int r5.2]) rfl rfl ?_
  refine cx_ldc (v := 65521) k103_29 ow_103 kl_4_100 (by decide) ?_
  refine sx_iand k103_31 ?_
  refine sx_sipush (v := 2737) k103_32 (by decide) ?_
  by_cases hb7 : (r5.2 &&& (65521 : Int32)) = (2737 : Int32)
  · rw [if_pos hb7] at h
    refine sx_icmp_ne (tgt := 81) k103_35 (by decide) (fun q => absurd hb7 q) (fun _ => ?_)
    refine sx_aload_n (i := 0) k103_38 rfl rfl ?_
    refine cx_getR (k := 2) k103_39 ow_103 fl_4_14 (by decide) sk_49 ft_3_2 sr_49_2 ?_
    refine sx_iconst (v := 4) k103_42 (by decide) ?_
    obtain ⟨r8, e9, h⟩ := Option.bind_eq_some_iff.mp h
    refine cx_V (sk := []) (vs := [.int (4 : Int32)]) st_103_75 k103_43 ow_103 cl_4_101 (by decide) rfl (Nat.le_of_ble_eq_true rfl) sk_50 (ok75 50 (4 : Int32) sk_50 _ _ e9) (sk3 := [.int r8.2]) rfl rfl ?_
    refine sx_sipush (v := 248) k103_46 (by decide) ?_
    refine sx_iand k103_49 ?_
    refine sx_bipush (v := 24) k103_50 (by decide) ?_
    by_cases hb10 : (r8.2 &&& (248 : Int32)) = (24 : Int32)
    · rw [if_pos hb10] at h
      refine sx_icmp_ne (tgt := 81) k103_52 (by decide) (fun q => absurd hb10 q) (fun _ => ?_)
      refine sx_aload_n (i := 0) k103_55 rfl rfl ?_
      refine cx_getR (k := 2) k103_56 ow_103 fl_4_14 (by decide) sk_49 ft_3_2 sr_49_2 ?_
      refine sx_iconst (v := 0) k103_59 (by decide) ?_
      refine sx_bipush (v := 62) k103_60 (by decide) ?_
      obtain ⟨r11, e12, h⟩ := Option.bind_eq_some_iff.mp h
      refine cx_V (sk := []) (vs := [.int (0 : Int32), .int (62 : Int32)]) st_103_78 k103_62 ow_103 cl_4_104 (by decide) rfl (Nat.le_of_ble_eq_true rfl) sk_50 (ok78 50 (0 : Int32) (62 : Int32) sk_50 _ _ e12) (sk3 := [.int r11.2]) rfl rfl ?_
      refine sx_aload_n (i := 0) k103_65 rfl rfl ?_
      refine cx_getR (k := 2) k103_66 ow_103 fl_4_14 (by decide) sk_49 ft_3_2 sr_49_2 ?_
      refine sx_bipush (v := 62) k103_69 (by decide) ?_
      obtain ⟨r13, e14, h⟩ := Option.bind_eq_some_iff.mp h
      refine cx_V (sk := [.int r11.2]) (vs := [.int (62 : Int32)]) st_103_76 k103_71 ow_103 cl_4_97 (by decide) rfl (Nat.le_of_ble_eq_true rfl) sk_50 (ok76 50 (62 : Int32) sk_50 _ _ e14) (sk3 := [.int r13.2, .int r11.2]) rfl rfl ?_
      by_cases hb15 : r11.2 = r13.2
      · rw [if_pos hb15] at h
        refine sx_icmp_ne (tgt := 81) k103_74 (by decide) (fun q => absurd hb15 q) (fun _ => ?_)
        refine sx_iconst (v := 1) k103_77 (by decide) ?_
        refine sx_goto (tgt := 82) k103_78 (by decide) ?_
        refine sx_pick (lo2 := [(0, .ref 49)]) [0] rfl ?_
        exact c103_82_ok (1 : Int32) _ _ h
      · rw [if_neg hb15] at h
        refine sx_icmp_ne (tgt := 81) k103_74 (by decide) (fun _ => ?_) (fun q => absurd q hb15)
        refine sx_pick (lo2 := [(0, .ref 49)]) [0] rfl ?_
        exact c103_81_ok _ _ h
    · rw [if_neg hb10] at h
      refine sx_icmp_ne (tgt := 81) k103_52 (by decide) (fun _ => ?_) (fun q => absurd q hb10)
      refine sx_pick (lo2 := [(0, .ref 49)]) [0] rfl ?_
      exact c103_81_ok _ _ h
  · rw [if_neg hb7] at h
    refine sx_icmp_ne (tgt := 81) k103_35 (by decide) (fun _ => ?_) (fun q => absurd q hb7)
    refine sx_pick (lo2 := [(0, .ref 49)]) [0] rfl ?_
    exact c103_81_ok _ _ h
theorem k104_0 : decode (gb 104) 0 = .ok (.aload_n 0, 1) := by decide +kernel
theorem k104_1 : decode (gb 104) 1 = .ok (.getfield 14, 3) := by decide +kernel
theorem k104_4 : decode (gb 104) 4 = .ok (.bipush 60, 2) := by decide +kernel
theorem k104_6 : decode (gb 104) 6 = .ok (.invokevirtual 101, 3) := by decide +kernel
theorem k104_9 : decode (gb 104) 9 = .ok (.istore_n 1, 1) := by decide +kernel
theorem k104_10 : decode (gb 104) 10 = .ok (.aload_n 0, 1) := by decide +kernel
theorem k104_11 : decode (gb 104) 11 = .ok (.getfield 14, 3) := by decide +kernel
theorem k104_14 : decode (gb 104) 14 = .ok (.bipush 58, 2) := by decide +kernel
theorem k104_16 : decode (gb 104) 16 = .ok (.invokevirtual 97, 3) := by decide +kernel
theorem k104_19 : decode (gb 104) 19 = .ok (.sipush 256, 3) := by decide +kernel
theorem k104_22 : decode (gb 104) 22 = .ok (.if_icmp .ne 11, 3) := by decide +kernel
theorem k104_25 : decode (gb 104) 25 = .ok (.iload_n 1, 1) := by decide +kernel
theorem k104_26 : decode (gb 104) 26 = .ok (.sipush 193, 3) := by decide +kernel
theorem k104_29 : decode (gb 104) 29 = .ok (.iand, 1) := by decide +kernel
theorem k104_30 : decode (gb 104) 30 = .ok (.ifCond .eq 5, 3) := by decide +kernel
theorem k104_33 : decode (gb 104) 33 = .ok (.iconst 0, 1) := by decide +kernel
theorem k104_34 : decode (gb 104) 34 = .ok (.ireturn, 1) := by decide +kernel
theorem k104_35 : decode (gb 104) 35 = .ok (.aload_n 0, 1) := by decide +kernel
theorem k104_36 : decode (gb 104) 36 = .ok (.dup, 1) := by decide +kernel
theorem k104_37 : decode (gb 104) 37 = .ok (.getfield 111, 3) := by decide +kernel
theorem k104_40 : decode (gb 104) 40 = .ok (.iconst 1, 1) := by decide +kernel
theorem k104_41 : decode (gb 104) 41 = .ok (.iadd, 1) := by decide +kernel
theorem k104_42 : decode (gb 104) 42 = .ok (.putfield 111, 3) := by decide +kernel
theorem k104_45 : decode (gb 104) 45 = .ok (.aload_n 0, 1) := by decide +kernel
theorem k104_46 : decode (gb 104) 46 = .ok (.iload_n 1, 1) := by decide +kernel
theorem k104_47 : decode (gb 104) 47 = .ok (.iconst 1, 1) := by decide +kernel
theorem k104_48 : decode (gb 104) 48 = .ok (.ishr, 1) := by decide +kernel
theorem k104_49 : decode (gb 104) 49 = .ok (.putfield 114, 3) := by decide +kernel
theorem k104_52 : decode (gb 104) 52 = .ok (.aload_n 0, 1) := by decide +kernel
theorem k104_53 : decode (gb 104) 53 = .ok (.aload_n 0, 1) := by decide +kernel
theorem k104_54 : decode (gb 104) 54 = .ok (.getfield 14, 3) := by decide +kernel
theorem k104_57 : decode (gb 104) 57 = .ok (.bipush 61, 2) := by decide +kernel
theorem k104_59 : decode (gb 104) 59 = .ok (.invokevirtual 101, 3) := by decide +kernel
theorem k104_62 : decode (gb 104) 62 = .ok (.putfield 117, 3) := by decide +kernel
theorem k104_65 : decode (gb 104) 65 = .ok (.iconst 1, 1) := by decide +kernel
theorem k104_66 : decode (gb 104) 66 = .ok (.ireturn, 1) := by decide +kernel
/-- GroundEar.findReport()Z -/
def f104 (μ : Mem) : Option (Mem × Int32) :=
  (f75 50 (60 : Int32) μ).bind fun r1 =>
  (f76 50 (58 : Int32) r1.1).bind fun r3 =>
  if r3.2 = (256 : Int32) then
    if (r1.2 &&& (193 : Int32)) = 0 then
      (pfI 49 16 ((r3.1.1 49 16) + (1 : Int32)) r3.1).bind fun m7 =>
      (pfI 49 18 (jshr r1.2 (1 : Int32)) m7).bind fun m9 =>
      (f75 50 (61 : Int32) m9).bind fun r11 =>
      (pfI 49 17 r11.2 r11.1).bind fun m13 =>
      rtZ (1 : Int32) m13
    else
      rtZ (0 : Int32) r3.1
  else
    rtZ (0 : Int32) r3.1
theorem ok104 {L : Nat} (μ : Mem) (res : Mem × Int32) (h : f104 μ = some res) : Mx 104 [.ref 49] (mk L μ) (mk L res.1, some (.int res.2)) := by
  refine Mx_of ml_104 (by rw [mx_104]; exact Nat.le_of_ble_eq_true rfl) ?_
  show Sx 104 0 [(0, .ref 49)] [] 0 0 (mk L μ) _
  unfold f104 at h
  refine sx_aload_n (i := 0) k104_0 rfl rfl ?_
  refine cx_getR (k := 2) k104_1 ow_104 fl_4_14 (by decide) sk_49 ft_3_2 sr_49_2 ?_
  refine sx_bipush (v := 60) k104_4 (by decide) ?_
  obtain ⟨r1, e2, h⟩ := Option.bind_eq_some_iff.mp h
  refine cx_V (sk := []) (vs := [.int (60 : Int32)]) st_104_75 k104_6 ow_104 cl_4_101 (by decide) rfl (Nat.le_of_ble_eq_true rfl) sk_50 (ok75 50 (60 : Int32) sk_50 _ _ e2) (sk3 := [.int r1.2]) rfl rfl ?_
  refine cx_istore_n (lo2 := [(1, .int r1.2), (0, .ref 49)]) k104_9 rfl (by rw [mx_104]; decide) rfl ?_
  refine sx_aload_n (i := 0) k104_10 rfl rfl ?_
  refine cx_getR (k := 2) k104_11 ow_104 fl_4_14 (by decide) sk_49 ft_3_2 sr_49_2 ?_
  refine sx_bipush (v := 58) k104_14 (by decide) ?_
  obtain ⟨r3, e4, h⟩ := Option.bind_eq_some_iff.mp h
  refine cx_V (sk := []) (vs := [.int (58 : Int32)]) st_104_76 k104_16 ow_104 cl_4_97 (by decide) rfl (Nat.le_of_ble_eq_true rfl) sk_50 (ok76 50 (58 : Int32) sk_50 _ _ e4) (sk3 := [.int r3.2]) rfl rfl ?_
  refine sx_sipush (v := 256) k104_19 (by decide) ?_
  by_cases hb5 : r3.2 = (256 : Int32)
  · rw [if_pos hb5] at h
    refine sx_icmp_ne (tgt := 33) k104_22 (by decide) (fun q => absurd hb5 q) (fun _ => ?_)
    refine sx_iload_n (i := 1) k104_25 rfl rfl ?_
    refine sx_sipush (v := 193) k104_26 (by decide) ?_
    refine sx_iand k104_29 ?_
    by_cases hb6 : (r1.2 &&& (193 : Int32)) = 0
    · rw [if_pos hb6] at h
      refine sx_if_eq (tgt := 35) k104_30 (by decide) (fun _ => ?_) (fun q => absurd hb6 q)
      refine sx_aload_n (i := 0) k104_35 rfl rfl ?_
      refine sx_dup k104_36 rfl ?_
      refine cx_getI (k := 16) k104_37 ow_104 fl_4_111 (by decide) sk_49 ft_3_16 ?_
      refine sx_iconst (v := 1) k104_40 (by decide) ?_
      refine sx_iadd k104_41 ?_
      obtain ⟨m7, e8, h⟩ := Option.bind_eq_some_iff.mp h
      refine cx_putI (k := 16) k104_42 ow_104 fl_4_111 (by decide) sk_49 nf_3_16 fu_3_16 e8 ?_
      refine sx_aload_n (i := 0) k104_45 rfl rfl ?_
      refine sx_iload_n (i := 1) k104_46 rfl rfl ?_
      refine sx_iconst (v := 1) k104_47 (by decide) ?_
      refine sx_ishr k104_48 ?_
      obtain ⟨m9, e10, h⟩ := Option.bind_eq_some_iff.mp h
      refine cx_putI (k := 18) k104_49 ow_104 fl_4_114 (by decide) sk_49 nf_3_18 fu_3_18 e10 ?_
      refine sx_aload_n (i := 0) k104_52 rfl rfl ?_
      refine sx_aload_n (i := 0) k104_53 rfl rfl ?_
      refine cx_getR (k := 2) k104_54 ow_104 fl_4_14 (by decide) sk_49 ft_3_2 sr_49_2 ?_
      refine sx_bipush (v := 61) k104_57 (by decide) ?_
      obtain ⟨r11, e12, h⟩ := Option.bind_eq_some_iff.mp h
      refine cx_V (sk := [.ref 49]) (vs := [.int (61 : Int32)]) st_104_75 k104_59 ow_104 cl_4_101 (by decide) rfl (Nat.le_of_ble_eq_true rfl) sk_50 (ok75 50 (61 : Int32) sk_50 _ _ e12) (sk3 := [.int r11.2, .ref 49]) rfl rfl ?_
      obtain ⟨m13, e14, h⟩ := Option.bind_eq_some_iff.mp h
      refine cx_putI (k := 17) k104_62 ow_104 fl_4_117 (by decide) sk_49 nf_3_17 fu_3_17 e14 ?_
      refine sx_iconst (v := 1) k104_65 (by decide) ?_
      exact cx_retz k104_66 rt_104 h
    · rw [if_neg hb6] at h
      refine sx_if_eq (tgt := 35) k104_30 (by decide) (fun q => absurd q hb6) (fun _ => ?_)
      refine sx_iconst (v := 0) k104_33 (by decide) ?_
      exact cx_retz k104_34 rt_104 h
  · rw [if_neg hb5] at h
    refine sx_icmp_ne (tgt := 33) k104_22 (by decide) (fun _ => ?_) (fun q => absurd q hb5)
    refine sx_iconst (v := 0) k104_33 (by decide) ?_
    exact cx_retz k104_34 rt_104 h
theorem k106_0 : decode (gb 106) 0 = .ok (.aload_n 0, 1) := by decide +kernel
theorem k106_1 : decode (gb 106) 1 = .ok (.getfield 14, 3) := by decide +kernel
theorem k106_4 : decode (gb 106) 4 = .ok (.iconst 3, 1) := by decide +kernel
theorem k106_5 : decode (gb 106) 5 = .ok (.invokevirtual 101, 3) := by decide +kernel
theorem k106_8 : decode (gb 106) 8 = .ok (.istore_n 3, 1) := by decide +kernel
theorem k106_9 : decode (gb 106) 9 = .ok (.aload_n 0, 1) := by decide +kernel
theorem k106_10 : decode (gb 106) 10 = .ok (.getfield 26, 3) := by decide +kernel
theorem k106_13 : decode (gb 106) 13 = .ok (.iload_n 1, 1) := by decide +kernel
theorem k106_14 : decode (gb 106) 14 = .ok (.iconst 1, 1) := by decide +kernel
theorem k106_15 : decode (gb 106) 15 = .ok (.iand, 1) := by decide +kernel
theorem k106_16 : decode (gb 106) 16 = .ok (.iaload, 1) := by decide +kernel
theorem k106_17 : decode (gb 106) 17 = .ok (.istore 4, 2) := by decide +kernel
theorem k106_19 : decode (gb 106) 19 = .ok (.iload 4, 2) := by decide +kernel
theorem k106_21 : decode (gb 106) 21 = .ok (.ifCond .lt 29, 3) := by decide +kernel
theorem k106_24 : decode (gb 106) 24 = .ok (.iload_n 3, 1) := by decide +kernel
theorem k106_25 : decode (gb 106) 25 = .ok (.iload 4, 2) := by decide +kernel
theorem k106_27 : decode (gb 106) 27 = .ok (.iconst 1, 1) := by decide +kernel
theorem k106_28 : decode (gb 106) 28 = .ok (.iadd, 1) := by decide +kernel
theorem k106_29 : decode (gb 106) 29 = .ok (.sipush 255, 3) := by decide +kernel
theorem k106_32 : decode (gb 106) 32 = .ok (.iand, 1) := by decide +kernel
theorem k106_33 : decode (gb 106) 33 = .ok (.if_icmp .eq 17, 3) := by decide +kernel
theorem k106_36 : decode (gb 106) 36 = .ok (.aload_n 0, 1) := by decide +kernel
theorem k106_37 : decode (gb 106) 37 = .ok (.dup, 1) := by decide +kernel
theorem k106_38 : decode (gb 106) 38 = .ok (.getfield 130, 3) := by decide +kernel
theorem k106_41 : decode (gb 106) 41 = .ok (.iconst 1, 1) := by decide +kernel
theorem k106_42 : decode (gb 106) 42 = .ok (.iadd, 1) := by decide +kernel
theorem k106_43 : decode (gb 106) 43 = .ok (.putfield 130, 3) := by decide +kernel
theorem k106_46 : decode (gb 106) 46 = .ok (.aload_n 2, 1) := by decide +kernel
theorem k106_47 : decode (gb 106) 47 = .ok (.invokevirtual 87, 3) := by decide +kernel
theorem k106_50 : decode (gb 106) 50 = .ok (.aload_n 0, 1) := by decide +kernel
theorem k106_51 : decode (gb 106) 51 = .ok (.getfield 26, 3) := by decide +kernel
theorem k106_54 : decode (gb 106) 54 = .ok (.iload_n 1, 1) := by decide +kernel
theorem k106_55 : decode (gb 106) 55 = .ok (.iconst 1, 1) := by decide +kernel
theorem k106_56 : decode (gb 106) 56 = .ok (.iand, 1) := by decide +kernel
theorem k106_57 : decode (gb 106) 57 = .ok (.iload_n 3, 1) := by decide +kernel
theorem k106_58 : decode (gb 106) 58 = .ok (.iastore, 1) := by decide +kernel
theorem k106_59 : decode (gb 106) 59 = .ok (.return_, 1) := by decide +kernel
def c106_50 (p2 : Nat) (v1 : Int32) (v3 : Int32) (μ : Mem) : Option (Mem) :=
  (stA 56 (v1 &&& (1 : Int32)) v3 μ).bind fun m1 =>
  some m1
theorem c106_50_ok {L : Nat} (p2 : Nat) (h2 : SK0 p2 = (0, 1)) (v1 : Int32) (v3 : Int32) (μ : Mem) (res : Mem) (h : c106_50 p2 v1 v3 μ = some res) : Sx 106 50 [(0, .ref 49), (1, .int v1), (3, .int v3)] [] 0 0 (mk L μ) (mk L res, none) := by
  unfold c106_50 at h
  refine sx_aload_n (i := 0) k106_50 rfl rfl ?_
  refine cx_getR (k := 5) k106_51 ow_106 fl_4_26 (by decide) sk_49 ft_3_5 sr_49_5 ?_
  refine sx_iload_n (i := 1) k106_54 rfl rfl ?_
  refine sx_iconst (v := 1) k106_55 (by decide) ?_
  refine sx_iand k106_56 ?_
  refine sx_iload_n (i := 3) k106_57 rfl rfl ?_
  obtain ⟨m1, e2, h⟩ := Option.bind_eq_some_iff.mp h
  refine cx_iast k106_58 sk_56 e2 ?_
  exact cx_retv k106_59 rt_106 h
/-- GroundEar.followOwn(ILCraftHouse$Bytes;)V -/
def f106 (p1 : Int32) (p2 : Nat) (μ : Mem) : Option (Mem) :=
  (f75 50 (3 : Int32) μ).bind fun r1 =>
  (ldA 56 (p1 &&& (1 : Int32)) r1.1).bind fun x3 =>
  if x3 < 0 then
    c106_50 p2 p1 r1.2 r1.1
  else
    if r1.2 = ((x3 + (1 : Int32)) &&& (255 : Int32)) then
      c106_50 p2 p1 r1.2 r1.1
    else
      (pfI 49 15 ((r1.1.1 49 15) + (1 : Int32)) r1.1).bind fun m7 =>
      (f64 p2 m7).bind fun r9 =>
      c106_50 p2 p1 r1.2 r9
theorem ok106 {L : Nat} (p1 : Int32) (p2 : Nat) (h2 : SK0 p2 = (0, 1)) (μ : Mem) (res : Mem) (h : f106 p1 p2 μ = some res) : Mx 106 [.ref 49, .int p1, .ref p2] (mk L μ) (mk L res, none) := by
  refine Mx_of ml_106 (by rw [mx_106]; exact Nat.le_of_ble_eq_true rfl) ?_
  show Sx 106 0 [(0, .ref 49), (1, .int p1), (2, .ref p2)] [] 0 0 (mk L μ) _
  unfold f106 at h
  refine sx_aload_n (i := 0) k106_0 rfl rfl ?_
  refine cx_getR (k := 2) k106_1 ow_106 fl_4_14 (by decide) sk_49 ft_3_2 sr_49_2 ?_
  refine sx_iconst (v := 3) k106_4 (by decide) ?_
  obtain ⟨r1, e2, h⟩ := Option.bind_eq_some_iff.mp h
  refine cx_V (sk := []) (vs := [.int (3 : Int32)]) st_106_75 k106_5 ow_106 cl_4_101 (by decide) rfl (Nat.le_of_ble_eq_true rfl) sk_50 (ok75 50 (3 : Int32) sk_50 _ _ e2) (sk3 := [.int r1.2]) rfl rfl ?_
  refine cx_istore_n (lo2 := [(3, .int r1.2), (0, .ref 49), (1, .int p1), (2, .ref p2)]) k106_8 rfl (by rw [mx_106]; decide) rfl ?_
  refine sx_aload_n (i := 0) k106_9 rfl rfl ?_
  refine cx_getR (k := 5) k106_10 ow_106 fl_4_26 (by decide) sk_49 ft_3_5 sr_49_5 ?_
  refine sx_iload_n (i := 1) k106_13 rfl rfl ?_
  refine sx_iconst (v := 1) k106_14 (by decide) ?_
  refine sx_iand k106_15 ?_
  obtain ⟨x3, e4, h⟩ := Option.bind_eq_some_iff.mp h
  refine cx_iald k106_16 sk_56 e4 ?_
  refine cx_istore (lo2 := [(4, .int x3), (3, .int r1.2), (0, .ref 49), (1, .int p1), (2, .ref p2)]) k106_17 (by rw [mx_106]; decide) rfl ?_
  refine sx_iload k106_19 rfl ?_
  by_cases hb5 : x3 < 0
  · rw [if_pos hb5] at h
    refine sx_if_lt (tgt := 50) k106_21 (by decide) (fun _ => ?_) (fun q => absurd hb5 q)
    refine sx_pick (lo2 := [(0, .ref 49), (1, .int p1), (3, .int r1.2)]) [2, 3, 1] rfl ?_
    exact c106_50_ok p2 h2 p1 r1.2 _ _ h
  · rw [if_neg hb5] at h
    refine sx_if_lt (tgt := 50) k106_21 (by decide) (fun q => absurd q hb5) (fun _ => ?_)
    refine sx_iload_n (i := 3) k106_24 rfl rfl ?_
    refine sx_iload k106_25 rfl ?_
    refine sx_iconst (v := 1) k106_27 (by decide) ?_
    refine sx_iadd k106_28 ?_
    refine sx_sipush (v := 255) k106_29 (by decide) ?_
    refine sx_iand k106_32 ?_
    by_cases hb6 : r1.2 = ((x3 + (1 : Int32)) &&& (255 : Int32))
    · rw [if_pos hb6] at h
      refine sx_icmp_eq (tgt := 50) k106_33 (by decide) (fun _ => ?_) (fun q => absurd hb6 q)
      refine sx_pick (lo2 := [(0, .ref 49), (1, .int p1), (3, .int r1.2)]) [2, 3, 1] rfl ?_
      exact c106_50_ok p2 h2 p1 r1.2 _ _ h
    · rw [if_neg hb6] at h
      refine sx_icmp_eq (tgt := 50) k106_33 (by decide) (fun q => absurd q hb6) (fun _ => ?_)
      refine sx_aload_n (i := 0) k106_36 rfl rfl ?_
      refine sx_dup k106_37 rfl ?_
      refine cx_getI (k := 15) k106_38 ow_106 fl_4_130 (by decide) sk_49 ft_3_15 ?_
      refine sx_iconst (v := 1) k106_41 (by decide) ?_
      refine sx_iadd k106_42 ?_
      obtain ⟨m7, e8, h⟩ := Option.bind_eq_some_iff.mp h
      refine cx_putI (k := 15) k106_43 ow_106 fl_4_130 (by decide) sk_49 nf_3_15 fu_3_15 e8 ?_
      refine sx_aload_n (i := 2) k106_46 rfl rfl ?_
      obtain ⟨r9, e10, h⟩ := Option.bind_eq_some_iff.mp h
      refine cx_V (sk := []) (vs := []) st_106_64 k106_47 ow_106 cl_4_87 (by decide) rfl (Nat.le_of_ble_eq_true rfl) h2 (ok64 p2 h2 _ _ e10) (sk3 := []) rfl rfl ?_
      refine sx_pick (lo2 := [(0, .ref 49), (1, .int p1), (3, .int r1.2)]) [2, 3, 1] rfl ?_
      exact c106_50_ok p2 h2 p1 r1.2 _ _ h
theorem k105_0 : decode (gb 105) 0 = .ok (.aload_n 0, 1) := by decide +kernel
theorem k105_1 : decode (gb 105) 1 = .ok (.getfield 14, 3) := by decide +kernel
theorem k105_4 : decode (gb 105) 4 = .ok (.iconst 1, 1) := by decide +kernel
theorem k105_5 : decode (gb 105) 5 = .ok (.invokevirtual 101, 3) := by decide +kernel
theorem k105_8 : decode (gb 105) 8 = .ok (.iconst 1, 1) := by decide +kernel
theorem k105_9 : decode (gb 105) 9 = .ok (.ishr, 1) := by decide +kernel
theorem k105_10 : decode (gb 105) 10 = .ok (.bipush 7, 2) := by decide +kernel
theorem k105_12 : decode (gb 105) 12 = .ok (.iand, 1) := by decide +kernel
theorem k105_13 : decode (gb 105) 13 = .ok (.istore_n 1, 1) := by decide +kernel
theorem k105_14 : decode (gb 105) 14 = .ok (.iload_n 1, 1) := by decide +kernel
theorem k105_15 : decode (gb 105) 15 = .ok (.iconst 1, 1) := by decide +kernel
theorem k105_16 : decode (gb 105) 16 = .ok (.if_icmp .le 4, 3) := by decide +kernel
theorem k105_19 : decode (gb 105) 19 = .ok (.return_, 1) := by decide +kernel
theorem k105_20 : decode (gb 105) 20 = .ok (.iload_n 1, 1) := by decide +kernel
theorem k105_21 : decode (gb 105) 21 = .ok (.ifCond .ne 10, 3) := by decide +kernel
theorem k105_24 : decode (gb 105) 24 = .ok (.aload_n 0, 1) := by decide +kernel
theorem k105_25 : decode (gb 105) 25 = .ok (.getfield 20, 3) := by decide +kernel
theorem k105_28 : decode (gb 105) 28 = .ok (.goto 7, 3) := by decide +kernel
theorem k105_31 : decode (gb 105) 31 = .ok (.aload_n 0, 1) := by decide +kernel
theorem k105_32 : decode (gb 105) 32 = .ok (.getfield 23, 3) := by decide +kernel
theorem k105_35 : decode (gb 105) 35 = .ok (.astore_n 2, 1) := by decide +kernel
theorem k105_36 : decode (gb 105) 36 = .ok (.aload_n 0, 1) := by decide +kernel
theorem k105_37 : decode (gb 105) 37 = .ok (.iload_n 1, 1) := by decide +kernel
theorem k105_38 : decode (gb 105) 38 = .ok (.aload_n 2, 1) := by decide +kernel
theorem k105_39 : decode (gb 105) 39 = .ok (.invokevirtual 120, 3) := by decide +kernel
theorem k105_42 : decode (gb 105) 42 = .ok (.aload_n 2, 1) := by decide +kernel
theorem k105_43 : decode (gb 105) 43 = .ok (.getfield 65, 3) := by decide +kernel
theorem k105_46 : decode (gb 105) 46 = .ok (.ifCond .le 7, 3) := by decide +kernel
theorem k105_49 : decode (gb 105) 49 = .ok (.iconst 0, 1) := by decide +kernel
theorem k105_50 : decode (gb 105) 50 = .ok (.goto 15, 3) := by decide +kernel
theorem k105_53 : decode (gb 105) 53 = .ok (.aload_n 0, 1) := by decide +kernel
theorem k105_54 : decode (gb 105) 54 = .ok (.getfield 14, 3) := by decide +kernel
theorem k105_57 : decode (gb 105) 57 = .ok (.iconst 4, 1) := by decide +kernel
theorem k105_58 : decode (gb 105) 58 = .ok (.invokevirtual 97, 3) := by decide +kernel
theorem k105_61 : decode (gb 105) 61 = .ok (.sipush 2047, 3) := by decide +kernel
theorem k105_64 : decode (gb 105) 64 = .ok (.iand, 1) := by decide +kernel
theorem k105_65 : decode (gb 105) 65 = .ok (.istore_n 3, 1) := by decide +kernel
theorem k105_66 : decode (gb 105) 66 = .ok (.iload_n 3, 1) := by decide +kernel
theorem k105_67 : decode (gb 105) 67 = .ok (.istore 4, 2) := by decide +kernel
theorem k105_69 : decode (gb 105) 69 = .ok (.iload 4, 2) := by decide +kernel
theorem k105_71 : decode (gb 105) 71 = .ok (.bipush 52, 2) := by decide +kernel
theorem k105_73 : decode (gb 105) 73 = .ok (.if_icmp .ge 79, 3) := by decide +kernel
theorem k105_76 : decode (gb 105) 76 = .ok (.aload_n 2, 1) := by decide +kernel
theorem k105_77 : decode (gb 105) 77 = .ok (.aload_n 0, 1) := by decide +kernel
theorem k105_78 : decode (gb 105) 78 = .ok (.getfield 14, 3) := by decide +kernel
theorem k105_81 : decode (gb 105) 81 = .ok (.bipush 6, 2) := by decide +kernel
theorem k105_83 : decode (gb 105) 83 = .ok (.iload 4, 2) := by decide +kernel
theorem k105_85 : decode (gb 105) 85 = .ok (.iadd, 1) := by decide +kernel
theorem k105_86 : decode (gb 105) 86 = .ok (.invokevirtual 101, 3) := by decide +kernel
theorem k105_89 : decode (gb 105) 89 = .ok (.invokevirtual 62, 3) := by decide +kernel
theorem k105_92 : decode (gb 105) 92 = .ok (.aload_n 2, 1) := by decide +kernel
theorem k105_93 : decode (gb 105) 93 = .ok (.getfield 65, 3) := by decide +kernel
theorem k105_96 : decode (gb 105) 96 = .ok (.bipush 6, 2) := by decide +kernel
theorem k105_98 : decode (gb 105) 98 = .ok (.if_icmp .lt 48, 3) := by decide +kernel
theorem k105_101 : decode (gb 105) 101 = .ok (.aload_n 2, 1) := by decide +kernel
theorem k105_102 : decode (gb 105) 102 = .ok (.iconst 4, 1) := by decide +kernel
theorem k105_103 : decode (gb 105) 103 = .ok (.invokevirtual 97, 3) := by decide +kernel
theorem k105_106 : decode (gb 105) 106 = .ok (.bipush 7, 2) := by decide +kernel
theorem k105_108 : decode (gb 105) 108 = .ok (.iadd, 1) := by decide +kernel
theorem k105_109 : decode (gb 105) 109 = .ok (.istore 5, 2) := by decide +kernel
theorem k105_111 : decode (gb 105) 111 = .ok (.iload 5, 2) := by decide +kernel
theorem k105_113 : decode (gb 105) 113 = .ok (.sipush 200, 3) := by decide +kernel
theorem k105_116 : decode (gb 105) 116 = .ok (.if_icmp .le 8, 3) := by decide +kernel
theorem k105_119 : decode (gb 105) 119 = .ok (.aload_n 2, 1) := by decide +kernel
theorem k105_120 : decode (gb 105) 120 = .ok (.invokevirtual 87, 3) := by decide +kernel
theorem k105_123 : decode (gb 105) 123 = .ok (.return_, 1) := by decide +kernel
theorem k105_124 : decode (gb 105) 124 = .ok (.aload_n 2, 1) := by decide +kernel
theorem k105_125 : decode (gb 105) 125 = .ok (.getfield 65, 3) := by decide +kernel
theorem k105_128 : decode (gb 105) 128 = .ok (.iload 5, 2) := by decide +kernel
theorem k105_130 : decode (gb 105) 130 = .ok (.if_icmp .ne 16, 3) := by decide +kernel
theorem k105_133 : decode (gb 105) 133 = .ok (.aload_n 0, 1) := by decide +kernel
theorem k105_134 : decode (gb 105) 134 = .ok (.getfield 30, 3) := by decide +kernel
theorem k105_137 : decode (gb 105) 137 = .ok (.aload_n 2, 1) := by decide +kernel
theorem k105_138 : decode (gb 105) 138 = .ok (.iload_n 1, 1) := by decide +kernel
theorem k105_139 : decode (gb 105) 139 = .ok (.invokevirtual 124, 3) := by decide +kernel
theorem k105_142 : decode (gb 105) 142 = .ok (.aload_n 2, 1) := by decide +kernel
theorem k105_143 : decode (gb 105) 143 = .ok (.invokevirtual 87, 3) := by decide +kernel
theorem k105_146 : decode (gb 105) 146 = .ok (.iinc 4 1, 3) := by decide +kernel
theorem k105_149 : decode (gb 105) 149 = .ok (.goto (-80), 3) := by decide +kernel
theorem k105_152 : decode (gb 105) 152 = .ok (.return_, 1) := by decide +kernel
def c105_146 (kl69 : Int32 → Nat → Int32 → Mem → Option (Mem)) (v1 : Int32) (q2 : Nat) (v4 : Int32) (μ : Mem) : Option (Mem) :=
  nm (v4 + (1 : Int32)) fun x1 =>
  kl69 v1 q2 x1 μ
theorem c105_146_ok {L : Nat} (kl69 : Int32 → Nat → Int32 → Mem → Option (Mem)) (hk69 : (∀ (v1 : Int32) (q2 : Nat) (v4 : Int32) (hq2 : SK0 q2 = (0, 1)) (μ : Mem) (res : Mem), kl69 v1 q2 v4 μ = some res → Sx 105 69 [(0, .ref 49), (1, .int v1), (2, .ref q2), (4, .int v4)] [] 0 0 (mk L μ) (mk L res, none))) (v1 : Int32) (q2 : Nat) (v4 : Int32) (hq2 : SK0 q2 = (0, 1)) (μ : Mem) (res : Mem) (h : c105_146 kl69 v1 q2 v4 μ = some res) : Sx 105 146 [(0, .ref 49), (1, .int v1), (2, .ref q2), (4, .int v4)] [] 0 0 (mk L μ) (mk L res, none) := by
  unfold c105_146 at h
  refine cx_iinc (c := 1) (lo2 := fun x1 => [(4, .int x1), (0, .ref 49), (1, .int v1), (2, .ref q2)]) k105_146 rfl (by decide) (by rw [mx_105]; decide) (fun _ => rfl) h (fun x1 h => ?_)
  refine sx_goto (tgt := 69) k105_149 (by decide) ?_
  refine sx_pick (lo2 := [(0, .ref 49), (1, .int v1), (2, .ref q2), (4, .int x1)]) [1, 2, 3, 0] rfl ?_
  exact hk69 v1 q2 x1 hq2 _ _ h
def b105_69 (kl69 : Int32 → Nat → Int32 → Mem → Option (Mem)) (v1 : Int32) (q2 : Nat) (v4 : Int32) (μ : Mem) : Option (Mem) :=
  if (52 : Int32) ≤ v4 then
    some μ
  else
    (f75 50 ((6 : Int32) + v4) μ).bind fun r2 =>
    (f65 q2 r2.2 r2.1).bind fun r4 =>
    if (r4.1 q2 1) < (6 : Int32) then
      c105_146 kl69 v1 q2 v4 r4
    else
      (f76 q2 (4 : Int32) r4).bind fun r7 =>
      nm (r7.2 + (7 : Int32)) fun x9 =>
      if x9 ≤ (200 : Int32) then
        if (r7.1.1 q2 1) = x9 then
          (f88 q2 v1 r7.1).bind fun r12 =>
          (f64 q2 r12).bind fun r14 =>
          c105_146 kl69 v1 q2 v4 r14
        else
          c105_146 kl69 v1 q2 v4 r7.1
      else
        (f64 q2 r7.1).bind fun r16 =>
        some r16
theorem b105_69_ok {L : Nat} (kl69 : Int32 → Nat → Int32 → Mem → Option (Mem)) (hk69 : (∀ (v1 : Int32) (q2 : Nat) (v4 : Int32) (hq2 : SK0 q2 = (0, 1)) (μ : Mem) (res : Mem), kl69 v1 q2 v4 μ = some res → Sx 105 69 [(0, .ref 49), (1, .int v1), (2, .ref q2), (4, .int v4)] [] 0 0 (mk L μ) (mk L res, none))) (v1 : Int32) (q2 : Nat) (v4 : Int32) (hq2 : SK0 q2 = (0, 1)) (μ : Mem) (res : Mem) (h : b105_69 kl69 v1 q2 v4 μ = some res) : Sx 105 69 [(0, .ref 49), (1, .int v1), (2, .ref q2), (4, .int v4)] [] 0 0 (mk L μ) (mk L res, none) := by
  unfold b105_69 at h
  refine sx_iload k105_69 rfl ?_
  refine sx_bipush (v := 52) k105_71 (by decide) ?_
  by_cases hb1 : (52 : Int32) ≤ v4
  · rw [if_pos hb1] at h
    refine sx_icmp_ge (tgt := 152) k105_73 (by decide) (fun _ => ?_) (fun q => absurd hb1 q)
    exact cx_retv k105_152 rt_105 h
  · rw [if_neg hb1] at h
    refine sx_icmp_ge (tgt := 152) k105_73 (by decide) (fun q => absurd q hb1) (fun _ => ?_)
    refine sx_aload_n (i := 2) k105_76 rfl rfl ?_
    refine sx_aload_n (i := 0) k105_77 rfl rfl ?_
    refine cx_getR (k := 2) k105_78 ow_105 fl_4_14 (by decide) sk_49 ft_3_2 sr_49_2 ?_
    refine sx_bipush (v := 6) k105_81 (by decide) ?_
    refine sx_iload k105_83 rfl ?_
    refine sx_iadd k105_85 ?_
    obtain ⟨r2, e3, h⟩ := Option.bind_eq_some_iff.mp h
    refine cx_V (sk := [.ref q2]) (vs := [.int ((6 : Int32) + v4)]) st_105_75 k105_86 ow_105 cl_4_101 (by decide) rfl (Nat.le_of_ble_eq_true rfl) sk_50 (ok75 50 ((6 : Int32) + v4) sk_50 _ _ e3) (sk3 := [.int r2.2, .ref q2]) rfl rfl ?_
    obtain ⟨r4, e5, h⟩ := Option.bind_eq_some_iff.mp h
    refine cx_V (sk := []) (vs := [.int r2.2]) st_105_65 k105_89 ow_105 cl_4_62 (by decide) rfl (Nat.le_of_ble_eq_true rfl) hq2 (ok65 q2 r2.2 hq2 _ _ e5) (sk3 := []) rfl rfl ?_
    refine sx_aload_n (i := 2) k105_92 rfl rfl ?_
    refine cx_getI (k := 1) k105_93 ow_105 fl_4_65 (by decide) hq2 ft_1_1 ?_
    refine sx_bipush (v := 6) k105_96 (by decide) ?_
    by_cases hb6 : (r4.1 q2 1) < (6 : Int32)
    · rw [if_pos hb6] at h
      refine sx_icmp_lt (tgt := 146) k105_98 (by decide) (fun _ => ?_) (fun q => absurd hb6 q)
      refine sx_pick (lo2 := [(0, .ref 49), (1, .int v1), (2, .ref q2), (4, .int v4)]) [0, 1, 2, 3] rfl ?_
      exact c105_146_ok kl69 hk69 v1 q2 v4 hq2 _ _ h
    · rw [if_neg hb6] at h
      refine sx_icmp_lt (tgt := 146) k105_98 (by decide) (fun q => absurd q hb6) (fun _ => ?_)
      refine sx_aload_n (i := 2) k105_101 rfl rfl ?_
      refine sx_iconst (v := 4) k105_102 (by decide) ?_
      obtain ⟨r7, e8, h⟩ := Option.bind_eq_some_iff.mp h
      refine cx_V (sk := []) (vs := [.int (4 : Int32)]) st_105_76 k105_103 ow_105 cl_4_97 (by decide) rfl (Nat.le_of_ble_eq_true rfl) hq2 (ok76 q2 (4 : Int32) hq2 _ _ e8) (sk3 := [.int r7.2]) rfl rfl ?_
      refine sx_bipush (v := 7) k105_106 (by decide) ?_
      refine sx_iadd k105_108 ?_
      refine cx_nm h (fun x9 h => ?_)
      refine cx_istore (lo2 := [(5, .int x9), (0, .ref 49), (1, .int v1), (2, .ref q2), (4, .int v4)]) k105_109 (by rw [mx_105]; decide) rfl ?_
      refine sx_iload k105_111 rfl ?_
      refine sx_sipush (v := 200) k105_113 (by decide) ?_
      by_cases hb10 : x9 ≤ (200 : Int32)
      · rw [if_pos hb10] at h
        refine sx_icmp_le (tgt := 124) k105_116 (by decide) (fun _ => ?_) (fun q => absurd hb10 q)
        refine sx_aload_n (i := 2) k105_124 rfl rfl ?_
        refine cx_getI (k := 1) k105_125 ow_105 fl_4_65 (by decide) hq2 ft_1_1 ?_
        refine sx_iload k105_128 rfl ?_
        by_cases hb11 : (r7.1.1 q2 1) = x9
        · rw [if_pos hb11] at h
          refine sx_icmp_ne (tgt := 146) k105_130 (by decide) (fun q => absurd hb11 q) (fun _ => ?_)
          refine sx_aload_n (i := 0) k105_133 rfl rfl ?_
          refine cx_getR (k := 0) k105_134 ow_105 fl_4_30 (by decide) sk_49 ft_3_0 sr_49_0 ?_
          refine sx_aload_n (i := 2) k105_137 rfl rfl ?_
          refine sx_iload_n (i := 1) k105_138 rfl rfl ?_
          obtain ⟨r12, e13, h⟩ := Option.bind_eq_some_iff.mp h
          refine cx_V (sk := []) (vs := [.ref q2, .int v1]) st_105_88 k105_139 ow_105 cl_4_124 (by decide) rfl (Nat.le_of_ble_eq_true rfl) sk_12 (ok88 q2 v1 hq2 _ _ e13) (sk3 := []) rfl rfl ?_
          refine sx_aload_n (i := 2) k105_142 rfl rfl ?_
          obtain ⟨r14, e15, h⟩ := Option.bind_eq_some_iff.mp h
          refine cx_V (sk := []) (vs := []) st_105_64 k105_143 ow_105 cl_4_87 (by decide) rfl (Nat.le_of_ble_eq_true rfl) hq2 (ok64 q2 hq2 _ _ e15) (sk3 := []) rfl rfl ?_
          refine sx_pick (lo2 := [(0, .ref 49), (1, .int v1), (2, .ref q2), (4, .int v4)]) [1, 2, 3, 4] rfl ?_
          exact c105_146_ok kl69 hk69 v1 q2 v4 hq2 _ _ h
        · rw [if_neg hb11] at h
          refine sx_icmp_ne (tgt := 146) k105_130 (by decide) (fun _ => ?_) (fun q => absurd q hb11)
          refine sx_pick (lo2 := [(0, .ref 49), (1, .int v1), (2, .ref q2), (4, .int v4)]) [1, 2, 3, 4] rfl ?_
          exact c105_146_ok kl69 hk69 v1 q2 v4 hq2 _ _ h
      · rw [if_neg hb10] at h
        refine sx_icmp_le (tgt := 124) k105_116 (by decide) (fun q => absurd q hb10) (fun _ => ?_)
        refine sx_aload_n (i := 2) k105_119 rfl rfl ?_
        obtain ⟨r16, e17, h⟩ := Option.bind_eq_some_iff.mp h
        refine cx_V (sk := []) (vs := []) st_105_64 k105_120 ow_105 cl_4_87 (by decide) rfl (Nat.le_of_ble_eq_true rfl) hq2 (ok64 q2 hq2 _ _ e17) (sk3 := []) rfl rfl ?_
        exact cx_retv k105_123 rt_105 h
def l105_69 : Nat → Int32 × Nat × Int32 × Mem → Option (Mem) :=
  fixN (fun self x => b105_69 (fun v1 q2 v4 μ => self (v1, q2, v4, μ)) (x.1) (x.2.1) (x.2.2.1) (x.2.2.2))
theorem l105_69_ok {L : Nat} (n : Nat) (v1 : Int32) (q2 : Nat) (v4 : Int32) (hq2 : SK0 q2 = (0, 1)) (μ : Mem) (res : Mem) (h : l105_69 n (v1, q2, v4, μ) = some res) : Sx 105 69 [(0, .ref 49), (1, .int v1), (2, .ref q2), (4, .int v4)] [] 0 0 (mk L μ) (mk L res, none) := by
  have key := fixN_ind (P := fun x res => SK0 (x.2.1) = (0, 1) → Sx 105 69 [(0, .ref 49), (1, .int (x.1)), (2, .ref (x.2.1)), (4, .int (x.2.2.1))] [] 0 0 (mk L (x.2.2.2)) (mk L res, none)) (F := fun self x => b105_69 (fun v1 q2 v4 μ => self (v1, q2, v4, μ)) (x.1) (x.2.1) (x.2.2.1) (x.2.2.2)) (fun self hself x res h hq2 => b105_69_ok (fun v1 q2 v4 μ => self (v1, q2, v4, μ)) (fun v1 q2 v4 hq2 μ res hh => hself (v1, q2, v4, μ) res hh hq2) (x.1) (x.2.1) (x.2.2.1) hq2 (x.2.2.2) res h) n (v1, q2, v4, μ) res h hq2
  exact key
def c105_65 (v1 : Int32) (q2 : Nat) (s0 : Int32) (μ : Mem) : Option (Mem) :=
  l105_69 gF (v1, q2, s0, μ)
theorem c105_65_ok {L : Nat} (v1 : Int32) (q2 : Nat) (s0 : Int32) (hq2 : SK0 q2 = (0, 1)) (μ : Mem) (res : Mem) (h : c105_65 v1 q2 s0 μ = some res) : Sx 105 65 [(0, .ref 49), (1, .int v1), (2, .ref q2)] [.int s0] 0 0 (mk L μ) (mk L res, none) := by
  unfold c105_65 at h
  refine cx_istore_n (lo2 := [(3, .int s0), (0, .ref 49), (1, .int v1), (2, .ref q2)]) k105_65 rfl (by rw [mx_105]; decide) rfl ?_
  refine sx_iload_n (i := 3) k105_66 rfl rfl ?_
  refine cx_istore (lo2 := [(4, .int s0), (3, .int s0), (0, .ref 49), (1, .int v1), (2, .ref q2)]) k105_67 (by rw [mx_105]; decide) rfl ?_
  refine sx_pick (lo2 := [(0, .ref 49), (1, .int v1), (2, .ref q2), (4, .int s0)]) [2, 3, 4, 0] rfl ?_
  exact l105_69_ok gF v1 q2 s0 hq2 _ _ h
def c105_35 (v1 : Int32) (t0 : Nat) (μ : Mem) : Option (Mem) :=
  (f106 v1 t0 μ).bind fun r1 =>
  if (r1.1 t0 1) ≤ 0 then
    (f76 50 (4 : Int32) r1).bind fun r4 =>
    c105_65 v1 t0 (r4.2 &&& (2047 : Int32)) r4.1
  else
    c105_65 v1 t0 (0 : Int32) r1
theorem c105_35_ok {L : Nat} (v1 : Int32) (t0 : Nat) (ht0 : SK0 t0 = (0, 1)) (μ : Mem) (res : Mem) (h : c105_35 v1 t0 μ = some res) : Sx 105 35 [(0, .ref 49), (1, .int v1)] [.ref t0] 0 0 (mk L μ) (mk L res, none) := by
  unfold c105_35 at h
  refine cx_astore_n (lo2 := [(2, .ref t0), (0, .ref 49), (1, .int v1)]) k105_35 rfl (by rw [mx_105]; decide) rfl ?_
  refine sx_aload_n (i := 0) k105_36 rfl rfl ?_
  refine sx_iload_n (i := 1) k105_37 rfl rfl ?_
  refine sx_aload_n (i := 2) k105_38 rfl rfl ?_
  obtain ⟨r1, e2, h⟩ := Option.bind_eq_some_iff.mp h
  refine cx_V (sk := []) (vs := [.int v1, .ref t0]) st_105_106 k105_39 ow_105 cl_4_120 (by decide) rfl (Nat.le_of_ble_eq_true rfl) sk_49 (ok106 v1 t0 ht0 _ _ e2) (sk3 := []) rfl rfl ?_
  refine sx_aload_n (i := 2) k105_42 rfl rfl ?_
  refine cx_getI (k := 1) k105_43 ow_105 fl_4_65 (by decide) ht0 ft_1_1 ?_
  by_cases hb3 : (r1.1 t0 1) ≤ 0
  · rw [if_pos hb3] at h
    refine sx_if_le (tgt := 53) k105_46 (by decide) (fun _ => ?_) (fun q => absurd hb3 q)
    refine sx_aload_n (i := 0) k105_53 rfl rfl ?_
    refine cx_getR (k := 2) k105_54 ow_105 fl_4_14 (by decide) sk_49 ft_3_2 sr_49_2 ?_
    refine sx_iconst (v := 4) k105_57 (by decide) ?_
    obtain ⟨r4, e5, h⟩ := Option.bind_eq_some_iff.mp h
    refine cx_V (sk := []) (vs := [.int (4 : Int32)]) st_105_76 k105_58 ow_105 cl_4_97 (by decide) rfl (Nat.le_of_ble_eq_true rfl) sk_50 (ok76 50 (4 : Int32) sk_50 _ _ e5) (sk3 := [.int r4.2]) rfl rfl ?_
    refine sx_sipush (v := 2047) k105_61 (by decide) ?_
    refine sx_iand k105_64 ?_
    refine sx_pick (lo2 := [(0, .ref 49), (1, .int v1), (2, .ref t0)]) [1, 2, 0] rfl ?_
    exact c105_65_ok v1 t0 (r4.2 &&& (2047 : Int32)) ht0 _ _ h
  · rw [if_neg hb3] at h
    refine sx_if_le (tgt := 53) k105_46 (by decide) (fun q => absurd q hb3) (fun _ => ?_)
    refine sx_iconst (v := 0) k105_49 (by decide) ?_
    refine sx_goto (tgt := 65) k105_50 (by decide) ?_
    refine sx_pick (lo2 := [(0, .ref 49), (1, .int v1), (2, .ref t0)]) [1, 2, 0] rfl ?_
    exact c105_65_ok v1 t0 (0 : Int32) ht0 _ _ h
/-- GroundEar.joinPackets()V -/
def f105 (μ : Mem) : Option (Mem) :=
  (f75 50 (1 : Int32) μ).bind fun r1 =>
  nm ((jshr r1.2 (1 : Int32)) &&& (7 : Int32)) fun x3 =>
  if x3 ≤ (1 : Int32) then
    if x3 = 0 then
      c105_35 x3 52 r1.1
    else
      c105_35 x3 54 r1.1
  else
    some r1.1
theorem ok105 {L : Nat} (μ : Mem) (res : Mem) (h : f105 μ = some res) : Mx 105 [.ref 49] (mk L μ) (mk L res, none) := by
  refine Mx_of ml_105 (by rw [mx_105]; exact Nat.le_of_ble_eq_true rfl) ?_
  show Sx 105 0 [(0, .ref 49)] [] 0 0 (mk L μ) _
  unfold f105 at h
  refine sx_aload_n (i := 0) k105_0 rfl rfl ?_
  refine cx_getR (k := 2) k105_1 ow_105 fl_4_14 (by decide) sk_49 ft_3_2 sr_49_2 ?_
  refine sx_iconst (v := 1) k105_4 (by decide) ?_
  obtain ⟨r1, e2, h⟩ := Option.bind_eq_some_iff.mp h
  refine cx_V (sk := []) (vs := [.int (1 : Int32)]) st_105_75 k105_5 ow_105 cl_4_101 (by decide) rfl (Nat.le_of_ble_eq_true rfl) sk_50 (ok75 50 (1 : Int32) sk_50 _ _ e2) (sk3 := [.int r1.2]) rfl rfl ?_
  refine sx_iconst (v := 1) k105_8 (by decide) ?_
  refine sx_ishr k105_9 ?_
  refine sx_bipush (v := 7) k105_10 (by decide) ?_
  refine sx_iand k105_12 ?_
  refine cx_nm h (fun x3 h => ?_)
  refine cx_istore_n (lo2 := [(1, .int x3), (0, .ref 49)]) k105_13 rfl (by rw [mx_105]; decide) rfl ?_
  refine sx_iload_n (i := 1) k105_14 rfl rfl ?_
  refine sx_iconst (v := 1) k105_15 (by decide) ?_
  by_cases hb4 : x3 ≤ (1 : Int32)
  · rw [if_pos hb4] at h
    refine sx_icmp_le (tgt := 20) k105_16 (by decide) (fun _ => ?_) (fun q => absurd hb4 q)
    refine sx_iload_n (i := 1) k105_20 rfl rfl ?_
    by_cases hb5 : x3 = 0
    · rw [if_pos hb5] at h
      refine sx_if_ne (tgt := 31) k105_21 (by decide) (fun q => absurd hb5 q) (fun _ => ?_)
      refine sx_aload_n (i := 0) k105_24 rfl rfl ?_
      refine cx_getR (k := 3) k105_25 ow_105 fl_4_20 (by decide) sk_49 ft_3_3 sr_49_3 ?_
      refine sx_goto (tgt := 35) k105_28 (by decide) ?_
      refine sx_pick (lo2 := [(0, .ref 49), (1, .int x3)]) [1, 0] rfl ?_
      exact c105_35_ok x3 52 sk_52 _ _ h
    · rw [if_neg hb5] at h
      refine sx_if_ne (tgt := 31) k105_21 (by decide) (fun _ => ?_) (fun q => absurd q hb5)
      refine sx_aload_n (i := 0) k105_31 rfl rfl ?_
      refine cx_getR (k := 4) k105_32 ow_105 fl_4_23 (by decide) sk_49 ft_3_4 sr_49_4 ?_
      refine sx_pick (lo2 := [(0, .ref 49), (1, .int x3)]) [1, 0] rfl ?_
      exact c105_35_ok x3 54 sk_54 _ _ h
  · rw [if_neg hb4] at h
    refine sx_icmp_le (tgt := 20) k105_16 (by decide) (fun q => absurd q hb4) (fun _ => ?_)
    exact cx_retv k105_19 rt_105 h
