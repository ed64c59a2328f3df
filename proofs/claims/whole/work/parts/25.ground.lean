theorem k80_0 : decode (gb 80) 0 = .ok (.iload_n 1, 1) := by decide +kernel
theorem k80_1 : decode (gb 80) 1 = .ok (.ifCond .lt 26, 3) := by decide +kernel
theorem k80_4 : decode (gb 80) 4 = .ok (.iload_n 1, 1) := by decide +kernel
theorem k80_5 : decode (gb 80) 5 = .ok (.aload_n 0, 1) := by decide +kernel
theorem k80_6 : decode (gb 80) 6 = .ok (.getfield 52, 3) := by decide +kernel
theorem k80_9 : decode (gb 80) 9 = .ok (.if_icmp .ge 18, 3) := by decide +kernel
theorem k80_12 : decode (gb 80) 12 = .ok (.iload_n 1, 1) := by decide +kernel
theorem k80_13 : decode (gb 80) 13 = .ok (.aload_n 0, 1) := by decide +kernel
theorem k80_14 : decode (gb 80) 14 = .ok (.getfield 52, 3) := by decide +kernel
theorem k80_17 : decode (gb 80) 17 = .ok (.bipush 64, 2) := by decide +kernel
theorem k80_19 : decode (gb 80) 19 = .ok (.isub, 1) := by decide +kernel
theorem k80_20 : decode (gb 80) 20 = .ok (.if_icmp .lt 7, 3) := by decide +kernel
theorem k80_23 : decode (gb 80) 23 = .ok (.iconst 1, 1) := by decide +kernel
theorem k80_24 : decode (gb 80) 24 = .ok (.goto 4, 3) := by decide +kernel
theorem k80_27 : decode (gb 80) 27 = .ok (.iconst 0, 1) := by decide +kernel
theorem k80_28 : decode (gb 80) 28 = .ok (.ireturn, 1) := by decide +kernel
/-- Ground.hasRequest(I)Z -/
def f80 (p1 : Int32) (μ : Mem) : Option (Mem × Int32) :=
  if p1 < 0 then
    rtZ (0 : Int32) μ
  else
    if (μ.1 12 8) ≤ p1 then
      rtZ (0 : Int32) μ
    else
      if p1 < ((μ.1 12 8) - (64 : Int32)) then
        rtZ (0 : Int32) μ
      else
        rtZ (1 : Int32) μ
theorem ok80 {L : Nat} (p1 : Int32) (μ : Mem) (res : Mem × Int32) (h : f80 p1 μ = some res) : Mx 80 [.ref 12, .int p1] (mk L μ) (mk L res.1, some (.int res.2)) := by
  refine Mx_of ml_80 (by rw [mx_80]; exact Nat.le_of_ble_eq_true rfl) ?_
  show Sx 80 0 [(0, .ref 12), (1, .int p1)] [] 0 0 (mk L μ) _
  unfold f80 at h
  refine sx_iload_n (i := 1) k80_0 rfl rfl ?_
  by_cases hb1 : p1 < 0
  · rw [if_pos hb1] at h
    refine sx_if_lt (tgt := 27) k80_1 (by decide) (fun _ => ?_) (fun q => absurd hb1 q)
    refine sx_iconst (v := 0) k80_27 (by decide) ?_
    exact cx_retz k80_28 rt_80 h
  · rw [if_neg hb1] at h
    refine sx_if_lt (tgt := 27) k80_1 (by decide) (fun q => absurd q hb1) (fun _ => ?_)
    refine sx_iload_n (i := 1) k80_4 rfl rfl ?_
    refine sx_aload_n (i := 0) k80_5 rfl rfl ?_
    refine cx_getI (k := 8) k80_6 ow_80 fl_3_52 (by decide) sk_12 ft_2_8 ?_
    by_cases hb2 : (μ.1 12 8) ≤ p1
    · rw [if_pos hb2] at h
      refine sx_icmp_ge (tgt := 27) k80_9 (by decide) (fun _ => ?_) (fun q => absurd hb2 q)
      refine sx_iconst (v := 0) k80_27 (by decide) ?_
      exact cx_retz k80_28 rt_80 h
    · rw [if_neg hb2] at h
      refine sx_icmp_ge (tgt := 27) k80_9 (by decide) (fun q => absurd q hb2) (fun _ => ?_)
      refine sx_iload_n (i := 1) k80_12 rfl rfl ?_
      refine sx_aload_n (i := 0) k80_13 rfl rfl ?_
      refine cx_getI (k := 8) k80_14 ow_80 fl_3_52 (by decide) sk_12 ft_2_8 ?_
      refine sx_bipush (v := 64) k80_17 (by decide) ?_
      refine sx_isub k80_19 ?_
      by_cases hb3 : p1 < ((μ.1 12 8) - (64 : Int32))
      · rw [if_pos hb3] at h
        refine sx_icmp_lt (tgt := 27) k80_20 (by decide) (fun _ => ?_) (fun q => absurd hb3 q)
        refine sx_iconst (v := 0) k80_27 (by decide) ?_
        exact cx_retz k80_28 rt_80 h
      · rw [if_neg hb3] at h
        refine sx_icmp_lt (tgt := 27) k80_20 (by decide) (fun q => absurd q hb3) (fun _ => ?_)
        refine sx_iconst (v := 1) k80_23 (by decide) ?_
        refine sx_goto (tgt := 28) k80_24 (by decide) ?_
        exact cx_retz k80_28 rt_80 h
theorem k81_0 : decode (gb 81) 0 = .ok (.aload_n 0, 1) := by decide +kernel
theorem k81_1 : decode (gb 81) 1 = .ok (.getfield 39, 3) := by decide +kernel
theorem k81_4 : decode (gb 81) 4 = .ok (.iload_n 1, 1) := by decide +kernel
theorem k81_5 : decode (gb 81) 5 = .ok (.bipush 63, 2) := by decide +kernel
theorem k81_7 : decode (gb 81) 7 = .ok (.iand, 1) := by decide +kernel
theorem k81_8 : decode (gb 81) 8 = .ok (.iaload, 1) := by decide +kernel
theorem k81_9 : decode (gb 81) 9 = .ok (.ireturn, 1) := by decide +kernel
/-- Ground.statusOf(I)I -/
def f81 (p1 : Int32) (μ : Mem) : Option (Mem × Int32) :=
  (ldA 24 (p1 &&& (63 : Int32)) μ).bind fun x1 =>
  some (μ, x1)
theorem ok81 {L : Nat} (p1 : Int32) (μ : Mem) (res : Mem × Int32) (h : f81 p1 μ = some res) : Mx 81 [.ref 12, .int p1] (mk L μ) (mk L res.1, some (.int res.2)) := by
  refine Mx_of ml_81 (by rw [mx_81]; exact Nat.le_of_ble_eq_true rfl) ?_
  show Sx 81 0 [(0, .ref 12), (1, .int p1)] [] 0 0 (mk L μ) _
  unfold f81 at h
  refine sx_aload_n (i := 0) k81_0 rfl rfl ?_
  refine cx_getR (k := 5) k81_1 ow_81 fl_3_39 (by decide) sk_12 ft_2_5 sr_12_5 ?_
  refine sx_iload_n (i := 1) k81_4 rfl rfl ?_
  refine sx_bipush (v := 63) k81_5 (by decide) ?_
  refine sx_iand k81_7 ?_
  obtain ⟨x1, e2, h⟩ := Option.bind_eq_some_iff.mp h
  refine cx_iald k81_8 sk_24 e2 ?_
  exact cx_reti k81_9 rt_81 h
theorem k82_0 : decode (gb 82) 0 = .ok (.aload_n 0, 1) := by decide +kernel
theorem k82_1 : decode (gb 82) 1 = .ok (.getfield 42, 3) := by decide +kernel
theorem k82_4 : decode (gb 82) 4 = .ok (.iload_n 1, 1) := by decide +kernel
theorem k82_5 : decode (gb 82) 5 = .ok (.bipush 63, 2) := by decide +kernel
theorem k82_7 : decode (gb 82) 7 = .ok (.iand, 1) := by decide +kernel
theorem k82_8 : decode (gb 82) 8 = .ok (.iaload, 1) := by decide +kernel
theorem k82_9 : decode (gb 82) 9 = .ok (.ireturn, 1) := by decide +kernel
/-- Ground.reasonOf(I)I -/
def f82 (p1 : Int32) (μ : Mem) : Option (Mem × Int32) :=
  (ldA 25 (p1 &&& (63 : Int32)) μ).bind fun x1 =>
  some (μ, x1)
theorem ok82 {L : Nat} (p1 : Int32) (μ : Mem) (res : Mem × Int32) (h : f82 p1 μ = some res) : Mx 82 [.ref 12, .int p1] (mk L μ) (mk L res.1, some (.int res.2)) := by
  refine Mx_of ml_82 (by rw [mx_82]; exact Nat.le_of_ble_eq_true rfl) ?_
  show Sx 82 0 [(0, .ref 12), (1, .int p1)] [] 0 0 (mk L μ) _
  unfold f82 at h
  refine sx_aload_n (i := 0) k82_0 rfl rfl ?_
  refine cx_getR (k := 6) k82_1 ow_82 fl_3_42 (by decide) sk_12 ft_2_6 sr_12_6 ?_
  refine sx_iload_n (i := 1) k82_4 rfl rfl ?_
  refine sx_bipush (v := 63) k82_5 (by decide) ?_
  refine sx_iand k82_7 ?_
  obtain ⟨x1, e2, h⟩ := Option.bind_eq_some_iff.mp h
  refine cx_iald k82_8 sk_25 e2 ?_
  exact cx_reti k82_9 rt_82 h
theorem k83_0 : decode (gb 83) 0 = .ok (.aload_n 0, 1) := by decide +kernel
theorem k83_1 : decode (gb 83) 1 = .ok (.getfield 45, 3) := by decide +kernel
theorem k83_4 : decode (gb 83) 4 = .ok (.iload_n 1, 1) := by decide +kernel
theorem k83_5 : decode (gb 83) 5 = .ok (.bipush 63, 2) := by decide +kernel
theorem k83_7 : decode (gb 83) 7 = .ok (.iand, 1) := by decide +kernel
theorem k83_8 : decode (gb 83) 8 = .ok (.iaload, 1) := by decide +kernel
theorem k83_9 : decode (gb 83) 9 = .ok (.ireturn, 1) := by decide +kernel
/-- Ground.kindOf(I)I -/
def f83 (p1 : Int32) (μ : Mem) : Option (Mem × Int32) :=
  (ldA 26 (p1 &&& (63 : Int32)) μ).bind fun x1 =>
  some (μ, x1)
theorem ok83 {L : Nat} (p1 : Int32) (μ : Mem) (res : Mem × Int32) (h : f83 p1 μ = some res) : Mx 83 [.ref 12, .int p1] (mk L μ) (mk L res.1, some (.int res.2)) := by
  refine Mx_of ml_83 (by rw [mx_83]; exact Nat.le_of_ble_eq_true rfl) ?_
  show Sx 83 0 [(0, .ref 12), (1, .int p1)] [] 0 0 (mk L μ) _
  unfold f83 at h
  refine sx_aload_n (i := 0) k83_0 rfl rfl ?_
  refine cx_getR (k := 7) k83_1 ow_83 fl_3_45 (by decide) sk_12 ft_2_7 sr_12_7 ?_
  refine sx_iload_n (i := 1) k83_4 rfl rfl ?_
  refine sx_bipush (v := 63) k83_5 (by decide) ?_
  refine sx_iand k83_7 ?_
  obtain ⟨x1, e2, h⟩ := Option.bind_eq_some_iff.mp h
  refine cx_iald k83_8 sk_26 e2 ?_
  exact cx_reti k83_9 rt_83 h
theorem k84_0 : decode (gb 84) 0 = .ok (.aload_n 0, 1) := by decide +kernel
theorem k84_1 : decode (gb 84) 1 = .ok (.iload_n 1, 1) := by decide +kernel
theorem k84_2 : decode (gb 84) 2 = .ok (.invokevirtual 55, 3) := by decide +kernel
theorem k84_5 : decode (gb 84) 5 = .ok (.ifCond .eq 13, 3) := by decide +kernel
theorem k84_8 : decode (gb 84) 8 = .ok (.aload_n 0, 1) := by decide +kernel
theorem k84_9 : decode (gb 84) 9 = .ok (.getfield 39, 3) := by decide +kernel
theorem k84_12 : decode (gb 84) 12 = .ok (.iload_n 1, 1) := by decide +kernel
theorem k84_13 : decode (gb 84) 13 = .ok (.bipush 63, 2) := by decide +kernel
theorem k84_15 : decode (gb 84) 15 = .ok (.iand, 1) := by decide +kernel
theorem k84_16 : decode (gb 84) 16 = .ok (.iload_n 2, 1) := by decide +kernel
theorem k84_17 : decode (gb 84) 17 = .ok (.iastore, 1) := by decide +kernel
theorem k84_18 : decode (gb 84) 18 = .ok (.return_, 1) := by decide +kernel
/-- Ground.setStatus(II)V -/
def f84 (p1 : Int32) (p2 : Int32) (μ : Mem) : Option (Mem) :=
  (f80 p1 μ).bind fun r1 =>
  if r1.2 = 0 then
    some r1.1
  else
    (stA 24 (p1 &&& (63 : Int32)) p2 r1.1).bind fun m4 =>
    some m4
theorem ok84 {L : Nat} (p1 : Int32) (p2 : Int32) (μ : Mem) (res : Mem) (h : f84 p1 p2 μ = some res) : Mx 84 [.ref 12, .int p1, .int p2] (mk L μ) (mk L res, none) := by
  refine Mx_of ml_84 (by rw [mx_84]; exact Nat.le_of_ble_eq_true rfl) ?_
  show Sx 84 0 [(0, .ref 12), (1, .int p1), (2, .int p2)] [] 0 0 (mk L μ) _
  unfold f84 at h
  refine sx_aload_n (i := 0) k84_0 rfl rfl ?_
  refine sx_iload_n (i := 1) k84_1 rfl rfl ?_
  obtain ⟨r1, e2, h⟩ := Option.bind_eq_some_iff.mp h
  refine cx_V (sk := []) (vs := [.int p1]) st_84_80 k84_2 ow_84 cl_3_55 (by decide) rfl (Nat.le_of_ble_eq_true rfl) sk_12 (ok80 p1 _ _ e2) (sk3 := [.int r1.2]) rfl rfl ?_
  by_cases hb3 : r1.2 = 0
  · rw [if_pos hb3] at h
    refine sx_if_eq (tgt := 18) k84_5 (by decide) (fun _ => ?_) (fun q => absurd hb3 q)
    exact cx_retv k84_18 rt_84 h
  · rw [if_neg hb3] at h
    refine sx_if_eq (tgt := 18) k84_5 (by decide) (fun q => absurd q hb3) (fun _ => ?_)
    refine sx_aload_n (i := 0) k84_8 rfl rfl ?_
    refine cx_getR (k := 5) k84_9 ow_84 fl_3_39 (by decide) sk_12 ft_2_5 sr_12_5 ?_
    refine sx_iload_n (i := 1) k84_12 rfl rfl ?_
    refine sx_bipush (v := 63) k84_13 (by decide) ?_
    refine sx_iand k84_15 ?_
    refine sx_iload_n (i := 2) k84_16 rfl rfl ?_
    obtain ⟨m4, e5, h⟩ := Option.bind_eq_some_iff.mp h
    refine cx_iast k84_17 sk_24 e5 ?_
    exact cx_retv k84_18 rt_84 h
theorem k85_0 : decode (gb 85) 0 = .ok (.aload_n 0, 1) := by decide +kernel
theorem k85_1 : decode (gb 85) 1 = .ok (.iload_n 1, 1) := by decide +kernel
theorem k85_2 : decode (gb 85) 2 = .ok (.invokevirtual 55, 3) := by decide +kernel
theorem k85_5 : decode (gb 85) 5 = .ok (.ifCond .eq 26, 3) := by decide +kernel
theorem k85_8 : decode (gb 85) 8 = .ok (.aload_n 0, 1) := by decide +kernel
theorem k85_9 : decode (gb 85) 9 = .ok (.getfield 39, 3) := by decide +kernel
theorem k85_12 : decode (gb 85) 12 = .ok (.iload_n 1, 1) := by decide +kernel
theorem k85_13 : decode (gb 85) 13 = .ok (.bipush 63, 2) := by decide +kernel
theorem k85_15 : decode (gb 85) 15 = .ok (.iand, 1) := by decide +kernel
theorem k85_16 : decode (gb 85) 16 = .ok (.iaload, 1) := by decide +kernel
theorem k85_17 : decode (gb 85) 17 = .ok (.iload_n 2, 1) := by decide +kernel
theorem k85_18 : decode (gb 85) 18 = .ok (.if_icmp .ne 13, 3) := by decide +kernel
theorem k85_21 : decode (gb 85) 21 = .ok (.aload_n 0, 1) := by decide +kernel
theorem k85_22 : decode (gb 85) 22 = .ok (.getfield 39, 3) := by decide +kernel
theorem k85_25 : decode (gb 85) 25 = .ok (.iload_n 1, 1) := by decide +kernel
theorem k85_26 : decode (gb 85) 26 = .ok (.bipush 63, 2) := by decide +kernel
theorem k85_28 : decode (gb 85) 28 = .ok (.iand, 1) := by decide +kernel
theorem k85_29 : decode (gb 85) 29 = .ok (.iload_n 3, 1) := by decide +kernel
theorem k85_30 : decode (gb 85) 30 = .ok (.iastore, 1) := by decide +kernel
theorem k85_31 : decode (gb 85) 31 = .ok (.return_, 1) := by decide +kernel
/-- Ground.changeStatus(III)V -/
def f85 (p1 : Int32) (p2 : Int32) (p3 : Int32) (μ : Mem) : Option (Mem) :=
  (f80 p1 μ).bind fun r1 =>
  if r1.2 = 0 then
    some r1.1
  else
    (ldA 24 (p1 &&& (63 : Int32)) r1.1).bind fun x4 =>
    if x4 = p2 then
      (stA 24 (p1 &&& (63 : Int32)) p3 r1.1).bind fun m7 =>
      some m7
    else
      some r1.1
theorem ok85 {L : Nat} (p1 : Int32) (p2 : Int32) (p3 : Int32) (μ : Mem) (res : Mem) (h : f85 p1 p2 p3 μ = some res) : Mx 85 [.ref 12, .int p1, .int p2, .int p3] (mk L μ) (mk L res, none) := by
  refine Mx_of ml_85 (by rw [mx_85]; exact Nat.le_of_ble_eq_true rfl) ?_
  show Sx 85 0 [(0, .ref 12), (1, .int p1), (2, .int p2), (3, .int p3)] [] 0 0 (mk L μ) _
  unfold f85 at h
  refine sx_aload_n (i := 0) k85_0 rfl rfl ?_
  refine sx_iload_n (i := 1) k85_1 rfl rfl ?_
  obtain ⟨r1, e2, h⟩ := Option.bind_eq_some_iff.mp h
  refine cx_V (sk := []) (vs := [.int p1]) st_85_80 k85_2 ow_85 cl_3_55 (by decide) rfl (Nat.le_of_ble_eq_true rfl) sk_12 (ok80 p1 _ _ e2) (sk3 := [.int r1.2]) rfl rfl ?_
  by_cases hb3 : r1.2 = 0
  · rw [if_pos hb3] at h
    refine sx_if_eq (tgt := 31) k85_5 (by decide) (fun _ => ?_) (fun q => absurd hb3 q)
    exact cx_retv k85_31 rt_85 h
  · rw [if_neg hb3] at h
    refine sx_if_eq (tgt := 31) k85_5 (by decide) (fun q => absurd q hb3) (fun _ => ?_)
    refine sx_aload_n (i := 0) k85_8 rfl rfl ?_
    refine cx_getR (k := 5) k85_9 ow_85 fl_3_39 (by decide) sk_12 ft_2_5 sr_12_5 ?_
    refine sx_iload_n (i := 1) k85_12 rfl rfl ?_
    refine sx_bipush (v := 63) k85_13 (by decide) ?_
    refine sx_iand k85_15 ?_
    obtain ⟨x4, e5, h⟩ := Option.bind_eq_some_iff.mp h
    refine cx_iald k85_16 sk_24 e5 ?_
    refine sx_iload_n (i := 2) k85_17 rfl rfl ?_
    by_cases hb6 : x4 = p2
    · rw [if_pos hb6] at h
      refine sx_icmp_ne (tgt := 31) k85_18 (by decide) (fun q => absurd hb6 q) (fun _ => ?_)
      refine sx_aload_n (i := 0) k85_21 rfl rfl ?_
      refine cx_getR (k := 5) k85_22 ow_85 fl_3_39 (by decide) sk_12 ft_2_5 sr_12_5 ?_
      refine sx_iload_n (i := 1) k85_25 rfl rfl ?_
      refine sx_bipush (v := 63) k85_26 (by decide) ?_
      refine sx_iand k85_28 ?_
      refine sx_iload_n (i := 3) k85_29 rfl rfl ?_
      obtain ⟨m7, e8, h⟩ := Option.bind_eq_some_iff.mp h
      refine cx_iast k85_30 sk_24 e8 ?_
      exact cx_retv k85_31 rt_85 h
    · rw [if_neg hb6] at h
      refine sx_icmp_ne (tgt := 31) k85_18 (by decide) (fun _ => ?_) (fun q => absurd q hb6)
      exact cx_retv k85_31 rt_85 h
theorem k86_0 : decode (gb 86) 0 = .ok (.aload_n 0, 1) := by decide +kernel
theorem k86_1 : decode (gb 86) 1 = .ok (.getfield 52, 3) := by decide +kernel
theorem k86_4 : decode (gb 86) 4 = .ok (.istore 6, 2) := by decide +kernel
theorem k86_6 : decode (gb 86) 6 = .ok (.aload_n 0, 1) := by decide +kernel
theorem k86_7 : decode (gb 86) 7 = .ok (.dup, 1) := by decide +kernel
theorem k86_8 : decode (gb 86) 8 = .ok (.getfield 52, 3) := by decide +kernel
theorem k86_11 : decode (gb 86) 11 = .ok (.iconst 1, 1) := by decide +kernel
theorem k86_12 : decode (gb 86) 12 = .ok (.iadd, 1) := by decide +kernel
theorem k86_13 : decode (gb 86) 13 = .ok (.putfield 52, 3) := by decide +kernel
theorem k86_16 : decode (gb 86) 16 = .ok (.iload 6, 2) := by decide +kernel
theorem k86_18 : decode (gb 86) 18 = .ok (.bipush 63, 2) := by decide +kernel
theorem k86_20 : decode (gb 86) 20 = .ok (.iand, 1) := by decide +kernel
theorem k86_21 : decode (gb 86) 21 = .ok (.istore 7, 2) := by decide +kernel
theorem k86_23 : decode (gb 86) 23 = .ok (.aload_n 0, 1) := by decide +kernel
theorem k86_24 : decode (gb 86) 24 = .ok (.getfield 39, 3) := by decide +kernel
theorem k86_27 : decode (gb 86) 27 = .ok (.iload 7, 2) := by decide +kernel
theorem k86_29 : decode (gb 86) 29 = .ok (.iload 5, 2) := by decide +kernel
theorem k86_31 : decode (gb 86) 31 = .ok (.iastore, 1) := by decide +kernel
theorem k86_32 : decode (gb 86) 32 = .ok (.aload_n 0, 1) := by decide +kernel
theorem k86_33 : decode (gb 86) 33 = .ok (.getfield 42, 3) := by decide +kernel
theorem k86_36 : decode (gb 86) 36 = .ok (.iload 7, 2) := by decide +kernel
theorem k86_38 : decode (gb 86) 38 = .ok (.iconst 0, 1) := by decide +kernel
theorem k86_39 : decode (gb 86) 39 = .ok (.iastore, 1) := by decide +kernel
theorem k86_40 : decode (gb 86) 40 = .ok (.aload_n 0, 1) := by decide +kernel
theorem k86_41 : decode (gb 86) 41 = .ok (.getfield 45, 3) := by decide +kernel
theorem k86_44 : decode (gb 86) 44 = .ok (.iload 7, 2) := by decide +kernel
theorem k86_46 : decode (gb 86) 46 = .ok (.iload_n 1, 1) := by decide +kernel
theorem k86_47 : decode (gb 86) 47 = .ok (.bipush 8, 2) := by decide +kernel
theorem k86_49 : decode (gb 86) 49 = .ok (.ishl, 1) := by decide +kernel
theorem k86_50 : decode (gb 86) 50 = .ok (.iload_n 2, 1) := by decide +kernel
theorem k86_51 : decode (gb 86) 51 = .ok (.ior, 1) := by decide +kernel
theorem k86_52 : decode (gb 86) 52 = .ok (.iastore, 1) := by decide +kernel
theorem k86_53 : decode (gb 86) 53 = .ok (.aload_n 0, 1) := by decide +kernel
theorem k86_54 : decode (gb 86) 54 = .ok (.getfield 12, 3) := by decide +kernel
theorem k86_57 : decode (gb 86) 57 = .ok (.invokevirtual 59, 3) := by decide +kernel
theorem k86_60 : decode (gb 86) 60 = .ok (.aload_n 0, 1) := by decide +kernel
theorem k86_61 : decode (gb 86) 61 = .ok (.getfield 12, 3) := by decide +kernel
theorem k86_64 : decode (gb 86) 64 = .ok (.sipush 6156, 3) := by decide +kernel
theorem k86_67 : decode (gb 86) 67 = .ok (.invokevirtual 62, 3) := by decide +kernel
theorem k86_70 : decode (gb 86) 70 = .ok (.aload_n 0, 1) := by decide +kernel
theorem k86_71 : decode (gb 86) 71 = .ok (.getfield 12, 3) := by decide +kernel
theorem k86_74 : decode (gb 86) 74 = .ok (.ldc 65, 2) := by decide +kernel
theorem k86_76 : decode (gb 86) 76 = .ok (.iload 6, 2) := by decide +kernel
theorem k86_78 : decode (gb 86) 78 = .ok (.sipush 16383, 3) := by decide +kernel
theorem k86_81 : decode (gb 86) 81 = .ok (.iand, 1) := by decide +kernel
theorem k86_82 : decode (gb 86) 82 = .ok (.ior, 1) := by decide +kernel
theorem k86_83 : decode (gb 86) 83 = .ok (.invokevirtual 62, 3) := by decide +kernel
theorem k86_86 : decode (gb 86) 86 = .ok (.aload_n 0, 1) := by decide +kernel
theorem k86_87 : decode (gb 86) 87 = .ok (.getfield 12, 3) := by decide +kernel
theorem k86_90 : decode (gb 86) 90 = .ok (.aload 4, 2) := by decide +kernel
theorem k86_92 : decode (gb 86) 92 = .ok (.getfield 66, 3) := by decide +kernel
theorem k86_95 : decode (gb 86) 95 = .ok (.bipush 13, 2) := by decide +kernel
theorem k86_97 : decode (gb 86) 97 = .ok (.iadd, 1) := by decide +kernel
theorem k86_98 : decode (gb 86) 98 = .ok (.bipush 7, 2) := by decide +kernel
theorem k86_100 : decode (gb 86) 100 = .ok (.isub, 1) := by decide +kernel
theorem k86_101 : decode (gb 86) 101 = .ok (.invokevirtual 62, 3) := by decide +kernel
theorem k86_104 : decode (gb 86) 104 = .ok (.aload_n 0, 1) := by decide +kernel
theorem k86_105 : decode (gb 86) 105 = .ok (.getfield 12, 3) := by decide +kernel
theorem k86_108 : decode (gb 86) 108 = .ok (.bipush 32, 2) := by decide +kernel
theorem k86_110 : decode (gb 86) 110 = .ok (.iload_n 3, 1) := by decide +kernel
theorem k86_111 : decode (gb 86) 111 = .ok (.ior, 1) := by decide +kernel
theorem k86_112 : decode (gb 86) 112 = .ok (.invokevirtual 69, 3) := by decide +kernel
theorem k86_115 : decode (gb 86) 115 = .ok (.aload_n 0, 1) := by decide +kernel
theorem k86_116 : decode (gb 86) 116 = .ok (.getfield 12, 3) := by decide +kernel
theorem k86_119 : decode (gb 86) 119 = .ok (.iload_n 1, 1) := by decide +kernel
theorem k86_120 : decode (gb 86) 120 = .ok (.invokevirtual 69, 3) := by decide +kernel
theorem k86_123 : decode (gb 86) 123 = .ok (.aload_n 0, 1) := by decide +kernel
theorem k86_124 : decode (gb 86) 124 = .ok (.getfield 12, 3) := by decide +kernel
theorem k86_127 : decode (gb 86) 127 = .ok (.iload_n 2, 1) := by decide +kernel
theorem k86_128 : decode (gb 86) 128 = .ok (.invokevirtual 69, 3) := by decide +kernel
theorem k86_131 : decode (gb 86) 131 = .ok (.aload_n 0, 1) := by decide +kernel
theorem k86_132 : decode (gb 86) 132 = .ok (.getfield 12, 3) := by decide +kernel
theorem k86_135 : decode (gb 86) 135 = .ok (.iconst 0, 1) := by decide +kernel
theorem k86_136 : decode (gb 86) 136 = .ok (.invokevirtual 62, 3) := by decide +kernel
theorem k86_139 : decode (gb 86) 139 = .ok (.aload_n 0, 1) := by decide +kernel
theorem k86_140 : decode (gb 86) 140 = .ok (.getfield 12, 3) := by decide +kernel
theorem k86_143 : decode (gb 86) 143 = .ok (.aload 4, 2) := by decide +kernel
theorem k86_145 : decode (gb 86) 145 = .ok (.invokevirtual 72, 3) := by decide +kernel
theorem k86_148 : decode (gb 86) 148 = .ok (.aload_n 0, 1) := by decide +kernel
theorem k86_149 : decode (gb 86) 149 = .ok (.getfield 12, 3) := by decide +kernel
theorem k86_152 : decode (gb 86) 152 = .ok (.invokevirtual 76, 3) := by decide +kernel
theorem k86_155 : decode (gb 86) 155 = .ok (.iload 6, 2) := by decide +kernel
theorem k86_157 : decode (gb 86) 157 = .ok (.ireturn, 1) := by decide +kernel
/-- Ground.newRequest(IIILCraftHouse$Bytes;I)I -/
def f86 (p1 : Int32) (p2 : Int32) (p3 : Int32) (p4 : Nat) (p5 : Int32) (μ : Mem) : Option (Mem × Int32) :=
  (pfI 12 8 ((μ.1 12 8) + (1 : Int32)) μ).bind fun m1 =>
  nm ((μ.1 12 8) &&& (63 : Int32)) fun x3 =>
  (stA 24 x3 p5 m1).bind fun m4 =>
  (stA 25 x3 (0 : Int32) m4).bind fun m6 =>
  (stA 26 x3 ((jshl p1 (8 : Int32)) ||| p2) m6).bind fun m8 =>
  (f64 13 m8).bind fun r10 =>
  (f66 13 (6156 : Int32) r10).bind fun r12 =>
  (f66 13 ((49152 : Int32) ||| ((μ.1 12 8) &&& (16383 : Int32))) r12).bind fun r14 =>
  (f66 13 (((r14.1 p4 1) + (13 : Int32)) - (7 : Int32)) r14).bind fun r16 =>
  (f65 13 ((32 : Int32) ||| p3) r16).bind fun r18 =>
  (f65 13 p1 r18).bind fun r20 =>
  (f65 13 p2 r20).bind fun r22 =>
  (f66 13 (0 : Int32) r22).bind fun r24 =>
  (f71 13 p4 r24).bind fun r26 =>
  (f72 13 r26).bind fun r28 =>
  some (r28, (μ.1 12 8))
theorem ok86 {L : Nat} (p1 : Int32) (p2 : Int32) (p3 : Int32) (p4 : Nat) (p5 : Int32) (h4 : SK0 p4 = (0, 1)) (μ : Mem) (res : Mem × Int32) (h : f86 p1 p2 p3 p4 p5 μ = some res) : Mx 86 [.ref 12, .int p1, .int p2, .int p3, .ref p4, .int p5] (mk L μ) (mk L res.1, some (.int res.2)) := by
  refine Mx_of ml_86 (by rw [mx_86]; exact Nat.le_of_ble_eq_true rfl) ?_
  show Sx 86 0 [(0, .ref 12), (1, .int p1), (2, .int p2), (3, .int p3), (4, .ref p4), (5, .int p5)] [] 0 0 (mk L μ) _
  unfold f86 at h
  refine sx_aload_n (i := 0) k86_0 rfl rfl ?_
  refine cx_getI (k := 8) k86_1 ow_86 fl_3_52 (by decide) sk_12 ft_2_8 ?_
  refine cx_istore (lo2 := [(6, .int (μ.1 12 8)), (0, .ref 12), (1, .int p1), (2, .int p2), (3, .int p3), (4, .ref p4), (5, .int p5)]) k86_4 (by rw [mx_86]; decide) rfl ?_
  refine sx_aload_n (i := 0) k86_6 rfl rfl ?_
  refine sx_dup k86_7 rfl ?_
  refine cx_getI (k := 8) k86_8 ow_86 fl_3_52 (by decide) sk_12 ft_2_8 ?_
  refine sx_iconst (v := 1) k86_11 (by decide) ?_
  refine sx_iadd k86_12 ?_
  obtain ⟨m1, e2, h⟩ := Option.bind_eq_some_iff.mp h
  refine cx_putI (k := 8) k86_13 ow_86 fl_3_52 (by decide) sk_12 nf_2_8 fu_2_8 e2 ?_
  refine sx_iload k86_16 rfl ?_
  refine sx_bipush (v := 63) k86_18 (by decide) ?_
  refine sx_iand k86_20 ?_
  refine cx_nm h (fun x3 h => ?_)
  refine cx_istore (lo2 := [(7, .int x3), (6, .int (μ.1 12 8)), (0, .ref 12), (1, .int p1), (2, .int p2), (3, .int p3), (4, .ref p4), (5, .int p5)]) k86_21 (by rw [mx_86]; decide) rfl ?_
  refine sx_aload_n (i := 0) k86_23 rfl rfl ?_
  refine cx_getR (k := 5) k86_24 ow_86 fl_3_39 (by decide) sk_12 ft_2_5 sr_12_5 ?_
  refine sx_iload k86_27 rfl ?_
  refine sx_iload k86_29 rfl ?_
  obtain ⟨m4, e5, h⟩ := Option.bind_eq_some_iff.mp h
  refine cx_iast k86_31 sk_24 e5 ?_
  refine sx_aload_n (i := 0) k86_32 rfl rfl ?_
  refine cx_getR (k := 6) k86_33 ow_86 fl_3_42 (by decide) sk_12 ft_2_6 sr_12_6 ?_
  refine sx_iload k86_36 rfl ?_
  refine sx_iconst (v := 0) k86_38 (by decide) ?_
  obtain ⟨m6, e7, h⟩ := Option.bind_eq_some_iff.mp h
  refine cx_iast k86_39 sk_25 e7 ?_
  refine sx_aload_n (i := 0) k86_40 rfl rfl ?_
  refine cx_getR (k := 7) k86_41 ow_86 fl_3_45 (by decide) sk_12 ft_2_7 sr_12_7 ?_
  refine sx_iload k86_44 rfl ?_
  refine sx_iload_n (i := 1) k86_46 rfl rfl ?_
  refine sx_bipush (v := 8) k86_47 (by decide) ?_
  refine sx_ishl k86_49 ?_
  refine sx_iload_n (i := 2) k86_50 rfl rfl ?_
  refine sx_ior k86_51 ?_
  obtain ⟨m8, e9, h⟩ := Option.bind_eq_some_iff.mp h
  refine cx_iast k86_52 sk_26 e9 ?_
  refine sx_aload_n (i := 0) k86_53 rfl rfl ?_
  refine cx_getR (k := 0) k86_54 ow_86 fl_3_12 (by decide) sk_12 ft_2_0 sr_12_0 ?_
  obtain ⟨r10, e11, h⟩ := Option.bind_eq_some_iff.mp h
  refine cx_V (sk := []) (vs := []) st_86_64 k86_57 ow_86 cl_3_59 (by decide) rfl (Nat.le_of_ble_eq_true rfl) sk_13 (ok64 13 sk_13 _ _ e11) (sk3 := []) rfl rfl ?_
  refine sx_aload_n (i := 0) k86_60 rfl rfl ?_
  refine cx_getR (k := 0) k86_61 ow_86 fl_3_12 (by decide) sk_12 ft_2_0 sr_12_0 ?_
  refine sx_sipush (v := 6156) k86_64 (by decide) ?_
  obtain ⟨r12, e13, h⟩ := Option.bind_eq_some_iff.mp h
  refine cx_V (sk := []) (vs := [.int (6156 : Int32)]) st_86_66 k86_67 ow_86 cl_3_62 (by decide) rfl (Nat.le_of_ble_eq_true rfl) sk_13 (ok66 13 (6156 : Int32) sk_13 _ _ e13) (sk3 := []) rfl rfl ?_
  refine sx_aload_n (i := 0) k86_70 rfl rfl ?_
  refine cx_getR (k := 0) k86_71 ow_86 fl_3_12 (by decide) sk_12 ft_2_0 sr_12_0 ?_
  refine cx_ldc (v := 49152) k86_74 ow_86 kl_3_65 (by decide) ?_
  refine sx_iload k86_76 rfl ?_
  refine sx_sipush (v := 16383) k86_78 (by decide) ?_
  refine sx_iand k86_81 ?_
  refine sx_ior k86_82 ?_
  obtain ⟨r14, e15, h⟩ := Option.bind_eq_some_iff.mp h
  refine cx_V (sk := []) (vs := [.int ((49152 : Int32) ||| ((μ.1 12 8) &&& (16383 : Int32)))]) st_86_66 k86_83 ow_86 cl_3_62 (by decide) rfl (Nat.le_of_ble_eq_true rfl) sk_13 (ok66 13 ((49152 : Int32) ||| ((μ.1 12 8) &&& (16383 : Int32))) sk_13 _ _ e15) (sk3 := []) rfl rfl ?_
  refine sx_aload_n (i := 0) k86_86 rfl rfl ?_
  refine cx_getR (k := 0) k86_87 ow_86 fl_3_12 (by decide) sk_12 ft_2_0 sr_12_0 ?_
  refine sx_aload k86_90 rfl ?_
  refine cx_getI (k := 1) k86_92 ow_86 fl_3_66 (by decide) h4 ft_1_1 ?_
  refine sx_bipush (v := 13) k86_95 (by decide) ?_
  refine sx_iadd k86_97 ?_
  refine sx_bipush (v := 7) k86_98 (by decide) ?_
  refine sx_isub k86_100 ?_
  obtain ⟨r16, e17, h⟩ := Option.bind_eq_some_iff.mp h
  refine cx_V (sk := []) (vs := [.int (((r14.1 p4 1) + (13 : Int32)) - (7 : Int32))]) st_86_66 k86_101 ow_86 cl_3_62 (by decide) rfl (Nat.le_of_ble_eq_true rfl) sk_13 (ok66 13 (((r14.1 p4 1) + (13 : Int32)) - (7 : Int32)) sk_13 _ _ e17) (sk3 := []) rfl rfl ?_
  refine sx_aload_n (i := 0) k86_104 rfl rfl ?_
  refine cx_getR (k := 0) k86_105 ow_86 fl_3_12 (by decide) sk_12 ft_2_0 sr_12_0 ?_
  refine sx_bipush (v := 32) k86_108 (by decide) ?_
  refine sx_iload_n (i := 3) k86_110 rfl rfl ?_
  refine sx_ior k86_111 ?_
  obtain ⟨r18, e19, h⟩ := Option.bind_eq_some_iff.mp h
  refine cx_V (sk := []) (vs := [.int ((32 : Int32) ||| p3)]) st_86_65 k86_112 ow_86 cl_3_69 (by decide) rfl (Nat.le_of_ble_eq_true rfl) sk_13 (ok65 13 ((32 : Int32) ||| p3) sk_13 _ _ e19) (sk3 := []) rfl rfl ?_
  refine sx_aload_n (i := 0) k86_115 rfl rfl ?_
  refine cx_getR (k := 0) k86_116 ow_86 fl_3_12 (by decide) sk_12 ft_2_0 sr_12_0 ?_
  refine sx_iload_n (i := 1) k86_119 rfl rfl ?_
  obtain ⟨r20, e21, h⟩ := Option.bind_eq_some_iff.mp h
  refine cx_V (sk := []) (vs := [.int p1]) st_86_65 k86_120 ow_86 cl_3_69 (by decide) rfl (Nat.le_of_ble_eq_true rfl) sk_13 (ok65 13 p1 sk_13 _ _ e21) (sk3 := []) rfl rfl ?_
  refine sx_aload_n (i := 0) k86_123 rfl rfl ?_
  refine cx_getR (k := 0) k86_124 ow_86 fl_3_12 (by decide) sk_12 ft_2_0 sr_12_0 ?_
  refine sx_iload_n (i := 2) k86_127 rfl rfl ?_
  obtain ⟨r22, e23, h⟩ := Option.bind_eq_some_iff.mp h
  refine cx_V (sk := []) (vs := [.int p2]) st_86_65 k86_128 ow_86 cl_3_69 (by decide) rfl (Nat.le_of_ble_eq_true rfl) sk_13 (ok65 13 p2 sk_13 _ _ e23) (sk3 := []) rfl rfl ?_
  refine sx_aload_n (i := 0) k86_131 rfl rfl ?_
  refine cx_getR (k := 0) k86_132 ow_86 fl_3_12 (by decide) sk_12 ft_2_0 sr_12_0 ?_
  refine sx_iconst (v := 0) k86_135 (by decide) ?_
  obtain ⟨r24, e25, h⟩ := Option.bind_eq_some_iff.mp h
  refine cx_V (sk := []) (vs := [.int (0 : Int32)]) st_86_66 k86_136 ow_86 cl_3_62 (by decide) rfl (Nat.le_of_ble_eq_true rfl) sk_13 (ok66 13 (0 : Int32) sk_13 _ _ e25) (sk3 := []) rfl rfl ?_
  refine sx_aload_n (i := 0) k86_139 rfl rfl ?_
  refine cx_getR (k := 0) k86_140 ow_86 fl_3_12 (by decide) sk_12 ft_2_0 sr_12_0 ?_
  refine sx_aload k86_143 rfl ?_
  obtain ⟨r26, e27, h⟩ := Option.bind_eq_some_iff.mp h
  refine cx_V (sk := []) (vs := [.ref p4]) st_86_71 k86_145 ow_86 cl_3_72 (by decide) rfl (Nat.le_of_ble_eq_true rfl) sk_13 (ok71 13 p4 sk_13 h4 _ _ e27) (sk3 := []) rfl rfl ?_
  refine sx_aload_n (i := 0) k86_148 rfl rfl ?_
  refine cx_getR (k := 0) k86_149 ow_86 fl_3_12 (by decide) sk_12 ft_2_0 sr_12_0 ?_
  obtain ⟨r28, e29, h⟩ := Option.bind_eq_some_iff.mp h
  refine cx_V (sk := []) (vs := []) st_86_72 k86_152 ow_86 cl_3_76 (by decide) rfl (Nat.le_of_ble_eq_true rfl) sk_13 (ok72 13 sk_13 _ _ e29) (sk3 := []) rfl rfl ?_
  refine sx_iload k86_155 rfl ?_
  exact cx_reti k86_157 rt_86 h
theorem k87_0 : decode (gb 87) 0 = .ok (.iload_n 1, 1) := by decide +kernel
theorem k87_1 : decode (gb 87) 1 = .ok (.ifCond .lt 28, 3) := by decide +kernel
theorem k87_4 : decode (gb 87) 4 = .ok (.iload_n 1, 1) := by decide +kernel
theorem k87_5 : decode (gb 87) 5 = .ok (.aload_n 0, 1) := by decide +kernel
theorem k87_6 : decode (gb 87) 6 = .ok (.getfield 23, 3) := by decide +kernel
theorem k87_9 : decode (gb 87) 9 = .ok (.getfield 79, 3) := by decide +kernel
theorem k87_12 : decode (gb 87) 12 = .ok (.if_icmp .ge 17, 3) := by decide +kernel
theorem k87_15 : decode (gb 87) 15 = .ok (.aload_n 0, 1) := by decide +kernel
theorem k87_16 : decode (gb 87) 16 = .ok (.getfield 23, 3) := by decide +kernel
theorem k87_19 : decode (gb 87) 19 = .ok (.getfield 79, 3) := by decide +kernel
theorem k87_22 : decode (gb 87) 22 = .ok (.iconst 1, 1) := by decide +kernel
theorem k87_23 : decode (gb 87) 23 = .ok (.isub, 1) := by decide +kernel
theorem k87_24 : decode (gb 87) 24 = .ok (.iload_n 1, 1) := by decide +kernel
theorem k87_25 : decode (gb 87) 25 = .ok (.isub, 1) := by decide +kernel
theorem k87_26 : decode (gb 87) 26 = .ok (.goto 4, 3) := by decide +kernel
theorem k87_29 : decode (gb 87) 29 = .ok (.iconst (-1), 1) := by decide +kernel
theorem k87_30 : decode (gb 87) 30 = .ok (.ireturn, 1) := by decide +kernel
/-- Ground.placeOf(I)I -/
def f87 (p1 : Int32) (μ : Mem) : Option (Mem × Int32) :=
  if p1 < 0 then
    some (μ, (-1 : Int32))
  else
    if (μ.1 15 5) ≤ p1 then
      some (μ, (-1 : Int32))
    else
      some (μ, (((μ.1 15 5) - (1 : Int32)) - p1))
theorem ok87 {L : Nat} (p1 : Int32) (μ : Mem) (res : Mem × Int32) (h : f87 p1 μ = some res) : Mx 87 [.ref 12, .int p1] (mk L μ) (mk L res.1, some (.int res.2)) := by
  refine Mx_of ml_87 (by rw [mx_87]; exact Nat.le_of_ble_eq_true rfl) ?_
  show Sx 87 0 [(0, .ref 12), (1, .int p1)] [] 0 0 (mk L μ) _
  unfold f87 at h
  refine sx_iload_n (i := 1) k87_0 rfl rfl ?_
  by_cases hb1 : p1 < 0
  · rw [if_pos hb1] at h
    refine sx_if_lt (tgt := 29) k87_1 (by decide) (fun _ => ?_) (fun q => absurd hb1 q)
    refine sx_iconst (v := -1) k87_29 (by decide) ?_
    exact cx_reti k87_30 rt_87 h
  · rw [if_neg hb1] at h
    refine sx_if_lt (tgt := 29) k87_1 (by decide) (fun q => absurd q hb1) (fun _ => ?_)
    refine sx_iload_n (i := 1) k87_4 rfl rfl ?_
    refine sx_aload_n (i := 0) k87_5 rfl rfl ?_
    refine cx_getR (k := 1) k87_6 ow_87 fl_3_23 (by decide) sk_12 ft_2_1 sr_12_1 ?_
    refine cx_getI (k := 5) k87_9 ow_87 fl_3_79 (by decide) sk_15 ft_7_5 ?_
    by_cases hb2 : (μ.1 15 5) ≤ p1
    · rw [if_pos hb2] at h
      refine sx_icmp_ge (tgt := 29) k87_12 (by decide) (fun _ => ?_) (fun q => absurd hb2 q)
      refine sx_iconst (v := -1) k87_29 (by decide) ?_
      exact cx_reti k87_30 rt_87 h
    · rw [if_neg hb2] at h
      refine sx_icmp_ge (tgt := 29) k87_12 (by decide) (fun q => absurd q hb2) (fun _ => ?_)
      refine sx_aload_n (i := 0) k87_15 rfl rfl ?_
      refine cx_getR (k := 1) k87_16 ow_87 fl_3_23 (by decide) sk_12 ft_2_1 sr_12_1 ?_
      refine cx_getI (k := 5) k87_19 ow_87 fl_3_79 (by decide) sk_15 ft_7_5 ?_
      refine sx_iconst (v := 1) k87_22 (by decide) ?_
      refine sx_isub k87_23 ?_
      refine sx_iload_n (i := 1) k87_24 rfl rfl ?_
      refine sx_isub k87_25 ?_
      refine sx_goto (tgt := 30) k87_26 (by decide) ?_
      exact cx_reti k87_30 rt_87 h
theorem k89_0 : decode (gb 89) 0 = .ok (.aload_n 1, 1) := by decide +kernel
theorem k89_1 : decode (gb 89) 1 = .ok (.getfield 66, 3) := by decide +kernel
theorem k89_4 : decode (gb 89) 4 = .ok (.bipush 15, 2) := by decide +kernel
theorem k89_6 : decode (gb 89) 6 = .ok (.if_icmp .lt 77, 3) := by decide +kernel
theorem k89_9 : decode (gb 89) 9 = .ok (.aload_n 1, 1) := by decide +kernel
theorem k89_10 : decode (gb 89) 10 = .ok (.getfield 66, 3) := by decide +kernel
theorem k89_13 : decode (gb 89) 13 = .ok (.bipush 120, 2) := by decide +kernel
theorem k89_15 : decode (gb 89) 15 = .ok (.if_icmp .gt 68, 3) := by decide +kernel
theorem k89_18 : decode (gb 89) 18 = .ok (.aload_n 1, 1) := by decide +kernel
theorem k89_19 : decode (gb 89) 19 = .ok (.iconst 0, 1) := by decide +kernel
theorem k89_20 : decode (gb 89) 20 = .ok (.invokevirtual 82, 3) := by decide +kernel
theorem k89_23 : decode (gb 89) 23 = .ok (.sipush 2060, 3) := by decide +kernel
theorem k89_26 : decode (gb 89) 26 = .ok (.if_icmp .ne 57, 3) := by decide +kernel
theorem k89_29 : decode (gb 89) 29 = .ok (.aload_n 1, 1) := by decide +kernel
theorem k89_30 : decode (gb 89) 30 = .ok (.iconst 2, 1) := by decide +kernel
theorem k89_31 : decode (gb 89) 31 = .ok (.invokevirtual 113, 3) := by decide +kernel
theorem k89_34 : decode (gb 89) 34 = .ok (.sipush 192, 3) := by decide +kernel
theorem k89_37 : decode (gb 89) 37 = .ok (.iand, 1) := by decide +kernel
theorem k89_38 : decode (gb 89) 38 = .ok (.sipush 192, 3) := by decide +kernel
theorem k89_41 : decode (gb 89) 41 = .ok (.if_icmp .ne 42, 3) := by decide +kernel
theorem k89_44 : decode (gb 89) 44 = .ok (.aload_n 1, 1) := by decide +kernel
theorem k89_45 : decode (gb 89) 45 = .ok (.bipush 6, 2) := by decide +kernel
theorem k89_47 : decode (gb 89) 47 = .ok (.invokevirtual 113, 3) := by decide +kernel
theorem k89_50 : decode (gb 89) 50 = .ok (.bipush 32, 2) := by decide +kernel
theorem k89_52 : decode (gb 89) 52 = .ok (.if_icmp .ne 31, 3) := by decide +kernel
theorem k89_55 : decode (gb 89) 55 = .ok (.aload_n 1, 1) := by decide +kernel
theorem k89_56 : decode (gb 89) 56 = .ok (.iconst 0, 1) := by decide +kernel
theorem k89_57 : decode (gb 89) 57 = .ok (.aload_n 1, 1) := by decide +kernel
theorem k89_58 : decode (gb 89) 58 = .ok (.getfield 66, 3) := by decide +kernel
theorem k89_61 : decode (gb 89) 61 = .ok (.iconst 2, 1) := by decide +kernel
theorem k89_62 : decode (gb 89) 62 = .ok (.isub, 1) := by decide +kernel
theorem k89_63 : decode (gb 89) 63 = .ok (.invokevirtual 116, 3) := by decide +kernel
theorem k89_66 : decode (gb 89) 66 = .ok (.aload_n 1, 1) := by decide +kernel
theorem k89_67 : decode (gb 89) 67 = .ok (.aload_n 1, 1) := by decide +kernel
theorem k89_68 : decode (gb 89) 68 = .ok (.getfield 66, 3) := by decide +kernel
theorem k89_71 : decode (gb 89) 71 = .ok (.iconst 2, 1) := by decide +kernel
theorem k89_72 : decode (gb 89) 72 = .ok (.isub, 1) := by decide +kernel
theorem k89_73 : decode (gb 89) 73 = .ok (.invokevirtual 82, 3) := by decide +kernel
theorem k89_76 : decode (gb 89) 76 = .ok (.if_icmp .ne 7, 3) := by decide +kernel
theorem k89_79 : decode (gb 89) 79 = .ok (.iconst 1, 1) := by decide +kernel
theorem k89_80 : decode (gb 89) 80 = .ok (.goto 4, 3) := by decide +kernel
theorem k89_83 : decode (gb 89) 83 = .ok (.iconst 0, 1) := by decide +kernel
theorem k89_84 : decode (gb 89) 84 = .ok (.ireturn, 1) := by decide +kernel
/-- Ground.isSound(LCraftHouse$Bytes;)Z -/
def f89 (p1 : Nat) (μ : Mem) : Option (Mem × Int32) :=
  if (μ.1 p1 1) < (15 : Int32) then
    rtZ (0 : Int32) μ
  else
    if (120 : Int32) < (μ.1 p1 1) then
      rtZ (0 : Int32) μ
    else
      (f76 p1 (0 : Int32) μ).bind fun r3 =>
      if r3.2 = (2060 : Int32) then
        (f75 p1 (2 : Int32) r3.1).bind fun r6 =>
        if (r6.2 &&& (192 : Int32)) = (192 : Int32) then
          (f75 p1 (6 : Int32) r6.1).bind fun r9 =>
          if r9.2 = (32 : Int32) then
            (f78 p1 (0 : Int32) ((r9.1.1 p1 1) - (2 : Int32)) r9.1).bind fun r12 =>
            (f76 p1 ((r12.1.1 p1 1) - (2 : Int32)) r12.1).bind fun r14 =>
            if r12.2 = r14.2 then
              rtZ (1 : Int32) r14.1
            else
              rtZ (0 : Int32) r14.1
          else
            rtZ (0 : Int32) r9.1
        else
          rtZ (0 : Int32) r6.1
      else
        rtZ (0 : Int32) r3.1
theorem ok89 {L : Nat} (p1 : Nat) (h1 : SK0 p1 = (0, 1)) (μ : Mem) (res : Mem × Int32) (h : f89 p1 μ = some res) : Mx 89 [.ref 12, .ref p1] (mk L μ) (mk L res.1, some (.int res.2)) := by
  refine Mx_of ml_89 (by rw [mx_89]; exact Nat.le_of_ble_eq_true rfl) ?_
  show Sx 89 0 [(0, .ref 12), (1, .ref p1)] [] 0 0 (mk L μ) _
  unfold f89 at h
  refine sx_aload_n (i := 1) k89_0 rfl rfl ?_
  refine cx_getI (k := 1) k89_1 ow_89 fl_3_66 (by decide) h1 ft_1_1 ?_
  refine sx_bipush (v := 15) k89_4 (by decide) ?_
  by_cases hb1 : (μ.1 p1 1) < (15 : Int32)
  · rw [if_pos hb1] at h
    refine sx_icmp_lt (tgt := 83) k89_6 (by decide) (fun _ => ?_) (fun q => absurd hb1 q)
    refine sx_iconst (v := 0) k89_83 (by decide) ?_
    exact cx_retz k89_84 rt_89 h
  · rw [if_neg hb1] at h
    refine sx_icmp_lt (tgt := 83) k89_6 (by decide) (fun q => absurd q hb1) (fun _ => ?_)
    refine sx_aload_n (i := 1) k89_9 rfl rfl ?_
    refine cx_getI (k := 1) k89_10 ow_89 fl_3_66 (by decide) h1 ft_1_1 ?_
    refine sx_bipush (v := 120) k89_13 (by decide) ?_
    by_cases hb2 : (120 : Int32) < (μ.1 p1 1)
    · rw [if_pos hb2] at h
      refine sx_icmp_gt (tgt := 83) k89_15 (by decide) (fun _ => ?_) (fun q => absurd hb2 q)
      refine sx_iconst (v := 0) k89_83 (by decide) ?_
      exact cx_retz k89_84 rt_89 h
    · rw [if_neg hb2] at h
      refine sx_icmp_gt (tgt := 83) k89_15 (by decide) (fun q => absurd q hb2) (fun _ => ?_)
      refine sx_aload_n (i := 1) k89_18 rfl rfl ?_
      refine sx_iconst (v := 0) k89_19 (by decide) ?_
      obtain ⟨r3, e4, h⟩ := Option.bind_eq_some_iff.mp h
      refine cx_V (sk := []) (vs := [.int (0 : Int32)]) st_89_76 k89_20 ow_89 cl_3_82 (by decide) rfl (Nat.le_of_ble_eq_true rfl) h1 (ok76 p1 (0 : Int32) h1 _ _ e4) (sk3 := [.int r3.2]) rfl rfl ?_
      refine sx_sipush (v := 2060) k89_23 (by decide) ?_
      by_cases hb5 : r3.2 = (2060 : Int32)
      · rw [if_pos hb5] at h
        refine sx_icmp_ne (tgt := 83) k89_26 (by decide) (fun q => absurd hb5 q) (fun _ => ?_)
        refine sx_aload_n (i := 1) k89_29 rfl rfl ?_
        refine sx_iconst (v := 2) k89_30 (by decide) ?_
        obtain ⟨r6, e7, h⟩ := Option.bind_eq_some_iff.mp h
        refine cx_V (sk := []) (vs := [.int (2 : Int32)]) st_89_75 k89_31 ow_89 cl_3_113 (by decide) rfl (Nat.le_of_ble_eq_true rfl) h1 (ok75 p1 (2 : Int32) h1 _ _ e7) (sk3 := [.int r6.2]) rfl rfl ?_
        refine sx_sipush (v := 192) k89_34 (by decide) ?_
        refine sx_iand k89_37 ?_
        refine sx_sipush (v := 192) k89_38 (by decide) ?_
        by_cases hb8 : (r6.2 &&& (192 : Int32)) = (192 : Int32)
        · rw [if_pos hb8] at h
          refine sx_icmp_ne (tgt := 83) k89_41 (by decide) (fun q => absurd hb8 q) (fun _ => ?_)
          refine sx_aload_n (i := 1) k89_44 rfl rfl ?_
          refine sx_bipush (v := 6) k89_45 (by decide) ?_
          obtain ⟨r9, e10, h⟩ := Option.bind_eq_some_iff.mp h
          refine cx_V (sk := []) (vs := [.int (6 : Int32)]) st_89_75 k89_47 ow_89 cl_3_113 (by decide) rfl (Nat.le_of_ble_eq_true rfl) h1 (ok75 p1 (6 : Int32) h1 _ _ e10) (sk3 := [.int r9.2]) rfl rfl ?_
          refine sx_bipush (v := 32) k89_50 (by decide) ?_
          by_cases hb11 : r9.2 = (32 : Int32)
          · rw [if_pos hb11] at h
            refine sx_icmp_ne (tgt := 83) k89_52 (by decide) (fun q => absurd hb11 q) (fun _ => ?_)
            refine sx_aload_n (i := 1) k89_55 rfl rfl ?_
            refine sx_iconst (v := 0) k89_56 (by decide) ?_
            refine sx_aload_n (i := 1) k89_57 rfl rfl ?_
            refine cx_getI (k := 1) k89_58 ow_89 fl_3_66 (by decide) h1 ft_1_1 ?_
            refine sx_iconst (v := 2) k89_61 (by decide) ?_
            refine sx_isub k89_62 ?_
            obtain ⟨r12, e13, h⟩ := Option.bind_eq_some_iff.mp h
            refine cx_V (sk := []) (vs := [.int (0 : Int32), .int ((r9.1.1 p1 1) - (2 : Int32))]) st_89_78 k89_63 ow_89 cl_3_116 (by decide) rfl (Nat.le_of_ble_eq_true rfl) h1 (ok78 p1 (0 : Int32) ((r9.1.1 p1 1) - (2 : Int32)) h1 _ _ e13) (sk3 := [.int r12.2]) rfl rfl ?_
            refine sx_aload_n (i := 1) k89_66 rfl rfl ?_
            refine sx_aload_n (i := 1) k89_67 rfl rfl ?_
            refine cx_getI (k := 1) k89_68 ow_89 fl_3_66 (by decide) h1 ft_1_1 ?_
            refine sx_iconst (v := 2) k89_71 (by decide) ?_
            refine sx_isub k89_72 ?_
            obtain ⟨r14, e15, h⟩ := Option.bind_eq_some_iff.mp h
            refine cx_V (sk := [.int r12.2]) (vs := [.int ((r12.1.1 p1 1) - (2 : Int32))]) st_89_76 k89_73 ow_89 cl_3_82 (by decide) rfl (Nat.le_of_ble_eq_true rfl) h1 (ok76 p1 ((r12.1.1 p1 1) - (2 : Int32)) h1 _ _ e15) (sk3 := [.int r14.2, .int r12.2]) rfl rfl ?_
            by_cases hb16 : r12.2 = r14.2
            · rw [if_pos hb16] at h
              refine sx_icmp_ne (tgt := 83) k89_76 (by decide) (fun q => absurd hb16 q) (fun _ => ?_)
              refine sx_iconst (v := 1) k89_79 (by decide) ?_
              refine sx_goto (tgt := 84) k89_80 (by decide) ?_
              exact cx_retz k89_84 rt_89 h
            · rw [if_neg hb16] at h
              refine sx_icmp_ne (tgt := 83) k89_76 (by decide) (fun _ => ?_) (fun q => absurd q hb16)
              refine sx_iconst (v := 0) k89_83 (by decide) ?_
              exact cx_retz k89_84 rt_89 h
          · rw [if_neg hb11] at h
            refine sx_icmp_ne (tgt := 83) k89_52 (by decide) (fun _ => ?_) (fun q => absurd q hb11)
            refine sx_iconst (v := 0) k89_83 (by decide) ?_
            exact cx_retz k89_84 rt_89 h
        · rw [if_neg hb8] at h
          refine sx_icmp_ne (tgt := 83) k89_41 (by decide) (fun _ => ?_) (fun q => absurd q hb8)
          refine sx_iconst (v := 0) k89_83 (by decide) ?_
          exact cx_retz k89_84 rt_89 h
      · rw [if_neg hb5] at h
        refine sx_icmp_ne (tgt := 83) k89_26 (by decide) (fun _ => ?_) (fun q => absurd q hb5)
        refine sx_iconst (v := 0) k89_83 (by decide) ?_
        exact cx_retz k89_84 rt_89 h
theorem k90_0 : decode (gb 90) 0 = .ok (.aload_n 0, 1) := by decide +kernel
theorem k90_1 : decode (gb 90) 1 = .ok (.getfield 48, 3) := by decide +kernel
theorem k90_4 : decode (gb 90) 4 = .ok (.ifCond .lt 24, 3) := by decide +kernel
theorem k90_7 : decode (gb 90) 7 = .ok (.aload_n 0, 1) := by decide +kernel
theorem k90_8 : decode (gb 90) 8 = .ok (.dup, 1) := by decide +kernel
theorem k90_9 : decode (gb 90) 9 = .ok (.getfield 120, 3) := by decide +kernel
theorem k90_12 : decode (gb 90) 12 = .ok (.iload_n 1, 1) := by decide +kernel
theorem k90_13 : decode (gb 90) 13 = .ok (.aload_n 0, 1) := by decide +kernel
theorem k90_14 : decode (gb 90) 14 = .ok (.getfield 48, 3) := by decide +kernel
theorem k90_17 : decode (gb 90) 17 = .ok (.isub, 1) := by decide +kernel
theorem k90_18 : decode (gb 90) 18 = .ok (.iconst 1, 1) := by decide +kernel
theorem k90_19 : decode (gb 90) 19 = .ok (.isub, 1) := by decide +kernel
theorem k90_20 : decode (gb 90) 20 = .ok (.sipush 16383, 3) := by decide +kernel
theorem k90_23 : decode (gb 90) 23 = .ok (.iand, 1) := by decide +kernel
theorem k90_24 : decode (gb 90) 24 = .ok (.iadd, 1) := by decide +kernel
theorem k90_25 : decode (gb 90) 25 = .ok (.putfield 120, 3) := by decide +kernel
theorem k90_28 : decode (gb 90) 28 = .ok (.aload_n 0, 1) := by decide +kernel
theorem k90_29 : decode (gb 90) 29 = .ok (.iload_n 1, 1) := by decide +kernel
theorem k90_30 : decode (gb 90) 30 = .ok (.putfield 48, 3) := by decide +kernel
theorem k90_33 : decode (gb 90) 33 = .ok (.return_, 1) := by decide +kernel
def c90_28 (v1 : Int32) (μ : Mem) : Option (Mem) :=
  (pfI 12 12 v1 μ).bind fun m1 =>
  some m1
theorem c90_28_ok {L : Nat} (v1 : Int32) (μ : Mem) (res : Mem) (h : c90_28 v1 μ = some res) : Sx 90 28 [(0, .ref 12), (1, .int v1)] [] 0 0 (mk L μ) (mk L res, none) := by
  unfold c90_28 at h
  refine sx_aload_n (i := 0) k90_28 rfl rfl ?_
  refine sx_iload_n (i := 1) k90_29 rfl rfl ?_
  obtain ⟨m1, e2, h⟩ := Option.bind_eq_some_iff.mp h
  refine cx_putI (k := 12) k90_30 ow_90 fl_3_48 (by decide) sk_12 nf_2_12 fu_2_12 e2 ?_
  exact cx_retv k90_33 rt_90 h
/-- Ground.followCount(I)V -/
def f90 (p1 : Int32) (μ : Mem) : Option (Mem) :=
  if (μ.1 12 12) < 0 then
    c90_28 p1 μ
  else
    (pfI 12 11 ((μ.1 12 11) + (((p1 - (μ.1 12 12)) - (1 : Int32)) &&& (16383 : Int32))) μ).bind fun m2 =>
    c90_28 p1 m2
theorem ok90 {L : Nat} (p1 : Int32) (μ : Mem) (res : Mem) (h : f90 p1 μ = some res) : Mx 90 [.ref 12, .int p1] (mk L μ) (mk L res, none) := by
  refine Mx_of ml_90 (by rw [mx_90]; exact Nat.le_of_ble_eq_true rfl) ?_
  show Sx 90 0 [(0, .ref 12), (1, .int p1)] [] 0 0 (mk L μ) _
  unfold f90 at h
  refine sx_aload_n (i := 0) k90_0 rfl rfl ?_
  refine cx_getI (k := 12) k90_1 ow_90 fl_3_48 (by decide) sk_12 ft_2_12 ?_
  by_cases hb1 : (μ.1 12 12) < 0
  · rw [if_pos hb1] at h
    refine sx_if_lt (tgt := 28) k90_4 (by decide) (fun _ => ?_) (fun q => absurd hb1 q)
    refine sx_pick (lo2 := [(0, .ref 12), (1, .int p1)]) [0, 1] rfl ?_
    exact c90_28_ok p1 _ _ h
  · rw [if_neg hb1] at h
    refine sx_if_lt (tgt := 28) k90_4 (by decide) (fun q => absurd q hb1) (fun _ => ?_)
    refine sx_aload_n (i := 0) k90_7 rfl rfl ?_
    refine sx_dup k90_8 rfl ?_
    refine cx_getI (k := 11) k90_9 ow_90 fl_3_120 (by decide) sk_12 ft_2_11 ?_
    refine sx_iload_n (i := 1) k90_12 rfl rfl ?_
    refine sx_aload_n (i := 0) k90_13 rfl rfl ?_
    refine cx_getI (k := 12) k90_14 ow_90 fl_3_48 (by decide) sk_12 ft_2_12 ?_
    refine sx_isub k90_17 ?_
    refine sx_iconst (v := 1) k90_18 (by decide) ?_
    refine sx_isub k90_19 ?_
    refine sx_sipush (v := 16383) k90_20 (by decide) ?_
    refine sx_iand k90_23 ?_
    refine sx_iadd k90_24 ?_
    obtain ⟨m2, e3, h⟩ := Option.bind_eq_some_iff.mp h
    refine cx_putI (k := 11) k90_25 ow_90 fl_3_120 (by decide) sk_12 nf_2_11 fu_2_11 e3 ?_
    refine sx_pick (lo2 := [(0, .ref 12), (1, .int p1)]) [0, 1] rfl ?_
    exact c90_28_ok p1 _ _ h
theorem k93_0 : decode (gb 93) 0 = .ok (.iload_n 1, 1) := by decide +kernel
theorem k93_1 : decode (gb 93) 1 = .ok (.bipush 24, 2) := by decide +kernel
theorem k93_3 : decode (gb 93) 3 = .ok (.if_icmp .ge 22, 3) := by decide +kernel
theorem k93_6 : decode (gb 93) 6 = .ok (.aload_n 0, 1) := by decide +kernel
theorem k93_7 : decode (gb 93) 7 = .ok (.getfield 29, 3) := by decide +kernel
theorem k93_10 : decode (gb 93) 10 = .ok (.iload_n 1, 1) := by decide +kernel
theorem k93_11 : decode (gb 93) 11 = .ok (.iaload, 1) := by decide +kernel
theorem k93_12 : decode (gb 93) 12 = .ok (.ifCond .eq 14, 3) := by decide +kernel
theorem k93_15 : decode (gb 93) 15 = .ok (.iload_n 3, 1) := by decide +kernel
theorem k93_16 : decode (gb 93) 16 = .ok (.aload_n 0, 1) := by decide +kernel
theorem k93_17 : decode (gb 93) 17 = .ok (.getfield 36, 3) := by decide +kernel
theorem k93_20 : decode (gb 93) 20 = .ok (.iload_n 1, 1) := by decide +kernel
theorem k93_21 : decode (gb 93) 21 = .ok (.iaload, 1) := by decide +kernel
theorem k93_22 : decode (gb 93) 22 = .ok (.if_icmp .ge 4, 3) := by decide +kernel
theorem k93_25 : decode (gb 93) 25 = .ok (.return_, 1) := by decide +kernel
theorem k93_26 : decode (gb 93) 26 = .ok (.aload_n 0, 1) := by decide +kernel
theorem k93_27 : decode (gb 93) 27 = .ok (.getfield 29, 3) := by decide +kernel
theorem k93_30 : decode (gb 93) 30 = .ok (.iload_n 1, 1) := by decide +kernel
theorem k93_31 : decode (gb 93) 31 = .ok (.iconst 1, 1) := by decide +kernel
theorem k93_32 : decode (gb 93) 32 = .ok (.iastore, 1) := by decide +kernel
theorem k93_33 : decode (gb 93) 33 = .ok (.aload_n 0, 1) := by decide +kernel
theorem k93_34 : decode (gb 93) 34 = .ok (.getfield 33, 3) := by decide +kernel
theorem k93_37 : decode (gb 93) 37 = .ok (.iload_n 1, 1) := by decide +kernel
theorem k93_38 : decode (gb 93) 38 = .ok (.iload_n 2, 1) := by decide +kernel
theorem k93_39 : decode (gb 93) 39 = .ok (.iastore, 1) := by decide +kernel
theorem k93_40 : decode (gb 93) 40 = .ok (.aload_n 0, 1) := by decide +kernel
theorem k93_41 : decode (gb 93) 41 = .ok (.getfield 36, 3) := by decide +kernel
theorem k93_44 : decode (gb 93) 44 = .ok (.iload_n 1, 1) := by decide +kernel
theorem k93_45 : decode (gb 93) 45 = .ok (.iload_n 3, 1) := by decide +kernel
theorem k93_46 : decode (gb 93) 46 = .ok (.iastore, 1) := by decide +kernel
theorem k93_47 : decode (gb 93) 47 = .ok (.return_, 1) := by decide +kernel
def c93_26 (v1 : Int32) (v2 : Int32) (v3 : Int32) (μ : Mem) : Option (Mem) :=
  (stA 21 v1 (1 : Int32) μ).bind fun m1 =>
  (stA 22 v1 v2 m1).bind fun m3 =>
  (stA 23 v1 v3 m3).bind fun m5 =>
  some m5
theorem c93_26_ok {L : Nat} (v1 : Int32) (v2 : Int32) (v3 : Int32) (μ : Mem) (res : Mem) (h : c93_26 v1 v2 v3 μ = some res) : Sx 93 26 [(0, .ref 12), (1, .int v1), (2, .int v2), (3, .int v3)] [] 0 0 (mk L μ) (mk L res, none) := by
  unfold c93_26 at h
  refine sx_aload_n (i := 0) k93_26 rfl rfl ?_
  refine cx_getR (k := 2) k93_27 ow_93 fl_3_29 (by decide) sk_12 ft_2_2 sr_12_2 ?_
  refine sx_iload_n (i := 1) k93_30 rfl rfl ?_
  refine sx_iconst (v := 1) k93_31 (by decide) ?_
  obtain ⟨m1, e2, h⟩ := Option.bind_eq_some_iff.mp h
  refine cx_iast k93_32 sk_21 e2 ?_
  refine sx_aload_n (i := 0) k93_33 rfl rfl ?_
  refine cx_getR (k := 3) k93_34 ow_93 fl_3_33 (by decide) sk_12 ft_2_3 sr_12_3 ?_
  refine sx_iload_n (i := 1) k93_37 rfl rfl ?_
  refine sx_iload_n (i := 2) k93_38 rfl rfl ?_
  obtain ⟨m3, e4, h⟩ := Option.bind_eq_some_iff.mp h
  refine cx_iast k93_39 sk_22 e4 ?_
  refine sx_aload_n (i := 0) k93_40 rfl rfl ?_
  refine cx_getR (k := 4) k93_41 ow_93 fl_3_36 (by decide) sk_12 ft_2_4 sr_12_4 ?_
  refine sx_iload_n (i := 1) k93_44 rfl rfl ?_
  refine sx_iload_n (i := 3) k93_45 rfl rfl ?_
  obtain ⟨m5, e6, h⟩ := Option.bind_eq_some_iff.mp h
  refine cx_iast k93_46 sk_23 e6 ?_
  exact cx_retv k93_47 rt_93 h
/-- Ground.showValue(III)V -/
def f93 (p1 : Int32) (p2 : Int32) (p3 : Int32) (μ : Mem) : Option (Mem) :=
  if (24 : Int32) ≤ p1 then
    some μ
  else
    (ldA 21 p1 μ).bind fun x2 =>
    if x2 = 0 then
      c93_26 p1 p2 p3 μ
    else
      (ldA 23 p1 μ).bind fun x5 =>
      if x5 ≤ p3 then
        c93_26 p1 p2 p3 μ
      else
        some μ
theorem ok93 {L : Nat} (p1 : Int32) (p2 : Int32) (p3 : Int32) (μ : Mem) (res : Mem) (h : f93 p1 p2 p3 μ = some res) : Mx 93 [.ref 12, .int p1, .int p2, .int p3] (mk L μ) (mk L res, none) := by
  refine Mx_of ml_93 (by rw [mx_93]; exact Nat.le_of_ble_eq_true rfl) ?_
  show Sx 93 0 [(0, .ref 12), (1, .int p1), (2, .int p2), (3, .int p3)] [] 0 0 (mk L μ) _
  unfold f93 at h
  refine sx_iload_n (i := 1) k93_0 rfl rfl ?_
  refine sx_bipush (v := 24) k93_1 (by decide) ?_
  by_cases hb1 : (24 : Int32) ≤ p1
  · rw [if_pos hb1] at h
    refine sx_icmp_ge (tgt := 25) k93_3 (by decide) (fun _ => ?_) (fun q => absurd hb1 q)
    exact cx_retv k93_25 rt_93 h
  · rw [if_neg hb1] at h
    refine sx_icmp_ge (tgt := 25) k93_3 (by decide) (fun q => absurd q hb1) (fun _ => ?_)
    refine sx_aload_n (i := 0) k93_6 rfl rfl ?_
    refine cx_getR (k := 2) k93_7 ow_93 fl_3_29 (by decide) sk_12 ft_2_2 sr_12_2 ?_
    refine sx_iload_n (i := 1) k93_10 rfl rfl ?_
    obtain ⟨x2, e3, h⟩ := Option.bind_eq_some_iff.mp h
    refine cx_iald k93_11 sk_21 e3 ?_
    by_cases hb4 : x2 = 0
    · rw [if_pos hb4] at h
      refine sx_if_eq (tgt := 26) k93_12 (by decide) (fun _ => ?_) (fun q => absurd hb4 q)
      refine sx_pick (lo2 := [(0, .ref 12), (1, .int p1), (2, .int p2), (3, .int p3)]) [0, 1, 2, 3] rfl ?_
      exact c93_26_ok p1 p2 p3 _ _ h
    · rw [if_neg hb4] at h
      refine sx_if_eq (tgt := 26) k93_12 (by decide) (fun q => absurd q hb4) (fun _ => ?_)
      refine sx_iload_n (i := 3) k93_15 rfl rfl ?_
      refine sx_aload_n (i := 0) k93_16 rfl rfl ?_
      refine cx_getR (k := 4) k93_17 ow_93 fl_3_36 (by decide) sk_12 ft_2_4 sr_12_4 ?_
      refine sx_iload_n (i := 1) k93_20 rfl rfl ?_
      obtain ⟨x5, e6, h⟩ := Option.bind_eq_some_iff.mp h
      refine cx_iald k93_21 sk_23 e6 ?_
      by_cases hb7 : x5 ≤ p3
      · rw [if_pos hb7] at h
        refine sx_icmp_ge (tgt := 26) k93_22 (by decide) (fun _ => ?_) (fun q => absurd hb7 q)
        refine sx_pick (lo2 := [(0, .ref 12), (1, .int p1), (2, .int p2), (3, .int p3)]) [0, 1, 2, 3] rfl ?_
        exact c93_26_ok p1 p2 p3 _ _ h
      · rw [if_neg hb7] at h
        refine sx_icmp_ge (tgt := 26) k93_22 (by decide) (fun q => absurd q hb7) (fun _ => ?_)
        exact cx_retv k93_25 rt_93 h
theorem k92_0 : decode (gb 92) 0 = .ok (.aload_n 1, 1) := by decide +kernel
theorem k92_1 : decode (gb 92) 1 = .ok (.getfield 66, 3) := by decide +kernel
theorem k92_4 : decode (gb 92) 4 = .ok (.iconst 2, 1) := by decide +kernel
theorem k92_5 : decode (gb 92) 5 = .ok (.isub, 1) := by decide +kernel
theorem k92_6 : decode (gb 92) 6 = .ok (.istore_n 3, 1) := by decide +kernel
theorem k92_7 : decode (gb 92) 7 = .ok (.iload_n 2, 1) := by decide +kernel
theorem k92_8 : decode (gb 92) 8 = .ok (.iload_n 3, 1) := by decide +kernel
theorem k92_9 : decode (gb 92) 9 = .ok (.if_icmp .ge 11, 3) := by decide +kernel
theorem k92_12 : decode (gb 92) 12 = .ok (.aload_n 1, 1) := by decide +kernel
theorem k92_13 : decode (gb 92) 13 = .ok (.iload_n 2, 1) := by decide +kernel
theorem k92_14 : decode (gb 92) 14 = .ok (.invokevirtual 113, 3) := by decide +kernel
theorem k92_17 : decode (gb 92) 17 = .ok (.goto 4, 3) := by decide +kernel
theorem k92_20 : decode (gb 92) 20 = .ok (.iconst 0, 1) := by decide +kernel
theorem k92_21 : decode (gb 92) 21 = .ok (.istore 4, 2) := by decide +kernel
theorem k92_23 : decode (gb 92) 23 = .ok (.aload_n 1, 1) := by decide +kernel
theorem k92_24 : decode (gb 92) 24 = .ok (.bipush 9, 2) := by decide +kernel
theorem k92_26 : decode (gb 92) 26 = .ok (.invokevirtual 130, 3) := by decide +kernel
theorem k92_29 : decode (gb 92) 29 = .ok (.istore 5, 2) := by decide +kernel
theorem k92_31 : decode (gb 92) 31 = .ok (.iconst 0, 1) := by decide +kernel
theorem k92_32 : decode (gb 92) 32 = .ok (.istore 6, 2) := by decide +kernel
theorem k92_34 : decode (gb 92) 34 = .ok (.iload 6, 2) := by decide +kernel
theorem k92_36 : decode (gb 92) 36 = .ok (.iload 4, 2) := by decide +kernel
theorem k92_38 : decode (gb 92) 38 = .ok (.if_icmp .ge 48, 3) := by decide +kernel
theorem k92_41 : decode (gb 92) 41 = .ok (.iload_n 2, 1) := by decide +kernel
theorem k92_42 : decode (gb 92) 42 = .ok (.iconst 1, 1) := by decide +kernel
theorem k92_43 : decode (gb 92) 43 = .ok (.iadd, 1) := by decide +kernel
theorem k92_44 : decode (gb 92) 44 = .ok (.iconst 5, 1) := by decide +kernel
theorem k92_45 : decode (gb 92) 45 = .ok (.iload 6, 2) := by decide +kernel
theorem k92_47 : decode (gb 92) 47 = .ok (.imul, 1) := by decide +kernel
theorem k92_48 : decode (gb 92) 48 = .ok (.iadd, 1) := by decide +kernel
theorem k92_49 : decode (gb 92) 49 = .ok (.istore 7, 2) := by decide +kernel
theorem k92_51 : decode (gb 92) 51 = .ok (.iload 7, 2) := by decide +kernel
theorem k92_53 : decode (gb 92) 53 = .ok (.iconst 5, 1) := by decide +kernel
theorem k92_54 : decode (gb 92) 54 = .ok (.iadd, 1) := by decide +kernel
theorem k92_55 : decode (gb 92) 55 = .ok (.iload_n 3, 1) := by decide +kernel
theorem k92_56 : decode (gb 92) 56 = .ok (.if_icmp .le 4, 3) := by decide +kernel
theorem k92_59 : decode (gb 92) 59 = .ok (.return_, 1) := by decide +kernel
theorem k92_60 : decode (gb 92) 60 = .ok (.aload_n 0, 1) := by decide +kernel
theorem k92_61 : decode (gb 92) 61 = .ok (.aload_n 1, 1) := by decide +kernel
theorem k92_62 : decode (gb 92) 62 = .ok (.iload 7, 2) := by decide +kernel
theorem k92_64 : decode (gb 92) 64 = .ok (.invokevirtual 113, 3) := by decide +kernel
theorem k92_67 : decode (gb 92) 67 = .ok (.aload_n 1, 1) := by decide +kernel
theorem k92_68 : decode (gb 92) 68 = .ok (.iload 7, 2) := by decide +kernel
theorem k92_70 : decode (gb 92) 70 = .ok (.iconst 1, 1) := by decide +kernel
theorem k92_71 : decode (gb 92) 71 = .ok (.iadd, 1) := by decide +kernel
theorem k92_72 : decode (gb 92) 72 = .ok (.invokevirtual 130, 3) := by decide +kernel
theorem k92_75 : decode (gb 92) 75 = .ok (.iload 5, 2) := by decide +kernel
theorem k92_77 : decode (gb 92) 77 = .ok (.invokevirtual 133, 3) := by decide +kernel
theorem k92_80 : decode (gb 92) 80 = .ok (.iinc 6 1, 3) := by decide +kernel
theorem k92_83 : decode (gb 92) 83 = .ok (.goto (-49), 3) := by decide +kernel
theorem k92_86 : decode (gb 92) 86 = .ok (.return_, 1) := by decide +kernel
def b92_34 (p1 : Nat) (kl34 : Int32 → Int32 → Int32 → Int32 → Int32 → Mem → Option (Mem)) (v2 : Int32) (v3 : Int32) (v4 : Int32) (v5 : Int32) (v6 : Int32) (μ : Mem) : Option (Mem) :=
  if v4 ≤ v6 then
    some μ
  else
    nm ((v2 + (1 : Int32)) + ((5 : Int32) * v6)) fun x2 =>
    if (x2 + (5 : Int32)) ≤ v3 then
      (f75 p1 x2 μ).bind fun r4 =>
      (f77 p1 (x2 + (1 : Int32)) r4.1).bind fun r6 =>
      (f93 r4.2 r6.2 v5 r6.1).bind fun r8 =>
      nm (v6 + (1 : Int32)) fun x10 =>
      kl34 v2 v3 v4 v5 x10 r8
    else
      some μ
theorem b92_34_ok {L : Nat} (p1 : Nat) (h1 : SK0 p1 = (0, 1)) (kl34 : Int32 → Int32 → Int32 → Int32 → Int32 → Mem → Option (Mem)) (hk34 : (∀ (v2 : Int32) (v3 : Int32) (v4 : Int32) (v5 : Int32) (v6 : Int32) (μ : Mem) (res : Mem), kl34 v2 v3 v4 v5 v6 μ = some res → Sx 92 34 [(0, .ref 12), (1, .ref p1), (2, .int v2), (3, .int v3), (4, .int v4), (5, .int v5), (6, .int v6)] [] 0 0 (mk L μ) (mk L res, none))) (v2 : Int32) (v3 : Int32) (v4 : Int32) (v5 : Int32) (v6 : Int32) (μ : Mem) (res : Mem) (h : b92_34 p1 kl34 v2 v3 v4 v5 v6 μ = some res) : Sx 92 34 [(0, .ref 12), (1, .ref p1), (2, .int v2), (3, .int v3), (4, .int v4), (5, .int v5), (6, .int v6)] [] 0 0 (mk L μ) (mk L res, none) := by
  unfold b92_34 at h
  refine sx_iload k92_34 rfl ?_
  refine sx_iload k92_36 rfl ?_
  by_cases hb1 : v4 ≤ v6
  · rw [if_pos hb1] at h
    refine sx_icmp_ge (tgt := 86) k92_38 (by decide) (fun _ => ?_) (fun q => absurd hb1 q)
    exact cx_retv k92_86 rt_92 h
  · rw [if_neg hb1] at h
    refine sx_icmp_ge (tgt := 86) k92_38 (by decide) (fun q => absurd q hb1) (fun _ => ?_)
    refine sx_iload_n (i := 2) k92_41 rfl rfl ?_
    refine sx_iconst (v := 1) k92_42 (by decide) ?_
    refine sx_iadd k92_43 ?_
    refine sx_iconst (v := 5) k92_44 (by decide) ?_
    refine sx_iload k92_45 rfl ?_
    refine sx_imul k92_47 ?_
    refine sx_iadd k92_48 ?_
    refine cx_nm h (fun x2 h => ?_)
    refine cx_istore (lo2 := [(7, .int x2), (0, .ref 12), (1, .ref p1), (2, .int v2), (3, .int v3), (4, .int v4), (5, .int v5), (6, .int v6)]) k92_49 (by rw [mx_92]; decide) rfl ?_
    refine sx_iload k92_51 rfl ?_
    refine sx_iconst (v := 5) k92_53 (by decide) ?_
    refine sx_iadd k92_54 ?_
    refine sx_iload_n (i := 3) k92_55 rfl rfl ?_
    by_cases hb3 : (x2 + (5 : Int32)) ≤ v3
    · rw [if_pos hb3] at h
      refine sx_icmp_le (tgt := 60) k92_56 (by decide) (fun _ => ?_) (fun q => absurd hb3 q)
      refine sx_aload_n (i := 0) k92_60 rfl rfl ?_
      refine sx_aload_n (i := 1) k92_61 rfl rfl ?_
      refine sx_iload k92_62 rfl ?_
      obtain ⟨r4, e5, h⟩ := Option.bind_eq_some_iff.mp h
      refine cx_V (sk := [.ref 12]) (vs := [.int x2]) st_92_75 k92_64 ow_92 cl_3_113 (by decide) rfl (Nat.le_of_ble_eq_true rfl) h1 (ok75 p1 x2 h1 _ _ e5) (sk3 := [.int r4.2, .ref 12]) rfl rfl ?_
      refine sx_aload_n (i := 1) k92_67 rfl rfl ?_
      refine sx_iload k92_68 rfl ?_
      refine sx_iconst (v := 1) k92_70 (by decide) ?_
      refine sx_iadd k92_71 ?_
      obtain ⟨r6, e7, h⟩ := Option.bind_eq_some_iff.mp h
      refine cx_V (sk := [.int r4.2, .ref 12]) (vs := [.int (x2 + (1 : Int32))]) st_92_77 k92_72 ow_92 cl_3_130 (by decide) rfl (Nat.le_of_ble_eq_true rfl) h1 (ok77 p1 (x2 + (1 : Int32)) h1 _ _ e7) (sk3 := [.int r6.2, .int r4.2, .ref 12]) rfl rfl ?_
      refine sx_iload k92_75 rfl ?_
      obtain ⟨r8, e9, h⟩ := Option.bind_eq_some_iff.mp h
      refine cx_V (sk := []) (vs := [.int r4.2, .int r6.2, .int v5]) st_92_93 k92_77 ow_92 cl_3_133 (by decide) rfl (Nat.le_of_ble_eq_true rfl) sk_12 (ok93 r4.2 r6.2 v5 _ _ e9) (sk3 := []) rfl rfl ?_
      refine cx_iinc (c := 1) (lo2 := fun x10 => [(6, .int x10), (7, .int x2), (0, .ref 12), (1, .ref p1), (2, .int v2), (3, .int v3), (4, .int v4), (5, .int v5)]) k92_80 rfl (by decide) (by rw [mx_92]; decide) (fun _ => rfl) h (fun x10 h => ?_)
      refine sx_goto (tgt := 34) k92_83 (by decide) ?_
      refine sx_pick (lo2 := [(0, .ref 12), (1, .ref p1), (2, .int v2), (3, .int v3), (4, .int v4), (5, .int v5), (6, .int x10)]) [2, 3, 4, 5, 6, 7, 0] rfl ?_
      exact hk34 v2 v3 v4 v5 x10 _ _ h
    · rw [if_neg hb3] at h
      refine sx_icmp_le (tgt := 60) k92_56 (by decide) (fun q => absurd q hb3) (fun _ => ?_)
      exact cx_retv k92_59 rt_92 h
def l92_34 (p1 : Nat) : Nat → Int32 × Int32 × Int32 × Int32 × Int32 × Mem → Option (Mem) :=
  fixN (fun self x => b92_34 p1 (fun v2 v3 v4 v5 v6 μ => self (v2, v3, v4, v5, v6, μ)) (x.1) (x.2.1) (x.2.2.1) (x.2.2.2.1) (x.2.2.2.2.1) (x.2.2.2.2.2))
theorem l92_34_ok {L : Nat} (p1 : Nat) (h1 : SK0 p1 = (0, 1)) (n : Nat) (v2 : Int32) (v3 : Int32) (v4 : Int32) (v5 : Int32) (v6 : Int32) (μ : Mem) (res : Mem) (h : l92_34 p1 n (v2, v3, v4, v5, v6, μ) = some res) : Sx 92 34 [(0, .ref 12), (1, .ref p1), (2, .int v2), (3, .int v3), (4, .int v4), (5, .int v5), (6, .int v6)] [] 0 0 (mk L μ) (mk L res, none) := by
  have key := fixN_ind (P := fun x res => Sx 92 34 [(0, .ref 12), (1, .ref p1), (2, .int (x.1)), (3, .int (x.2.1)), (4, .int (x.2.2.1)), (5, .int (x.2.2.2.1)), (6, .int (x.2.2.2.2.1))] [] 0 0 (mk L (x.2.2.2.2.2)) (mk L res, none)) (F := fun self x => b92_34 p1 (fun v2 v3 v4 v5 v6 μ => self (v2, v3, v4, v5, v6, μ)) (x.1) (x.2.1) (x.2.2.1) (x.2.2.2.1) (x.2.2.2.2.1) (x.2.2.2.2.2)) (fun self hself x res h => b92_34_ok p1 h1 (fun v2 v3 v4 v5 v6 μ => self (v2, v3, v4, v5, v6, μ)) (fun v2 v3 v4 v5 v6 μ res hh => hself (v2, v3, v4, v5, v6, μ) res hh) (x.1) (x.2.1) (x.2.2.1) (x.2.2.2.1) (x.2.2.2.2.1) (x.2.2.2.2.2) res h) n (v2, v3, v4, v5, v6, μ) res h
  exact key
def c92_21 (p1 : Nat) (v2 : Int32) (v3 : Int32) (s0 : Int32) (μ : Mem) : Option (Mem) :=
  (f77 p1 (9 : Int32) μ).bind fun r1 =>
  l92_34 p1 gF (v2, v3, s0, r1.2, (0 : Int32), r1.1)
theorem c92_21_ok {L : Nat} (p1 : Nat) (h1 : SK0 p1 = (0, 1)) (v2 : Int32) (v3 : Int32) (s0 : Int32) (μ : Mem) (res : Mem) (h : c92_21 p1 v2 v3 s0 μ = some res) : Sx 92 21 [(0, .ref 12), (1, .ref p1), (2, .int v2), (3, .int v3)] [.int s0] 0 0 (mk L μ) (mk L res, none) := by
  unfold c92_21 at h
  refine cx_istore (lo2 := [(4, .int s0), (0, .ref 12), (1, .ref p1), (2, .int v2), (3, .int v3)]) k92_21 (by rw [mx_92]; decide) rfl ?_
  refine sx_aload_n (i := 1) k92_23 rfl rfl ?_
  refine sx_bipush (v := 9) k92_24 (by decide) ?_
  obtain ⟨r1, e2, h⟩ := Option.bind_eq_some_iff.mp h
  refine cx_V (sk := []) (vs := [.int (9 : Int32)]) st_92_77 k92_26 ow_92 cl_3_130 (by decide) rfl (Nat.le_of_ble_eq_true rfl) h1 (ok77 p1 (9 : Int32) h1 _ _ e2) (sk3 := [.int r1.2]) rfl rfl ?_
  refine cx_istore (lo2 := [(5, .int r1.2), (4, .int s0), (0, .ref 12), (1, .ref p1), (2, .int v2), (3, .int v3)]) k92_29 (by rw [mx_92]; decide) rfl ?_
  refine sx_iconst (v := 0) k92_31 (by decide) ?_
  refine cx_istore (lo2 := [(6, .int (0 : Int32)), (5, .int r1.2), (4, .int s0), (0, .ref 12), (1, .ref p1), (2, .int v2), (3, .int v3)]) k92_32 (by rw [mx_92]; decide) rfl ?_
  refine sx_pick (lo2 := [(0, .ref 12), (1, .ref p1), (2, .int v2), (3, .int v3), (4, .int s0), (5, .int r1.2), (6, .int (0 : Int32))]) [3, 4, 5, 6, 2, 1, 0] rfl ?_
  exact l92_34_ok p1 h1 gF v2 v3 s0 r1.2 (0 : Int32) _ _ h
/-- Ground.showValues(LCraftHouse$Bytes;I)V -/
def f92 (p1 : Nat) (p2 : Int32) (μ : Mem) : Option (Mem) :=
  nm ((μ.1 p1 1) - (2 : Int32)) fun x1 =>
  if x1 ≤ p2 then
    c92_21 p1 p2 x1 (0 : Int32) μ
  else
    (f75 p1 p2 μ).bind fun r3 =>
    c92_21 p1 p2 x1 r3.2 r3.1
theorem ok92 {L : Nat} (p1 : Nat) (p2 : Int32) (h1 : SK0 p1 = (0, 1)) (μ : Mem) (res : Mem) (h : f92 p1 p2 μ = some res) : Mx 92 [.ref 12, .ref p1, .int p2] (mk L μ) (mk L res, none) := by
  refine Mx_of ml_92 (by rw [mx_92]; exact Nat.le_of_ble_eq_true rfl) ?_
  show Sx 92 0 [(0, .ref 12), (1, .ref p1), (2, .int p2)] [] 0 0 (mk L μ) _
  unfold f92 at h
  refine sx_aload_n (i := 1) k92_0 rfl rfl ?_
  refine cx_getI (k := 1) k92_1 ow_92 fl_3_66 (by decide) h1 ft_1_1 ?_
  refine sx_iconst (v := 2) k92_4 (by decide) ?_
  refine sx_isub k92_5 ?_
  refine cx_nm h (fun x1 h => ?_)
  refine cx_istore_n (lo2 := [(3, .int x1), (0, .ref 12), (1, .ref p1), (2, .int p2)]) k92_6 rfl (by rw [mx_92]; decide) rfl ?_
  refine sx_iload_n (i := 2) k92_7 rfl rfl ?_
  refine sx_iload_n (i := 3) k92_8 rfl rfl ?_
  by_cases hb2 : x1 ≤ p2
  · rw [if_pos hb2] at h
    refine sx_icmp_ge (tgt := 20) k92_9 (by decide) (fun _ => ?_) (fun q => absurd hb2 q)
    refine sx_iconst (v := 0) k92_20 (by decide) ?_
    refine sx_pick (lo2 := [(0, .ref 12), (1, .ref p1), (2, .int p2), (3, .int x1)]) [1, 2, 3, 0] rfl ?_
    exact c92_21_ok p1 h1 p2 x1 (0 : Int32) _ _ h
  · rw [if_neg hb2] at h
    refine sx_icmp_ge (tgt := 20) k92_9 (by decide) (fun q => absurd q hb2) (fun _ => ?_)
    refine sx_aload_n (i := 1) k92_12 rfl rfl ?_
    refine sx_iload_n (i := 2) k92_13 rfl rfl ?_
    obtain ⟨r3, e4, h⟩ := Option.bind_eq_some_iff.mp h
    refine cx_V (sk := []) (vs := [.int p2]) st_92_75 k92_14 ow_92 cl_3_113 (by decide) rfl (Nat.le_of_ble_eq_true rfl) h1 (ok75 p1 p2 h1 _ _ e4) (sk3 := [.int r3.2]) rfl rfl ?_
    refine sx_goto (tgt := 21) k92_17 (by decide) ?_
    refine sx_pick (lo2 := [(0, .ref 12), (1, .ref p1), (2, .int p2), (3, .int x1)]) [1, 2, 3, 0] rfl ?_
    exact c92_21_ok p1 h1 p2 x1 r3.2 _ _ h
theorem k94_0 : decode (gb 94) 0 = .ok (.aload_n 1, 1) := by decide +kernel
theorem k94_1 : decode (gb 94) 1 = .ok (.bipush 8, 2) := by decide +kernel
theorem k94_3 : decode (gb 94) 3 = .ok (.invokevirtual 113, 3) := by decide +kernel
theorem k94_6 : decode (gb 94) 6 = .ok (.istore_n 2, 1) := by decide +kernel
theorem k94_7 : decode (gb 94) 7 = .ok (.iload_n 2, 1) := by decide +kernel
theorem k94_8 : decode (gb 94) 8 = .ok (.getstatic 137, 3) := by decide +kernel
theorem k94_11 : decode (gb 94) 11 = .ok (.arraylength, 1) := by decide +kernel
theorem k94_12 : decode (gb 94) 12 = .ok (.if_icmp .ge 11, 3) := by decide +kernel
theorem k94_15 : decode (gb 94) 15 = .ok (.getstatic 137, 3) := by decide +kernel
theorem k94_18 : decode (gb 94) 18 = .ok (.iload_n 2, 1) := by decide +kernel
theorem k94_19 : decode (gb 94) 19 = .ok (.iaload, 1) := by decide +kernel
theorem k94_20 : decode (gb 94) 20 = .ok (.goto 4, 3) := by decide +kernel
theorem k94_23 : decode (gb 94) 23 = .ok (.iconst (-1), 1) := by decide +kernel
theorem k94_24 : decode (gb 94) 24 = .ok (.istore_n 3, 1) := by decide +kernel
theorem k94_25 : decode (gb 94) 25 = .ok (.iload_n 3, 1) := by decide +kernel
theorem k94_26 : decode (gb 94) 26 = .ok (.ifCond .lt 13, 3) := by decide +kernel
theorem k94_29 : decode (gb 94) 29 = .ok (.iload_n 3, 1) := by decide +kernel
theorem k94_30 : decode (gb 94) 30 = .ok (.iconst 1, 1) := by decide +kernel
theorem k94_31 : decode (gb 94) 31 = .ok (.iand, 1) := by decide +kernel
theorem k94_32 : decode (gb 94) 32 = .ok (.ifCond .ne 7, 3) := by decide +kernel
theorem k94_35 : decode (gb 94) 35 = .ok (.iconst 1, 1) := by decide +kernel
theorem k94_36 : decode (gb 94) 36 = .ok (.goto 4, 3) := by decide +kernel
theorem k94_39 : decode (gb 94) 39 = .ok (.iconst 0, 1) := by decide +kernel
theorem k94_40 : decode (gb 94) 40 = .ok (.istore 4, 2) := by decide +kernel
theorem k94_42 : decode (gb 94) 42 = .ok (.iload_n 3, 1) := by decide +kernel
theorem k94_43 : decode (gb 94) 43 = .ok (.ifCond .lt 25, 3) := by decide +kernel
theorem k94_46 : decode (gb 94) 46 = .ok (.aload_n 1, 1) := by decide +kernel
theorem k94_47 : decode (gb 94) 47 = .ok (.getfield 66, 3) := by decide +kernel
theorem k94_50 : decode (gb 94) 50 = .ok (.iconst 2, 1) := by decide +kernel
theorem k94_51 : decode (gb 94) 51 = .ok (.isub, 1) := by decide +kernel
theorem k94_52 : decode (gb 94) 52 = .ok (.bipush 13, 2) := by decide +kernel
theorem k94_54 : decode (gb 94) 54 = .ok (.isub, 1) := by decide +kernel
theorem k94_55 : decode (gb 94) 55 = .ok (.iload 4, 2) := by decide +kernel
theorem k94_57 : decode (gb 94) 57 = .ok (.ifCond .eq 7, 3) := by decide +kernel
theorem k94_60 : decode (gb 94) 60 = .ok (.iconst 3, 1) := by decide +kernel
theorem k94_61 : decode (gb 94) 61 = .ok (.goto 4, 3) := by decide +kernel
theorem k94_64 : decode (gb 94) 64 = .ok (.iconst 2, 1) := by decide +kernel
theorem k94_65 : decode (gb 94) 65 = .ok (.if_icmp .ge 4, 3) := by decide +kernel
theorem k94_68 : decode (gb 94) 68 = .ok (.return_, 1) := by decide +kernel
theorem k94_69 : decode (gb 94) 69 = .ok (.aload_n 0, 1) := by decide +kernel
theorem k94_70 : decode (gb 94) 70 = .ok (.getfield 52, 3) := by decide +kernel
theorem k94_73 : decode (gb 94) 73 = .ok (.iconst 1, 1) := by decide +kernel
theorem k94_74 : decode (gb 94) 74 = .ok (.isub, 1) := by decide +kernel
theorem k94_75 : decode (gb 94) 75 = .ok (.istore 5, 2) := by decide +kernel
theorem k94_77 : decode (gb 94) 77 = .ok (.iload 5, 2) := by decide +kernel
theorem k94_79 : decode (gb 94) 79 = .ok (.iload 5, 2) := by decide +kernel
theorem k94_81 : decode (gb 94) 81 = .ok (.aload_n 1, 1) := by decide +kernel
theorem k94_82 : decode (gb 94) 82 = .ok (.bipush 13, 2) := by decide +kernel
theorem k94_84 : decode (gb 94) 84 = .ok (.invokevirtual 82, 3) := by decide +kernel
theorem k94_87 : decode (gb 94) 87 = .ok (.isub, 1) := by decide +kernel
theorem k94_88 : decode (gb 94) 88 = .ok (.sipush 16383, 3) := by decide +kernel
theorem k94_91 : decode (gb 94) 91 = .ok (.iand, 1) := by decide +kernel
theorem k94_92 : decode (gb 94) 92 = .ok (.isub, 1) := by decide +kernel
theorem k94_93 : decode (gb 94) 93 = .ok (.istore 6, 2) := by decide +kernel
theorem k94_95 : decode (gb 94) 95 = .ok (.aload_n 0, 1) := by decide +kernel
theorem k94_96 : decode (gb 94) 96 = .ok (.iload 6, 2) := by decide +kernel
theorem k94_98 : decode (gb 94) 98 = .ok (.invokevirtual 55, 3) := by decide +kernel
theorem k94_101 : decode (gb 94) 101 = .ok (.ifCond .eq 39, 3) := by decide +kernel
theorem k94_104 : decode (gb 94) 104 = .ok (.aload_n 0, 1) := by decide +kernel
theorem k94_105 : decode (gb 94) 105 = .ok (.getfield 39, 3) := by decide +kernel
theorem k94_108 : decode (gb 94) 108 = .ok (.iload 6, 2) := by decide +kernel
theorem k94_110 : decode (gb 94) 110 = .ok (.bipush 63, 2) := by decide +kernel
theorem k94_112 : decode (gb 94) 112 = .ok (.iand, 1) := by decide +kernel
theorem k94_113 : decode (gb 94) 113 = .ok (.iload_n 3, 1) := by decide +kernel
theorem k94_114 : decode (gb 94) 114 = .ok (.iastore, 1) := by decide +kernel
theorem k94_115 : decode (gb 94) 115 = .ok (.aload_n 0, 1) := by decide +kernel
theorem k94_116 : decode (gb 94) 116 = .ok (.getfield 42, 3) := by decide +kernel
theorem k94_119 : decode (gb 94) 119 = .ok (.iload 6, 2) := by decide +kernel
theorem k94_121 : decode (gb 94) 121 = .ok (.bipush 63, 2) := by decide +kernel
theorem k94_123 : decode (gb 94) 123 = .ok (.iand, 1) := by decide +kernel
theorem k94_124 : decode (gb 94) 124 = .ok (.iload 4, 2) := by decide +kernel
theorem k94_126 : decode (gb 94) 126 = .ok (.ifCond .eq 12, 3) := by decide +kernel
theorem k94_129 : decode (gb 94) 129 = .ok (.aload_n 1, 1) := by decide +kernel
theorem k94_130 : decode (gb 94) 130 = .ok (.bipush 15, 2) := by decide +kernel
theorem k94_132 : decode (gb 94) 132 = .ok (.invokevirtual 113, 3) := by decide +kernel
theorem k94_135 : decode (gb 94) 135 = .ok (.goto 4, 3) := by decide +kernel
theorem k94_138 : decode (gb 94) 138 = .ok (.iconst 0, 1) := by decide +kernel
theorem k94_139 : decode (gb 94) 139 = .ok (.iastore, 1) := by decide +kernel
theorem k94_140 : decode (gb 94) 140 = .ok (.return_, 1) := by decide +kernel
def c94_139 (p1 : Nat) (s1 : Int32) (s2 : Int32) (μ : Mem) : Option (Mem) :=
  (stA 25 s1 s2 μ).bind fun m1 =>
  some m1
theorem c94_139_ok {L : Nat} (p1 : Nat) (h1 : SK0 p1 = (0, 1)) (s1 : Int32) (s2 : Int32) (μ : Mem) (res : Mem) (h : c94_139 p1 s1 s2 μ = some res) : Sx 94 139 [] [.int s2, .int s1, .ref 25] 0 0 (mk L μ) (mk L res, none) := by
  unfold c94_139 at h
  obtain ⟨m1, e2, h⟩ := Option.bind_eq_some_iff.mp h
  refine cx_iast k94_139 sk_25 e2 ?_
  exact cx_retv k94_140 rt_94 h
def c94_65 (p1 : Nat) (v3 : Int32) (v4 : Int32) (s0 : Int32) (s1 : Int32) (μ : Mem) : Option (Mem) :=
  if s1 ≤ s0 then
    nm ((μ.1 12 8) - (1 : Int32)) fun x2 =>
    (f76 p1 (13 : Int32) μ).bind fun r3 =>
    nm (x2 - ((x2 - r3.2) &&& (16383 : Int32))) fun x5 =>
    (f80 x5 r3.1).bind fun r6 =>
    if r6.2 = 0 then
      some r6.1
    else
      (stA 24 (x5 &&& (63 : Int32)) v3 r6.1).bind fun m9 =>
      if v4 = 0 then
        c94_139 p1 (x5 &&& (63 : Int32)) (0 : Int32) m9
      else
        (f75 p1 (15 : Int32) m9).bind fun r12 =>
        c94_139 p1 (x5 &&& (63 : Int32)) r12.2 r12.1
  else
    some μ
theorem c94_65_ok {L : Nat} (p1 : Nat) (h1 : SK0 p1 = (0, 1)) (v3 : Int32) (v4 : Int32) (s0 : Int32) (s1 : Int32) (μ : Mem) (res : Mem) (h : c94_65 p1 v3 v4 s0 s1 μ = some res) : Sx 94 65 [(0, .ref 12), (1, .ref p1), (3, .int v3), (4, .int v4)] [.int s1, .int s0] 0 0 (mk L μ) (mk L res, none) := by
  unfold c94_65 at h
  by_cases hb1 : s1 ≤ s0
  · rw [if_pos hb1] at h
    refine sx_icmp_ge (tgt := 69) k94_65 (by decide) (fun _ => ?_) (fun q => absurd hb1 q)
    refine sx_aload_n (i := 0) k94_69 rfl rfl ?_
    refine cx_getI (k := 8) k94_70 ow_94 fl_3_52 (by decide) sk_12 ft_2_8 ?_
    refine sx_iconst (v := 1) k94_73 (by decide) ?_
    refine sx_isub k94_74 ?_
    refine cx_nm h (fun x2 h => ?_)
    refine cx_istore (lo2 := [(5, .int x2), (0, .ref 12), (1, .ref p1), (3, .int v3), (4, .int v4)]) k94_75 (by rw [mx_94]; decide) rfl ?_
    refine sx_iload k94_77 rfl ?_
    refine sx_iload k94_79 rfl ?_
    refine sx_aload_n (i := 1) k94_81 rfl rfl ?_
    refine sx_bipush (v := 13) k94_82 (by decide) ?_
    obtain ⟨r3, e4, h⟩ := Option.bind_eq_some_iff.mp h
    refine cx_V (sk := [.int x2, .int x2]) (vs := [.int (13 : Int32)]) st_94_76 k94_84 ow_94 cl_3_82 (by decide) rfl (Nat.le_of_ble_eq_true rfl) h1 (ok76 p1 (13 : Int32) h1 _ _ e4) (sk3 := [.int r3.2, .int x2, .int x2]) rfl rfl ?_
    refine sx_isub k94_87 ?_
    refine sx_sipush (v := 16383) k94_88 (by decide) ?_
    refine sx_iand k94_91 ?_
    refine sx_isub k94_92 ?_
    refine cx_nm h (fun x5 h => ?_)
    refine cx_istore (lo2 := [(6, .int x5), (5, .int x2), (0, .ref 12), (1, .ref p1), (3, .int v3), (4, .int v4)]) k94_93 (by rw [mx_94]; decide) rfl ?_
    refine sx_aload_n (i := 0) k94_95 rfl rfl ?_
    refine sx_iload k94_96 rfl ?_
    obtain ⟨r6, e7, h⟩ := Option.bind_eq_some_iff.mp h
    refine cx_V (sk := []) (vs := [.int x5]) st_94_80 k94_98 ow_94 cl_3_55 (by decide) rfl (Nat.le_of_ble_eq_true rfl) sk_12 (ok80 x5 _ _ e7) (sk3 := [.int r6.2]) rfl rfl ?_
    by_cases hb8 : r6.2 = 0
    · rw [if_pos hb8] at h
      refine sx_if_eq (tgt := 140) k94_101 (by decide) (fun _ => ?_) (fun q => absurd hb8 q)
      exact cx_retv k94_140 rt_94 h
    · rw [if_neg hb8] at h
      refine sx_if_eq (tgt := 140) k94_101 (by decide) (fun q => absurd q hb8) (fun _ => ?_)
      refine sx_aload_n (i := 0) k94_104 rfl rfl ?_
      refine cx_getR (k := 5) k94_105 ow_94 fl_3_39 (by decide) sk_12 ft_2_5 sr_12_5 ?_
      refine sx_iload k94_108 rfl ?_
      refine sx_bipush (v := 63) k94_110 (by decide) ?_
      refine sx_iand k94_112 ?_
      refine sx_iload_n (i := 3) k94_113 rfl rfl ?_
      obtain ⟨m9, e10, h⟩ := Option.bind_eq_some_iff.mp h
      refine cx_iast k94_114 sk_24 e10 ?_
      refine sx_aload_n (i := 0) k94_115 rfl rfl ?_
      refine cx_getR (k := 6) k94_116 ow_94 fl_3_42 (by decide) sk_12 ft_2_6 sr_12_6 ?_
      refine sx_iload k94_119 rfl ?_
      refine sx_bipush (v := 63) k94_121 (by decide) ?_
      refine sx_iand k94_123 ?_
      refine sx_iload k94_124 rfl ?_
      by_cases hb11 : v4 = 0
      · rw [if_pos hb11] at h
        refine sx_if_eq (tgt := 138) k94_126 (by decide) (fun _ => ?_) (fun q => absurd hb11 q)
        refine sx_iconst (v := 0) k94_138 (by decide) ?_
        refine sx_pick (lo2 := []) [] rfl ?_
        exact c94_139_ok p1 h1 (x5 &&& (63 : Int32)) (0 : Int32) _ _ h
      · rw [if_neg hb11] at h
        refine sx_if_eq (tgt := 138) k94_126 (by decide) (fun q => absurd q hb11) (fun _ => ?_)
        refine sx_aload_n (i := 1) k94_129 rfl rfl ?_
        refine sx_bipush (v := 15) k94_130 (by decide) ?_
        obtain ⟨r12, e13, h⟩ := Option.bind_eq_some_iff.mp h
        refine cx_V (sk := [.int (x5 &&& (63 : Int32)), .ref 25]) (vs := [.int (15 : Int32)]) st_94_75 k94_132 ow_94 cl_3_113 (by decide) rfl (Nat.le_of_ble_eq_true rfl) h1 (ok75 p1 (15 : Int32) h1 _ _ e13) (sk3 := [.int r12.2, .int (x5 &&& (63 : Int32)), .ref 25]) rfl rfl ?_
        refine sx_goto (tgt := 139) k94_135 (by decide) ?_
        refine sx_pick (lo2 := []) [] rfl ?_
        exact c94_139_ok p1 h1 (x5 &&& (63 : Int32)) r12.2 _ _ h
  · rw [if_neg hb1] at h
    refine sx_icmp_ge (tgt := 69) k94_65 (by decide) (fun q => absurd q hb1) (fun _ => ?_)
    exact cx_retv k94_68 rt_94 h
def c94_40 (p1 : Nat) (v3 : Int32) (s0 : Int32) (μ : Mem) : Option (Mem) :=
  if v3 < 0 then
    some μ
  else
    if s0 = 0 then
      c94_65 p1 v3 s0 (((μ.1 p1 1) - (2 : Int32)) - (13 : Int32)) (2 : Int32) μ
    else
      c94_65 p1 v3 s0 (((μ.1 p1 1) - (2 : Int32)) - (13 : Int32)) (3 : Int32) μ
theorem c94_40_ok {L : Nat} (p1 : Nat) (h1 : SK0 p1 = (0, 1)) (v3 : Int32) (s0 : Int32) (μ : Mem) (res : Mem) (h : c94_40 p1 v3 s0 μ = some res) : Sx 94 40 [(0, .ref 12), (1, .ref p1), (3, .int v3)] [.int s0] 0 0 (mk L μ) (mk L res, none) := by
  unfold c94_40 at h
  refine cx_istore (lo2 := [(4, .int s0), (0, .ref 12), (1, .ref p1), (3, .int v3)]) k94_40 (by rw [mx_94]; decide) rfl ?_
  refine sx_iload_n (i := 3) k94_42 rfl rfl ?_
  by_cases hb1 : v3 < 0
  · rw [if_pos hb1] at h
    refine sx_if_lt (tgt := 68) k94_43 (by decide) (fun _ => ?_) (fun q => absurd hb1 q)
    exact cx_retv k94_68 rt_94 h
  · rw [if_neg hb1] at h
    refine sx_if_lt (tgt := 68) k94_43 (by decide) (fun q => absurd q hb1) (fun _ => ?_)
    refine sx_aload_n (i := 1) k94_46 rfl rfl ?_
    refine cx_getI (k := 1) k94_47 ow_94 fl_3_66 (by decide) h1 ft_1_1 ?_
    refine sx_iconst (v := 2) k94_50 (by decide) ?_
    refine sx_isub k94_51 ?_
    refine sx_bipush (v := 13) k94_52 (by decide) ?_
    refine sx_isub k94_54 ?_
    refine sx_iload k94_55 rfl ?_
    by_cases hb2 : s0 = 0
    · rw [if_pos hb2] at h
      refine sx_if_eq (tgt := 64) k94_57 (by decide) (fun _ => ?_) (fun q => absurd hb2 q)
      refine sx_iconst (v := 2) k94_64 (by decide) ?_
      refine sx_pick (lo2 := [(0, .ref 12), (1, .ref p1), (3, .int v3), (4, .int s0)]) [1, 2, 3, 0] rfl ?_
      exact c94_65_ok p1 h1 v3 s0 (((μ.1 p1 1) - (2 : Int32)) - (13 : Int32)) (2 : Int32) _ _ h
    · rw [if_neg hb2] at h
      refine sx_if_eq (tgt := 64) k94_57 (by decide) (fun q => absurd q hb2) (fun _ => ?_)
      refine sx_iconst (v := 3) k94_60 (by decide) ?_
      refine sx_goto (tgt := 65) k94_61 (by decide) ?_
      refine sx_pick (lo2 := [(0, .ref 12), (1, .ref p1), (3, .int v3), (4, .int s0)]) [1, 2, 3, 0] rfl ?_
      exact c94_65_ok p1 h1 v3 s0 (((μ.1 p1 1) - (2 : Int32)) - (13 : Int32)) (3 : Int32) _ _ h
def c94_39 (p1 : Nat) (v3 : Int32) (μ : Mem) : Option (Mem) :=
  c94_40 p1 v3 (0 : Int32) μ
theorem c94_39_ok {L : Nat} (p1 : Nat) (h1 : SK0 p1 = (0, 1)) (v3 : Int32) (μ : Mem) (res : Mem) (h : c94_39 p1 v3 μ = some res) : Sx 94 39 [(0, .ref 12), (1, .ref p1), (3, .int v3)] [] 0 0 (mk L μ) (mk L res, none) := by
  unfold c94_39 at h
  refine sx_iconst (v := 0) k94_39 (by decide) ?_
  refine sx_pick (lo2 := [(0, .ref 12), (1, .ref p1), (3, .int v3)]) [0, 1, 2] rfl ?_
  exact c94_40_ok p1 h1 v3 (0 : Int32) _ _ h
def c94_24 (p1 : Nat) (s0 : Int32) (μ : Mem) : Option (Mem) :=
  if s0 < 0 then
    c94_39 p1 s0 μ
  else
    if (s0 &&& (1 : Int32)) = 0 then
      c94_40 p1 s0 (1 : Int32) μ
    else
      c94_39 p1 s0 μ
theorem c94_24_ok {L : Nat} (p1 : Nat) (h1 : SK0 p1 = (0, 1)) (s0 : Int32) (μ : Mem) (res : Mem) (h : c94_24 p1 s0 μ = some res) : Sx 94 24 [(0, .ref 12), (1, .ref p1)] [.int s0] 0 0 (mk L μ) (mk L res, none) := by
  unfold c94_24 at h
  refine cx_istore_n (lo2 := [(3, .int s0), (0, .ref 12), (1, .ref p1)]) k94_24 rfl (by rw [mx_94]; decide) rfl ?_
  refine sx_iload_n (i := 3) k94_25 rfl rfl ?_
  by_cases hb1 : s0 < 0
  · rw [if_pos hb1] at h
    refine sx_if_lt (tgt := 39) k94_26 (by decide) (fun _ => ?_) (fun q => absurd hb1 q)
    refine sx_pick (lo2 := [(0, .ref 12), (1, .ref p1), (3, .int s0)]) [1, 2, 0] rfl ?_
    exact c94_39_ok p1 h1 s0 _ _ h
  · rw [if_neg hb1] at h
    refine sx_if_lt (tgt := 39) k94_26 (by decide) (fun q => absurd q hb1) (fun _ => ?_)
    refine sx_iload_n (i := 3) k94_29 rfl rfl ?_
    refine sx_iconst (v := 1) k94_30 (by decide) ?_
    refine sx_iand k94_31 ?_
    by_cases hb2 : (s0 &&& (1 : Int32)) = 0
    · rw [if_pos hb2] at h
      refine sx_if_ne (tgt := 39) k94_32 (by decide) (fun q => absurd hb2 q) (fun _ => ?_)
      refine sx_iconst (v := 1) k94_35 (by decide) ?_
      refine sx_goto (tgt := 40) k94_36 (by decide) ?_
      refine sx_pick (lo2 := [(0, .ref 12), (1, .ref p1), (3, .int s0)]) [1, 2, 0] rfl ?_
      exact c94_40_ok p1 h1 s0 (1 : Int32) _ _ h
    · rw [if_neg hb2] at h
      refine sx_if_ne (tgt := 39) k94_32 (by decide) (fun _ => ?_) (fun q => absurd q hb2)
      refine sx_pick (lo2 := [(0, .ref 12), (1, .ref p1), (3, .int s0)]) [1, 2, 0] rfl ?_
      exact c94_39_ok p1 h1 s0 _ _ h
/-- Ground.learn(LCraftHouse$Bytes;)V -/
def f94 (p1 : Nat) (μ : Mem) : Option (Mem) :=
  (f75 p1 (8 : Int32) μ).bind fun r1 =>
  if (nI (gln 100001)) ≤ r1.2 then
    c94_24 p1 (-1 : Int32) r1.1
  else
    (ldA 100001 r1.2 r1.1).bind fun x4 =>
    c94_24 p1 x4 r1.1
theorem ok94 {L : Nat} (p1 : Nat) (h1 : SK0 p1 = (0, 1)) (μ : Mem) (res : Mem) (h : f94 p1 μ = some res) : Mx 94 [.ref 12, .ref p1] (mk L μ) (mk L res, none) := by
  refine Mx_of ml_94 (by rw [mx_94]; exact Nat.le_of_ble_eq_true rfl) ?_
  show Sx 94 0 [(0, .ref 12), (1, .ref p1)] [] 0 0 (mk L μ) _
  unfold f94 at h
  refine sx_aload_n (i := 1) k94_0 rfl rfl ?_
  refine sx_bipush (v := 8) k94_1 (by decide) ?_
  obtain ⟨r1, e2, h⟩ := Option.bind_eq_some_iff.mp h
  refine cx_V (sk := []) (vs := [.int (8 : Int32)]) st_94_75 k94_3 ow_94 cl_3_113 (by decide) rfl (Nat.le_of_ble_eq_true rfl) h1 (ok75 p1 (8 : Int32) h1 _ _ e2) (sk3 := [.int r1.2]) rfl rfl ?_
  refine cx_istore_n (lo2 := [(2, .int r1.2), (0, .ref 12), (1, .ref p1)]) k94_6 rfl (by rw [mx_94]; decide) rfl ?_
  refine sx_iload_n (i := 2) k94_7 rfl rfl ?_
  refine cx_gets (j := 1) k94_8 ow_94 sl_3_137 (by decide) ?_
  refine cx_alenT k94_11 (by decide) ?_
  by_cases hb3 : (nI (gln 100001)) ≤ r1.2
  · rw [if_pos hb3] at h
    refine sx_icmp_ge (tgt := 23) k94_12 (by decide) (fun _ => ?_) (fun q => absurd hb3 q)
    refine sx_iconst (v := -1) k94_23 (by decide) ?_
    refine sx_pick (lo2 := [(0, .ref 12), (1, .ref p1)]) [1, 2] rfl ?_
    exact c94_24_ok p1 h1 (-1 : Int32) _ _ h
  · rw [if_neg hb3] at h
    refine sx_icmp_ge (tgt := 23) k94_12 (by decide) (fun q => absurd q hb3) (fun _ => ?_)
    refine cx_gets (j := 1) k94_15 ow_94 sl_3_137 (by decide) ?_
    refine sx_iload_n (i := 2) k94_18 rfl rfl ?_
    obtain ⟨x4, e5, h⟩ := Option.bind_eq_some_iff.mp h
    refine cx_tald k94_19 (by decide) e5 ?_
    refine sx_goto (tgt := 24) k94_20 (by decide) ?_
    refine sx_pick (lo2 := [(0, .ref 12), (1, .ref p1)]) [1, 2] rfl ?_
    exact c94_24_ok p1 h1 x4 _ _ h
theorem k91_0 : decode (gb 91) 0 = .ok (.aload_n 1, 1) := by decide +kernel
theorem k91_1 : decode (gb 91) 1 = .ok (.bipush 7, 2) := by decide +kernel
theorem k91_3 : decode (gb 91) 3 = .ok (.invokevirtual 82, 3) := by decide +kernel
theorem k91_6 : decode (gb 91) 6 = .ok (.istore_n 2, 1) := by decide +kernel
theorem k91_7 : decode (gb 91) 7 = .ok (.iload_n 2, 1) := by decide +kernel
theorem k91_8 : decode (gb 91) 8 = .ok (.sipush 5122, 3) := by decide +kernel
theorem k91_11 : decode (gb 91) 11 = .ok (.if_icmp .ne 13, 3) := by decide +kernel
theorem k91_14 : decode (gb 91) 14 = .ok (.aload_n 0, 1) := by decide +kernel
theorem k91_15 : decode (gb 91) 15 = .ok (.aload_n 1, 1) := by decide +kernel
theorem k91_16 : decode (gb 91) 16 = .ok (.bipush 13, 2) := by decide +kernel
theorem k91_18 : decode (gb 91) 18 = .ok (.invokevirtual 123, 3) := by decide +kernel
theorem k91_21 : decode (gb 91) 21 = .ok (.goto 35, 3) := by decide +kernel
theorem k91_24 : decode (gb 91) 24 = .ok (.iload_n 2, 1) := by decide +kernel
theorem k91_25 : decode (gb 91) 25 = .ok (.sipush 793, 3) := by decide +kernel
theorem k91_28 : decode (gb 91) 28 = .ok (.if_icmp .ne 13, 3) := by decide +kernel
theorem k91_31 : decode (gb 91) 31 = .ok (.aload_n 0, 1) := by decide +kernel
theorem k91_32 : decode (gb 91) 32 = .ok (.aload_n 1, 1) := by decide +kernel
theorem k91_33 : decode (gb 91) 33 = .ok (.bipush 14, 2) := by decide +kernel
theorem k91_35 : decode (gb 91) 35 = .ok (.invokevirtual 123, 3) := by decide +kernel
theorem k91_38 : decode (gb 91) 38 = .ok (.goto 18, 3) := by decide +kernel
theorem k91_41 : decode (gb 91) 41 = .ok (.aload_n 1, 1) := by decide +kernel
theorem k91_42 : decode (gb 91) 42 = .ok (.bipush 7, 2) := by decide +kernel
theorem k91_44 : decode (gb 91) 44 = .ok (.invokevirtual 113, 3) := by decide +kernel
theorem k91_47 : decode (gb 91) 47 = .ok (.iconst 1, 1) := by decide +kernel
theorem k91_48 : decode (gb 91) 48 = .ok (.if_icmp .ne 8, 3) := by decide +kernel
theorem k91_51 : decode (gb 91) 51 = .ok (.aload_n 0, 1) := by decide +kernel
theorem k91_52 : decode (gb 91) 52 = .ok (.aload_n 1, 1) := by decide +kernel
theorem k91_53 : decode (gb 91) 53 = .ok (.invokevirtual 127, 3) := by decide +kernel
theorem k91_56 : decode (gb 91) 56 = .ok (.return_, 1) := by decide +kernel
/-- Ground.showAll(LCraftHouse$Bytes;)V -/
def f91 (p1 : Nat) (μ : Mem) : Option (Mem) :=
  (f76 p1 (7 : Int32) μ).bind fun r1 =>
  if r1.2 = (5122 : Int32) then
    (f92 p1 (13 : Int32) r1.1).bind fun r12 =>
    some r12
  else
    if r1.2 = (793 : Int32) then
      (f92 p1 (14 : Int32) r1.1).bind fun r10 =>
      some r10
    else
      (f75 p1 (7 : Int32) r1.1).bind fun r5 =>
      if r5.2 = (1 : Int32) then
        (f94 p1 r5.1).bind fun r8 =>
        some r8
      else
        some r5.1
theorem ok91 {L : Nat} (p1 : Nat) (h1 : SK0 p1 = (0, 1)) (μ : Mem) (res : Mem) (h : f91 p1 μ = some res) : Mx 91 [.ref 12, .ref p1] (mk L μ) (mk L res, none) := by
  refine Mx_of ml_91 (by rw [mx_91]; exact Nat.le_of_ble_eq_true rfl) ?_
  show Sx 91 0 [(0, .ref 12), (1, .ref p1)] [] 0 0 (mk L μ) _
  unfold f91 at h
  refine sx_aload_n (i := 1) k91_0 rfl rfl ?_
  refine sx_bipush (v := 7) k91_1 (by decide) ?_
  obtain ⟨r1, e2, h⟩ := Option.bind_eq_some_iff.mp h
  refine cx_V (sk := []) (vs := [.int (7 : Int32)]) st_91_76 k91_3 ow_91 cl_3_82 (by decide) rfl (Nat.le_of_ble_eq_true rfl) h1 (ok76 p1 (7 : Int32) h1 _ _ e2) (sk3 := [.int r1.2]) rfl rfl ?_
  refine cx_istore_n (lo2 := [(2, .int r1.2), (0, .ref 12), (1, .ref p1)]) k91_6 rfl (by rw [mx_91]; decide) rfl ?_
  refine sx_iload_n (i := 2) k91_7 rfl rfl ?_
  refine sx_sipush (v := 5122) k91_8 (by decide) ?_
  by_cases hb3 : r1.2 = (5122 : Int32)
  · rw [if_pos hb3] at h
    refine sx_icmp_ne (tgt := 24) k91_11 (by decide) (fun q => absurd hb3 q) (fun _ => ?_)
    refine sx_aload_n (i := 0) k91_14 rfl rfl ?_
    refine sx_aload_n (i := 1) k91_15 rfl rfl ?_
    refine sx_bipush (v := 13) k91_16 (by decide) ?_
    obtain ⟨r12, e13, h⟩ := Option.bind_eq_some_iff.mp h
    refine cx_V (sk := []) (vs := [.ref p1, .int (13 : Int32)]) st_91_92 k91_18 ow_91 cl_3_123 (by decide) rfl (Nat.le_of_ble_eq_true rfl) sk_12 (ok92 p1 (13 : Int32) h1 _ _ e13) (sk3 := []) rfl rfl ?_
    refine sx_goto (tgt := 56) k91_21 (by decide) ?_
    exact cx_retv k91_56 rt_91 h
  · rw [if_neg hb3] at h
    refine sx_icmp_ne (tgt := 24) k91_11 (by decide) (fun _ => ?_) (fun q => absurd q hb3)
    refine sx_iload_n (i := 2) k91_24 rfl rfl ?_
    refine sx_sipush (v := 793) k91_25 (by decide) ?_
    by_cases hb4 : r1.2 = (793 : Int32)
    · rw [if_pos hb4] at h
      refine sx_icmp_ne (tgt := 41) k91_28 (by decide) (fun q => absurd hb4 q) (fun _ => ?_)
      refine sx_aload_n (i := 0) k91_31 rfl rfl ?_
      refine sx_aload_n (i := 1) k91_32 rfl rfl ?_
      refine sx_bipush (v := 14) k91_33 (by decide) ?_
      obtain ⟨r10, e11, h⟩ := Option.bind_eq_some_iff.mp h
      refine cx_V (sk := []) (vs := [.ref p1, .int (14 : Int32)]) st_91_92 k91_35 ow_91 cl_3_123 (by decide) rfl (Nat.le_of_ble_eq_true rfl) sk_12 (ok92 p1 (14 : Int32) h1 _ _ e11) (sk3 := []) rfl rfl ?_
      refine sx_goto (tgt := 56) k91_38 (by decide) ?_
      exact cx_retv k91_56 rt_91 h
    · rw [if_neg hb4] at h
      refine sx_icmp_ne (tgt := 41) k91_28 (by decide) (fun _ => ?_) (fun q => absurd q hb4)
      refine sx_aload_n (i := 1) k91_41 rfl rfl ?_
      refine sx_bipush (v := 7) k91_42 (by decide) ?_
      obtain ⟨r5, e6, h⟩ := Option.bind_eq_some_iff.mp h
      refine cx_V (sk := []) (vs := [.int (7 : Int32)]) st_91_75 k91_44 ow_91 cl_3_113 (by decide) rfl (Nat.le_of_ble_eq_true rfl) h1 (ok75 p1 (7 : Int32) h1 _ _ e6) (sk3 := [.int r5.2]) rfl rfl ?_
      refine sx_iconst (v := 1) k91_47 (by decide) ?_
      by_cases hb7 : r5.2 = (1 : Int32)
      · rw [if_pos hb7] at h
        refine sx_icmp_ne (tgt := 56) k91_48 (by decide) (fun q => absurd hb7 q) (fun _ => ?_)
        refine sx_aload_n (i := 0) k91_51 rfl rfl ?_
        refine sx_aload_n (i := 1) k91_52 rfl rfl ?_
        obtain ⟨r8, e9, h⟩ := Option.bind_eq_some_iff.mp h
        refine cx_V (sk := []) (vs := [.ref p1]) st_91_94 k91_53 ow_91 cl_3_127 (by decide) rfl (Nat.le_of_ble_eq_true rfl) sk_12 (ok94 p1 h1 _ _ e9) (sk3 := []) rfl rfl ?_
        exact cx_retv k91_56 rt_91 h
      · rw [if_neg hb7] at h
        refine sx_icmp_ne (tgt := 56) k91_48 (by decide) (fun _ => ?_) (fun q => absurd q hb7)
        exact cx_retv k91_56 rt_91 h
theorem k88_0 : decode (gb 88) 0 = .ok (.aload_n 1, 1) := by decide +kernel
theorem k88_1 : decode (gb 88) 1 = .ok (.iconst 0, 1) := by decide +kernel
theorem k88_2 : decode (gb 88) 2 = .ok (.invokevirtual 82, 3) := by decide +kernel
theorem k88_5 : decode (gb 88) 5 = .ok (.sipush 2047, 3) := by decide +kernel
theorem k88_8 : decode (gb 88) 8 = .ok (.if_icmp .ne 4, 3) := by decide +kernel
theorem k88_11 : decode (gb 88) 11 = .ok (.return_, 1) := by decide +kernel
theorem k88_12 : decode (gb 88) 12 = .ok (.aload_n 0, 1) := by decide +kernel
theorem k88_13 : decode (gb 88) 13 = .ok (.aload_n 1, 1) := by decide +kernel
theorem k88_14 : decode (gb 88) 14 = .ok (.invokevirtual 86, 3) := by decide +kernel
theorem k88_17 : decode (gb 88) 17 = .ok (.ifCond .ne 14, 3) := by decide +kernel
theorem k88_20 : decode (gb 88) 20 = .ok (.aload_n 0, 1) := by decide +kernel
theorem k88_21 : decode (gb 88) 21 = .ok (.dup, 1) := by decide +kernel
theorem k88_22 : decode (gb 88) 22 = .ok (.getfield 90, 3) := by decide +kernel
theorem k88_25 : decode (gb 88) 25 = .ok (.iconst 1, 1) := by decide +kernel
theorem k88_26 : decode (gb 88) 26 = .ok (.iadd, 1) := by decide +kernel
theorem k88_27 : decode (gb 88) 27 = .ok (.putfield 90, 3) := by decide +kernel
theorem k88_30 : decode (gb 88) 30 = .ok (.return_, 1) := by decide +kernel
theorem k88_31 : decode (gb 88) 31 = .ok (.aload_n 0, 1) := by decide +kernel
theorem k88_32 : decode (gb 88) 32 = .ok (.dup, 1) := by decide +kernel
theorem k88_33 : decode (gb 88) 33 = .ok (.getfield 93, 3) := by decide +kernel
theorem k88_36 : decode (gb 88) 36 = .ok (.iconst 1, 1) := by decide +kernel
theorem k88_37 : decode (gb 88) 37 = .ok (.iadd, 1) := by decide +kernel
theorem k88_38 : decode (gb 88) 38 = .ok (.putfield 93, 3) := by decide +kernel
theorem k88_41 : decode (gb 88) 41 = .ok (.aload_n 0, 1) := by decide +kernel
theorem k88_42 : decode (gb 88) 42 = .ok (.getfield 23, 3) := by decide +kernel
theorem k88_45 : decode (gb 88) 45 = .ok (.invokevirtual 96, 3) := by decide +kernel
theorem k88_48 : decode (gb 88) 48 = .ok (.ifCond .ne 11, 3) := by decide +kernel
theorem k88_51 : decode (gb 88) 51 = .ok (.aload_n 0, 1) := by decide +kernel
theorem k88_52 : decode (gb 88) 52 = .ok (.getfield 23, 3) := by decide +kernel
theorem k88_55 : decode (gb 88) 55 = .ok (.iconst 0, 1) := by decide +kernel
theorem k88_56 : decode (gb 88) 56 = .ok (.invokevirtual 100, 3) := by decide +kernel
theorem k88_59 : decode (gb 88) 59 = .ok (.aload_n 0, 1) := by decide +kernel
theorem k88_60 : decode (gb 88) 60 = .ok (.getfield 23, 3) := by decide +kernel
theorem k88_63 : decode (gb 88) 63 = .ok (.aload_n 1, 1) := by decide +kernel
theorem k88_64 : decode (gb 88) 64 = .ok (.iconst 0, 1) := by decide +kernel
theorem k88_65 : decode (gb 88) 65 = .ok (.aload_n 1, 1) := by decide +kernel
theorem k88_66 : decode (gb 88) 66 = .ok (.getfield 66, 3) := by decide +kernel
theorem k88_69 : decode (gb 88) 69 = .ok (.iload_n 2, 1) := by decide +kernel
theorem k88_70 : decode (gb 88) 70 = .ok (.iconst 0, 1) := by decide +kernel
theorem k88_71 : decode (gb 88) 71 = .ok (.invokevirtual 103, 3) := by decide +kernel
theorem k88_74 : decode (gb 88) 74 = .ok (.pop, 1) := by decide +kernel
theorem k88_75 : decode (gb 88) 75 = .ok (.iload_n 2, 1) := by decide +kernel
theorem k88_76 : decode (gb 88) 76 = .ok (.ifCond .ne 16, 3) := by decide +kernel
theorem k88_79 : decode (gb 88) 79 = .ok (.aload_n 0, 1) := by decide +kernel
theorem k88_80 : decode (gb 88) 80 = .ok (.aload_n 1, 1) := by decide +kernel
theorem k88_81 : decode (gb 88) 81 = .ok (.iconst 2, 1) := by decide +kernel
theorem k88_82 : decode (gb 88) 82 = .ok (.invokevirtual 82, 3) := by decide +kernel
theorem k88_85 : decode (gb 88) 85 = .ok (.sipush 16383, 3) := by decide +kernel
theorem k88_88 : decode (gb 88) 88 = .ok (.iand, 1) := by decide +kernel
theorem k88_89 : decode (gb 88) 89 = .ok (.invokevirtual 107, 3) := by decide +kernel
theorem k88_92 : decode (gb 88) 92 = .ok (.aload_n 0, 1) := by decide +kernel
theorem k88_93 : decode (gb 88) 93 = .ok (.aload_n 1, 1) := by decide +kernel
theorem k88_94 : decode (gb 88) 94 = .ok (.invokevirtual 110, 3) := by decide +kernel
theorem k88_97 : decode (gb 88) 97 = .ok (.return_, 1) := by decide +kernel
def c88_92 (p1 : Nat) (μ : Mem) : Option (Mem) :=
  (f91 p1 μ).bind fun r1 =>
  some r1
theorem c88_92_ok {L : Nat} (p1 : Nat) (h1 : SK0 p1 = (0, 1)) (μ : Mem) (res : Mem) (h : c88_92 p1 μ = some res) : Sx 88 92 [(0, .ref 12), (1, .ref p1)] [] 0 0 (mk L μ) (mk L res, none) := by
  unfold c88_92 at h
  refine sx_aload_n (i := 0) k88_92 rfl rfl ?_
  refine sx_aload_n (i := 1) k88_93 rfl rfl ?_
  obtain ⟨r1, e2, h⟩ := Option.bind_eq_some_iff.mp h
  refine cx_V (sk := []) (vs := [.ref p1]) st_88_91 k88_94 ow_88 cl_3_110 (by decide) rfl (Nat.le_of_ble_eq_true rfl) sk_12 (ok91 p1 h1 _ _ e2) (sk3 := []) rfl rfl ?_
  exact cx_retv k88_97 rt_88 h
def c88_59 (p1 : Nat) (v2 : Int32) (μ : Mem) : Option (Mem) :=
  (f161 15 p1 (0 : Int32) (μ.1 p1 1) v2 (0 : Int32) μ).bind fun r1 =>
  if v2 = 0 then
    (f76 p1 (2 : Int32) r1.1).bind fun r4 =>
    (f90 (r4.2 &&& (16383 : Int32)) r4.1).bind fun r6 =>
    c88_92 p1 r6
  else
    c88_92 p1 r1.1
theorem c88_59_ok {L : Nat} (p1 : Nat) (h1 : SK0 p1 = (0, 1)) (v2 : Int32) (μ : Mem) (res : Mem) (h : c88_59 p1 v2 μ = some res) : Sx 88 59 [(0, .ref 12), (1, .ref p1), (2, .int v2)] [] 0 0 (mk L μ) (mk L res, none) := by
  unfold c88_59 at h
  refine sx_aload_n (i := 0) k88_59 rfl rfl ?_
  refine cx_getR (k := 1) k88_60 ow_88 fl_3_23 (by decide) sk_12 ft_2_1 sr_12_1 ?_
  refine sx_aload_n (i := 1) k88_63 rfl rfl ?_
  refine sx_iconst (v := 0) k88_64 (by decide) ?_
  refine sx_aload_n (i := 1) k88_65 rfl rfl ?_
  refine cx_getI (k := 1) k88_66 ow_88 fl_3_66 (by decide) h1 ft_1_1 ?_
  refine sx_iload_n (i := 2) k88_69 rfl rfl ?_
  refine sx_iconst (v := 0) k88_70 (by decide) ?_
  obtain ⟨r1, e2, h⟩ := Option.bind_eq_some_iff.mp h
  refine cx_V (sk := []) (vs := [.ref p1, .int (0 : Int32), .int (μ.1 p1 1), .int v2, .int (0 : Int32)]) st_88_161 k88_71 ow_88 cl_3_103 (by decide) rfl (Nat.le_of_ble_eq_true rfl) sk_15 (ok161 15 p1 (0 : Int32) (μ.1 p1 1) v2 (0 : Int32) sk_15 h1 _ _ e2) (sk3 := [.int r1.2]) rfl rfl ?_
  refine sx_pop k88_74 rfl ?_
  refine sx_iload_n (i := 2) k88_75 rfl rfl ?_
  by_cases hb3 : v2 = 0
  · rw [if_pos hb3] at h
    refine sx_if_ne (tgt := 92) k88_76 (by decide) (fun q => absurd hb3 q) (fun _ => ?_)
    refine sx_aload_n (i := 0) k88_79 rfl rfl ?_
    refine sx_aload_n (i := 1) k88_80 rfl rfl ?_
    refine sx_iconst (v := 2) k88_81 (by decide) ?_
    obtain ⟨r4, e5, h⟩ := Option.bind_eq_some_iff.mp h
    refine cx_V (sk := [.ref 12]) (vs := [.int (2 : Int32)]) st_88_76 k88_82 ow_88 cl_3_82 (by decide) rfl (Nat.le_of_ble_eq_true rfl) h1 (ok76 p1 (2 : Int32) h1 _ _ e5) (sk3 := [.int r4.2, .ref 12]) rfl rfl ?_
    refine sx_sipush (v := 16383) k88_85 (by decide) ?_
    refine sx_iand k88_88 ?_
    obtain ⟨r6, e7, h⟩ := Option.bind_eq_some_iff.mp h
    refine cx_V (sk := []) (vs := [.int (r4.2 &&& (16383 : Int32))]) st_88_90 k88_89 ow_88 cl_3_107 (by decide) rfl (Nat.le_of_ble_eq_true rfl) sk_12 (ok90 (r4.2 &&& (16383 : Int32)) _ _ e7) (sk3 := []) rfl rfl ?_
    refine sx_pick (lo2 := [(0, .ref 12), (1, .ref p1)]) [0, 1] rfl ?_
    exact c88_92_ok p1 h1 _ _ h
  · rw [if_neg hb3] at h
    refine sx_if_ne (tgt := 92) k88_76 (by decide) (fun _ => ?_) (fun q => absurd q hb3)
    refine sx_pick (lo2 := [(0, .ref 12), (1, .ref p1)]) [0, 1] rfl ?_
    exact c88_92_ok p1 h1 _ _ h
/-- Ground.takePacket(LCraftHouse$Bytes;I)V -/
def f88 (p1 : Nat) (p2 : Int32) (μ : Mem) : Option (Mem) :=
  (f76 p1 (0 : Int32) μ).bind fun r1 =>
  if r1.2 = (2047 : Int32) then
    some r1.1
  else
    (f89 p1 r1.1).bind fun r4 =>
    if r4.2 = 0 then
      (pfI 12 10 ((r4.1.1 12 10) + (1 : Int32)) r4.1).bind fun m14 =>
      some m14
    else
      (pfI 12 9 ((r4.1.1 12 9) + (1 : Int32)) r4.1).bind fun m7 =>
      (f159 15 m7).bind fun r9 =>
      if r9.2 = 0 then
        (f162 15 (0 : Int32) r9.1).bind fun r12 =>
        c88_59 p1 p2 r12
      else
        c88_59 p1 p2 r9.1
theorem ok88 {L : Nat} (p1 : Nat) (p2 : Int32) (h1 : SK0 p1 = (0, 1)) (μ : Mem) (res : Mem) (h : f88 p1 p2 μ = some res) : Mx 88 [.ref 12, .ref p1, .int p2] (mk L μ) (mk L res, none) := by
  refine Mx_of ml_88 (by rw [mx_88]; exact Nat.le_of_ble_eq_true rfl) ?_
  show Sx 88 0 [(0, .ref 12), (1, .ref p1), (2, .int p2)] [] 0 0 (mk L μ) _
  unfold f88 at h
  refine sx_aload_n (i := 1) k88_0 rfl rfl ?_
  refine sx_iconst (v := 0) k88_1 (by decide) ?_
  obtain ⟨r1, e2, h⟩ := Option.bind_eq_some_iff.mp h
  refine cx_V (sk := []) (vs := [.int (0 : Int32)]) st_88_76 k88_2 ow_88 cl_3_82 (by decide) rfl (Nat.le_of_ble_eq_true rfl) h1 (ok76 p1 (0 : Int32) h1 _ _ e2) (sk3 := [.int r1.2]) rfl rfl ?_
  refine sx_sipush (v := 2047) k88_5 (by decide) ?_
  by_cases hb3 : r1.2 = (2047 : Int32)
  · rw [if_pos hb3] at h
    refine sx_icmp_ne (tgt := 12) k88_8 (by decide) (fun q => absurd hb3 q) (fun _ => ?_)
    exact cx_retv k88_11 rt_88 h
  · rw [if_neg hb3] at h
    refine sx_icmp_ne (tgt := 12) k88_8 (by decide) (fun _ => ?_) (fun q => absurd q hb3)
    refine sx_aload_n (i := 0) k88_12 rfl rfl ?_
    refine sx_aload_n (i := 1) k88_13 rfl rfl ?_
    obtain ⟨r4, e5, h⟩ := Option.bind_eq_some_iff.mp h
    refine cx_V (sk := []) (vs := [.ref p1]) st_88_89 k88_14 ow_88 cl_3_86 (by decide) rfl (Nat.le_of_ble_eq_true rfl) sk_12 (ok89 p1 h1 _ _ e5) (sk3 := [.int r4.2]) rfl rfl ?_
    by_cases hb6 : r4.2 = 0
    · rw [if_pos hb6] at h
      refine sx_if_ne (tgt := 31) k88_17 (by decide) (fun q => absurd hb6 q) (fun _ => ?_)
      refine sx_aload_n (i := 0) k88_20 rfl rfl ?_
      refine sx_dup k88_21 rfl ?_
      refine cx_getI (k := 10) k88_22 ow_88 fl_3_90 (by decide) sk_12 ft_2_10 ?_
      refine sx_iconst (v := 1) k88_25 (by decide) ?_
      refine sx_iadd k88_26 ?_
      obtain ⟨m14, e15, h⟩ := Option.bind_eq_some_iff.mp h
      refine cx_putI (k := 10) k88_27 ow_88 fl_3_90 (by decide) sk_12 nf_2_10 fu_2_10 e15 ?_
      exact cx_retv k88_30 rt_88 h
    · rw [if_neg hb6] at h
      refine sx_if_ne (tgt := 31) k88_17 (by decide) (fun _ => ?_) (fun q => absurd q hb6)
      refine sx_aload_n (i := 0) k88_31 rfl rfl ?_
      refine sx_dup k88_32 rfl ?_
      refine cx_getI (k := 9) k88_33 ow_88 fl_3_93 (by decide) sk_12 ft_2_9 ?_
      refine sx_iconst (v := 1) k88_36 (by decide) ?_
      refine sx_iadd k88_37 ?_
      obtain ⟨m7, e8, h⟩ := Option.bind_eq_some_iff.mp h
      refine cx_putI (k := 9) k88_38 ow_88 fl_3_93 (by decide) sk_12 nf_2_9 fu_2_9 e8 ?_
      refine sx_aload_n (i := 0) k88_41 rfl rfl ?_
      refine cx_getR (k := 1) k88_42 ow_88 fl_3_23 (by decide) sk_12 ft_2_1 sr_12_1 ?_
      obtain ⟨r9, e10, h⟩ := Option.bind_eq_some_iff.mp h
      refine cx_V (sk := []) (vs := []) st_88_159 k88_45 ow_88 cl_3_96 (by decide) rfl (Nat.le_of_ble_eq_true rfl) sk_15 (ok159 15 sk_15 _ _ e10) (sk3 := [.int r9.2]) rfl rfl ?_
      by_cases hb11 : r9.2 = 0
      · rw [if_pos hb11] at h
        refine sx_if_ne (tgt := 59) k88_48 (by decide) (fun q => absurd hb11 q) (fun _ => ?_)
        refine sx_aload_n (i := 0) k88_51 rfl rfl ?_
        refine cx_getR (k := 1) k88_52 ow_88 fl_3_23 (by decide) sk_12 ft_2_1 sr_12_1 ?_
        refine sx_iconst (v := 0) k88_55 (by decide) ?_
        obtain ⟨r12, e13, h⟩ := Option.bind_eq_some_iff.mp h
        refine cx_V (sk := []) (vs := [.int (0 : Int32)]) st_88_162 k88_56 ow_88 cl_3_100 (by decide) rfl (Nat.le_of_ble_eq_true rfl) sk_15 (ok162 15 (0 : Int32) sk_15 _ _ e13) (sk3 := []) rfl rfl ?_
        refine sx_pick (lo2 := [(0, .ref 12), (1, .ref p1), (2, .int p2)]) [0, 1, 2] rfl ?_
        exact c88_59_ok p1 h1 p2 _ _ h
      · rw [if_neg hb11] at h
        refine sx_if_ne (tgt := 59) k88_48 (by decide) (fun _ => ?_) (fun q => absurd q hb11)
        refine sx_pick (lo2 := [(0, .ref 12), (1, .ref p1), (2, .int p2)]) [0, 1, 2] rfl ?_
        exact c88_59_ok p1 h1 p2 _ _ h
