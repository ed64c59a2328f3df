theorem k117_0 : decode (gb 117) 0 = .ok (.aload_n 0, 1) := by decide +kernel
theorem k117_1 : decode (gb 117) 1 = .ok (.getfield 33, 3) := by decide +kernel
theorem k117_4 : decode (gb 117) 4 = .ok (.invokevirtual 65, 3) := by decide +kernel
theorem k117_7 : decode (gb 117) 7 = .ok (.aload_n 0, 1) := by decide +kernel
theorem k117_8 : decode (gb 117) 8 = .ok (.getfield 33, 3) := by decide +kernel
theorem k117_11 : decode (gb 117) 11 = .ok (.sipush 2060, 3) := by decide +kernel
theorem k117_14 : decode (gb 117) 14 = .ok (.invokevirtual 68, 3) := by decide +kernel
theorem k117_17 : decode (gb 117) 17 = .ok (.aload_n 0, 1) := by decide +kernel
theorem k117_18 : decode (gb 117) 18 = .ok (.getfield 33, 3) := by decide +kernel
theorem k117_21 : decode (gb 117) 21 = .ok (.ldc 71, 2) := by decide +kernel
theorem k117_23 : decode (gb 117) 23 = .ok (.aload_n 0, 1) := by decide +kernel
theorem k117_24 : decode (gb 117) 24 = .ok (.getfield 72, 3) := by decide +kernel
theorem k117_27 : decode (gb 117) 27 = .ok (.sipush 16383, 3) := by decide +kernel
theorem k117_30 : decode (gb 117) 30 = .ok (.iand, 1) := by decide +kernel
theorem k117_31 : decode (gb 117) 31 = .ok (.ior, 1) := by decide +kernel
theorem k117_32 : decode (gb 117) 32 = .ok (.invokevirtual 68, 3) := by decide +kernel
theorem k117_35 : decode (gb 117) 35 = .ok (.aload_n 0, 1) := by decide +kernel
theorem k117_36 : decode (gb 117) 36 = .ok (.getfield 33, 3) := by decide +kernel
theorem k117_39 : decode (gb 117) 39 = .ok (.iconst 0, 1) := by decide +kernel
theorem k117_40 : decode (gb 117) 40 = .ok (.invokevirtual 68, 3) := by decide +kernel
theorem k117_43 : decode (gb 117) 43 = .ok (.aload_n 0, 1) := by decide +kernel
theorem k117_44 : decode (gb 117) 44 = .ok (.getfield 33, 3) := by decide +kernel
theorem k117_47 : decode (gb 117) 47 = .ok (.bipush 32, 2) := by decide +kernel
theorem k117_49 : decode (gb 117) 49 = .ok (.invokevirtual 78, 3) := by decide +kernel
theorem k117_52 : decode (gb 117) 52 = .ok (.aload_n 0, 1) := by decide +kernel
theorem k117_53 : decode (gb 117) 53 = .ok (.getfield 33, 3) := by decide +kernel
theorem k117_56 : decode (gb 117) 56 = .ok (.iload_n 1, 1) := by decide +kernel
theorem k117_57 : decode (gb 117) 57 = .ok (.invokevirtual 78, 3) := by decide +kernel
theorem k117_60 : decode (gb 117) 60 = .ok (.aload_n 0, 1) := by decide +kernel
theorem k117_61 : decode (gb 117) 61 = .ok (.getfield 33, 3) := by decide +kernel
theorem k117_64 : decode (gb 117) 64 = .ok (.iload_n 2, 1) := by decide +kernel
theorem k117_65 : decode (gb 117) 65 = .ok (.invokevirtual 78, 3) := by decide +kernel
theorem k117_68 : decode (gb 117) 68 = .ok (.aload_n 0, 1) := by decide +kernel
theorem k117_69 : decode (gb 117) 69 = .ok (.getfield 33, 3) := by decide +kernel
theorem k117_72 : decode (gb 117) 72 = .ok (.aload_n 0, 1) := by decide +kernel
theorem k117_73 : decode (gb 117) 73 = .ok (.getfield 81, 3) := by decide +kernel
theorem k117_76 : decode (gb 117) 76 = .ok (.invokevirtual 84, 3) := by decide +kernel
theorem k117_79 : decode (gb 117) 79 = .ok (.return_, 1) := by decide +kernel
/-- Maker.begin(II)V -/
def f117 (p1 : Int32) (p2 : Int32) (μ : Mem) : Option (Mem) :=
  (f64 87 μ).bind fun r1 =>
  (f66 87 (2060 : Int32) r1).bind fun r3 =>
  (f66 87 ((49152 : Int32) ||| ((r3.1 57 13) &&& (16383 : Int32))) r3).bind fun r5 =>
  (f66 87 (0 : Int32) r5).bind fun r7 =>
  (f65 87 (32 : Int32) r7).bind fun r9 =>
  (f65 87 p1 r9).bind fun r11 =>
  (f65 87 p2 r11).bind fun r13 =>
  (f67 87 (r13.1 57 12) r13).bind fun r15 =>
  some r15
theorem ok117 {L : Nat} (p1 : Int32) (p2 : Int32) (μ : Mem) (res : Mem) (h : f117 p1 p2 μ = some res) : Mx 117 [.ref 57, .int p1, .int p2] (mk L μ) (mk L res, none) := by
  refine Mx_of ml_117 (by rw [mx_117]; exact Nat.le_of_ble_eq_true rfl) ?_
  show Sx 117 0 [(0, .ref 57), (1, .int p1), (2, .int p2)] [] 0 0 (mk L μ) _
  unfold f117 at h
  refine sx_aload_n (i := 0) k117_0 rfl rfl ?_
  refine cx_getR (k := 5) k117_1 ow_117 fl_6_33 (by decide) sk_57 ft_5_5 sr_57_5 ?_
  obtain ⟨r1, e2, h⟩ := Option.bind_eq_some_iff.mp h
  refine cx_V (sk := []) (vs := []) st_117_64 k117_4 ow_117 cl_6_65 (by decide) rfl (Nat.le_of_ble_eq_true rfl) sk_87 (ok64 87 sk_87 _ _ e2) (sk3 := []) rfl rfl ?_
  refine sx_aload_n (i := 0) k117_7 rfl rfl ?_
  refine cx_getR (k := 5) k117_8 ow_117 fl_6_33 (by decide) sk_57 ft_5_5 sr_57_5 ?_
  refine sx_sipush (v := 2060) k117_11 (by decide) ?_
  obtain ⟨r3, e4, h⟩ := Option.bind_eq_some_iff.mp h
  refine cx_V (sk := []) (vs := [.int (2060 : Int32)]) st_117_66 k117_14 ow_117 cl_6_68 (by decide) rfl (Nat.le_of_ble_eq_true rfl) sk_87 (ok66 87 (2060 : Int32) sk_87 _ _ e4) (sk3 := []) rfl rfl ?_
  refine sx_aload_n (i := 0) k117_17 rfl rfl ?_
  refine cx_getR (k := 5) k117_18 ow_117 fl_6_33 (by decide) sk_57 ft_5_5 sr_57_5 ?_
  refine cx_ldc (v := 49152) k117_21 ow_117 kl_6_71 (by decide) ?_
  refine sx_aload_n (i := 0) k117_23 rfl rfl ?_
  refine cx_getI (k := 13) k117_24 ow_117 fl_6_72 (by decide) sk_57 ft_5_13 ?_
  refine sx_sipush (v := 16383) k117_27 (by decide) ?_
  refine sx_iand k117_30 ?_
  refine sx_ior k117_31 ?_
  obtain ⟨r5, e6, h⟩ := Option.bind_eq_some_iff.mp h
  refine cx_V (sk := []) (vs := [.int ((49152 : Int32) ||| ((r3.1 57 13) &&& (16383 : Int32)))]) st_117_66 k117_32 ow_117 cl_6_68 (by decide) rfl (Nat.le_of_ble_eq_true rfl) sk_87 (ok66 87 ((49152 : Int32) ||| ((r3.1 57 13) &&& (16383 : Int32))) sk_87 _ _ e6) (sk3 := []) rfl rfl ?_
  refine sx_aload_n (i := 0) k117_35 rfl rfl ?_
  refine cx_getR (k := 5) k117_36 ow_117 fl_6_33 (by decide) sk_57 ft_5_5 sr_57_5 ?_
  refine sx_iconst (v := 0) k117_39 (by decide) ?_
  obtain ⟨r7, e8, h⟩ := Option.bind_eq_some_iff.mp h
  refine cx_V (sk := []) (vs := [.int (0 : Int32)]) st_117_66 k117_40 ow_117 cl_6_68 (by decide) rfl (Nat.le_of_ble_eq_true rfl) sk_87 (ok66 87 (0 : Int32) sk_87 _ _ e8) (sk3 := []) rfl rfl ?_
  refine sx_aload_n (i := 0) k117_43 rfl rfl ?_
  refine cx_getR (k := 5) k117_44 ow_117 fl_6_33 (by decide) sk_57 ft_5_5 sr_57_5 ?_
  refine sx_bipush (v := 32) k117_47 (by decide) ?_
  obtain ⟨r9, e10, h⟩ := Option.bind_eq_some_iff.mp h
  refine cx_V (sk := []) (vs := [.int (32 : Int32)]) st_117_65 k117_49 ow_117 cl_6_78 (by decide) rfl (Nat.le_of_ble_eq_true rfl) sk_87 (ok65 87 (32 : Int32) sk_87 _ _ e10) (sk3 := []) rfl rfl ?_
  refine sx_aload_n (i := 0) k117_52 rfl rfl ?_
  refine cx_getR (k := 5) k117_53 ow_117 fl_6_33 (by decide) sk_57 ft_5_5 sr_57_5 ?_
  refine sx_iload_n (i := 1) k117_56 rfl rfl ?_
  obtain ⟨r11, e12, h⟩ := Option.bind_eq_some_iff.mp h
  refine cx_V (sk := []) (vs := [.int p1]) st_117_65 k117_57 ow_117 cl_6_78 (by decide) rfl (Nat.le_of_ble_eq_true rfl) sk_87 (ok65 87 p1 sk_87 _ _ e12) (sk3 := []) rfl rfl ?_
  refine sx_aload_n (i := 0) k117_60 rfl rfl ?_
  refine cx_getR (k := 5) k117_61 ow_117 fl_6_33 (by decide) sk_57 ft_5_5 sr_57_5 ?_
  refine sx_iload_n (i := 2) k117_64 rfl rfl ?_
  obtain ⟨r13, e14, h⟩ := Option.bind_eq_some_iff.mp h
  refine cx_V (sk := []) (vs := [.int p2]) st_117_65 k117_65 ow_117 cl_6_78 (by decide) rfl (Nat.le_of_ble_eq_true rfl) sk_87 (ok65 87 p2 sk_87 _ _ e14) (sk3 := []) rfl rfl ?_
  refine sx_aload_n (i := 0) k117_68 rfl rfl ?_
  refine cx_getR (k := 5) k117_69 ow_117 fl_6_33 (by decide) sk_57 ft_5_5 sr_57_5 ?_
  refine sx_aload_n (i := 0) k117_72 rfl rfl ?_
  refine cx_getI (k := 12) k117_73 ow_117 fl_6_81 (by decide) sk_57 ft_5_12 ?_
  obtain ⟨r15, e16, h⟩ := Option.bind_eq_some_iff.mp h
  refine cx_V (sk := []) (vs := [.int (r13.1 57 12)]) st_117_67 k117_76 ow_117 cl_6_84 (by decide) rfl (Nat.le_of_ble_eq_true rfl) sk_87 (ok67 87 (r13.1 57 12) sk_87 _ _ e16) (sk3 := []) rfl rfl ?_
  exact cx_retv k117_79 rt_117 h
theorem k119_0 : decode (gb 119) 0 = .ok (.aload_n 0, 1) := by decide +kernel
theorem k119_1 : decode (gb 119) 1 = .ok (.getfield 33, 3) := by decide +kernel
theorem k119_4 : decode (gb 119) 4 = .ok (.getfield 87, 3) := by decide +kernel
theorem k119_7 : decode (gb 119) 7 = .ok (.iconst 2, 1) := by decide +kernel
theorem k119_8 : decode (gb 119) 8 = .ok (.iadd, 1) := by decide +kernel
theorem k119_9 : decode (gb 119) 9 = .ok (.bipush 7, 2) := by decide +kernel
theorem k119_11 : decode (gb 119) 11 = .ok (.isub, 1) := by decide +kernel
theorem k119_12 : decode (gb 119) 12 = .ok (.istore_n 1, 1) := by decide +kernel
theorem k119_13 : decode (gb 119) 13 = .ok (.aload_n 0, 1) := by decide +kernel
theorem k119_14 : decode (gb 119) 14 = .ok (.getfield 33, 3) := by decide +kernel
theorem k119_17 : decode (gb 119) 17 = .ok (.iconst 4, 1) := by decide +kernel
theorem k119_18 : decode (gb 119) 18 = .ok (.iload_n 1, 1) := by decide +kernel
theorem k119_19 : decode (gb 119) 19 = .ok (.bipush 8, 2) := by decide +kernel
theorem k119_21 : decode (gb 119) 21 = .ok (.ishr, 1) := by decide +kernel
theorem k119_22 : decode (gb 119) 22 = .ok (.invokevirtual 90, 3) := by decide +kernel
theorem k119_25 : decode (gb 119) 25 = .ok (.aload_n 0, 1) := by decide +kernel
theorem k119_26 : decode (gb 119) 26 = .ok (.getfield 33, 3) := by decide +kernel
theorem k119_29 : decode (gb 119) 29 = .ok (.iconst 5, 1) := by decide +kernel
theorem k119_30 : decode (gb 119) 30 = .ok (.iload_n 1, 1) := by decide +kernel
theorem k119_31 : decode (gb 119) 31 = .ok (.invokevirtual 90, 3) := by decide +kernel
theorem k119_34 : decode (gb 119) 34 = .ok (.aload_n 0, 1) := by decide +kernel
theorem k119_35 : decode (gb 119) 35 = .ok (.getfield 33, 3) := by decide +kernel
theorem k119_38 : decode (gb 119) 38 = .ok (.invokevirtual 93, 3) := by decide +kernel
theorem k119_41 : decode (gb 119) 41 = .ok (.aload_n 0, 1) := by decide +kernel
theorem k119_42 : decode (gb 119) 42 = .ok (.dup, 1) := by decide +kernel
theorem k119_43 : decode (gb 119) 43 = .ok (.getfield 72, 3) := by decide +kernel
theorem k119_46 : decode (gb 119) 46 = .ok (.iconst 1, 1) := by decide +kernel
theorem k119_47 : decode (gb 119) 47 = .ok (.iadd, 1) := by decide +kernel
theorem k119_48 : decode (gb 119) 48 = .ok (.putfield 72, 3) := by decide +kernel
theorem k119_51 : decode (gb 119) 51 = .ok (.aload_n 0, 1) := by decide +kernel
theorem k119_52 : decode (gb 119) 52 = .ok (.getfield 33, 3) := by decide +kernel
theorem k119_55 : decode (gb 119) 55 = .ok (.bipush 7, 2) := by decide +kernel
theorem k119_57 : decode (gb 119) 57 = .ok (.invokevirtual 96, 3) := by decide +kernel
theorem k119_60 : decode (gb 119) 60 = .ok (.istore_n 2, 1) := by decide +kernel
theorem k119_61 : decode (gb 119) 61 = .ok (.iconst 0, 1) := by decide +kernel
theorem k119_62 : decode (gb 119) 62 = .ok (.istore_n 3, 1) := by decide +kernel
theorem k119_63 : decode (gb 119) 63 = .ok (.iload_n 3, 1) := by decide +kernel
theorem k119_64 : decode (gb 119) 64 = .ok (.aload_n 0, 1) := by decide +kernel
theorem k119_65 : decode (gb 119) 65 = .ok (.getfield 10, 3) := by decide +kernel
theorem k119_68 : decode (gb 119) 68 = .ok (.arraylength, 1) := by decide +kernel
theorem k119_69 : decode (gb 119) 69 = .ok (.if_icmp .ge 27, 3) := by decide +kernel
theorem k119_72 : decode (gb 119) 72 = .ok (.aload_n 0, 1) := by decide +kernel
theorem k119_73 : decode (gb 119) 73 = .ok (.getfield 10, 3) := by decide +kernel
theorem k119_76 : decode (gb 119) 76 = .ok (.iload_n 3, 1) := by decide +kernel
theorem k119_77 : decode (gb 119) 77 = .ok (.aaload, 1) := by decide +kernel
theorem k119_78 : decode (gb 119) 78 = .ok (.aload_n 0, 1) := by decide +kernel
theorem k119_79 : decode (gb 119) 79 = .ok (.getfield 33, 3) := by decide +kernel
theorem k119_82 : decode (gb 119) 82 = .ok (.iload_n 2, 1) := by decide +kernel
theorem k119_83 : decode (gb 119) 83 = .ok (.aload_n 0, 1) := by decide +kernel
theorem k119_84 : decode (gb 119) 84 = .ok (.getfield 81, 3) := by decide +kernel
theorem k119_87 : decode (gb 119) 87 = .ok (.invokevirtual 100, 3) := by decide +kernel
theorem k119_90 : decode (gb 119) 90 = .ok (.iinc 3 1, 3) := by decide +kernel
theorem k119_93 : decode (gb 119) 93 = .ok (.goto (-30), 3) := by decide +kernel
theorem k119_96 : decode (gb 119) 96 = .ok (.aload_n 0, 1) := by decide +kernel
theorem k119_97 : decode (gb 119) 97 = .ok (.getfield 21, 3) := by decide +kernel
theorem k119_100 : decode (gb 119) 100 = .ok (.aload_n 0, 1) := by decide +kernel
theorem k119_101 : decode (gb 119) 101 = .ok (.getfield 33, 3) := by decide +kernel
theorem k119_104 : decode (gb 119) 104 = .ok (.iconst 0, 1) := by decide +kernel
theorem k119_105 : decode (gb 119) 105 = .ok (.aload_n 0, 1) := by decide +kernel
theorem k119_106 : decode (gb 119) 106 = .ok (.getfield 33, 3) := by decide +kernel
theorem k119_109 : decode (gb 119) 109 = .ok (.getfield 87, 3) := by decide +kernel
theorem k119_112 : decode (gb 119) 112 = .ok (.iconst 0, 1) := by decide +kernel
theorem k119_113 : decode (gb 119) 113 = .ok (.iconst 0, 1) := by decide +kernel
theorem k119_114 : decode (gb 119) 114 = .ok (.invokevirtual 104, 3) := by decide +kernel
theorem k119_117 : decode (gb 119) 117 = .ok (.ifCond .ne 13, 3) := by decide +kernel
theorem k119_120 : decode (gb 119) 120 = .ok (.aload_n 0, 1) := by decide +kernel
theorem k119_121 : decode (gb 119) 121 = .ok (.dup, 1) := by decide +kernel
theorem k119_122 : decode (gb 119) 122 = .ok (.getfield 108, 3) := by decide +kernel
theorem k119_125 : decode (gb 119) 125 = .ok (.iconst 1, 1) := by decide +kernel
theorem k119_126 : decode (gb 119) 126 = .ok (.iadd, 1) := by decide +kernel
theorem k119_127 : decode (gb 119) 127 = .ok (.putfield 108, 3) := by decide +kernel
theorem k119_130 : decode (gb 119) 130 = .ok (.aload_n 0, 1) := by decide +kernel
theorem k119_131 : decode (gb 119) 131 = .ok (.getfield 33, 3) := by decide +kernel
theorem k119_134 : decode (gb 119) 134 = .ok (.invokevirtual 65, 3) := by decide +kernel
theorem k119_137 : decode (gb 119) 137 = .ok (.return_, 1) := by decide +kernel
def c119_130 (μ : Mem) : Option (Mem) :=
  (f64 87 μ).bind fun r1 =>
  some r1
theorem c119_130_ok {L : Nat} (μ : Mem) (res : Mem) (h : c119_130 μ = some res) : Sx 119 130 [(0, .ref 57)] [] 0 0 (mk L μ) (mk L res, none) := by
  unfold c119_130 at h
  refine sx_aload_n (i := 0) k119_130 rfl rfl ?_
  refine cx_getR (k := 5) k119_131 ow_119 fl_6_33 (by decide) sk_57 ft_5_5 sr_57_5 ?_
  obtain ⟨r1, e2, h⟩ := Option.bind_eq_some_iff.mp h
  refine cx_V (sk := []) (vs := []) st_119_64 k119_134 ow_119 cl_6_65 (by decide) rfl (Nat.le_of_ble_eq_true rfl) sk_87 (ok64 87 sk_87 _ _ e2) (sk3 := []) rfl rfl ?_
  exact cx_retv k119_137 rt_119 h
def b119_63 (kl63 : Int32 → Int32 → Mem → Option (Mem)) (v2 : Int32) (v3 : Int32) (μ : Mem) : Option (Mem) :=
  if (nI (gln 58)) ≤ v3 then
    (f161 75 87 (0 : Int32) (μ.1 87 1) (0 : Int32) (0 : Int32) μ).bind fun r2 =>
    if r2.2 = 0 then
      (pfI 57 14 ((r2.1.1 57 14) + (1 : Int32)) r2.1).bind fun m5 =>
      c119_130 m5
    else
      c119_130 r2.1
  else
    (ldR 58 v3).bind fun o7 =>
    (f178 o7 87 v2 (μ.1 57 12) μ).bind fun r9 =>
    nm (v3 + (1 : Int32)) fun x11 =>
    kl63 v2 x11 r9
theorem b119_63_ok {L : Nat} (kl63 : Int32 → Int32 → Mem → Option (Mem)) (hk63 : (∀ (v2 : Int32) (v3 : Int32) (μ : Mem) (res : Mem), kl63 v2 v3 μ = some res → Sx 119 63 [(0, .ref 57), (2, .int v2), (3, .int v3)] [] 0 0 (mk L μ) (mk L res, none))) (v2 : Int32) (v3 : Int32) (μ : Mem) (res : Mem) (h : b119_63 kl63 v2 v3 μ = some res) : Sx 119 63 [(0, .ref 57), (2, .int v2), (3, .int v3)] [] 0 0 (mk L μ) (mk L res, none) := by
  unfold b119_63 at h
  refine sx_iload_n (i := 3) k119_63 rfl rfl ?_
  refine sx_aload_n (i := 0) k119_64 rfl rfl ?_
  refine cx_getR (k := 2) k119_65 ow_119 fl_6_10 (by decide) sk_57 ft_5_2 sr_57_2 ?_
  refine cx_alenR (t := 1) k119_68 (by decide) sk_58 ?_
  by_cases hb1 : (nI (gln 58)) ≤ v3
  · rw [if_pos hb1] at h
    refine sx_icmp_ge (tgt := 96) k119_69 (by decide) (fun _ => ?_) (fun q => absurd hb1 q)
    refine sx_aload_n (i := 0) k119_96 rfl rfl ?_
    refine cx_getR (k := 3) k119_97 ow_119 fl_6_21 (by decide) sk_57 ft_5_3 sr_57_3 ?_
    refine sx_aload_n (i := 0) k119_100 rfl rfl ?_
    refine cx_getR (k := 5) k119_101 ow_119 fl_6_33 (by decide) sk_57 ft_5_5 sr_57_5 ?_
    refine sx_iconst (v := 0) k119_104 (by decide) ?_
    refine sx_aload_n (i := 0) k119_105 rfl rfl ?_
    refine cx_getR (k := 5) k119_106 ow_119 fl_6_33 (by decide) sk_57 ft_5_5 sr_57_5 ?_
    refine cx_getI (k := 1) k119_109 ow_119 fl_6_87 (by decide) sk_87 ft_1_1 ?_
    refine sx_iconst (v := 0) k119_112 (by decide) ?_
    refine sx_iconst (v := 0) k119_113 (by decide) ?_
    obtain ⟨r2, e3, h⟩ := Option.bind_eq_some_iff.mp h
    refine cx_V (sk := []) (vs := [.ref 87, .int (0 : Int32), .int (μ.1 87 1), .int (0 : Int32), .int (0 : Int32)]) st_119_161 k119_114 ow_119 cl_6_104 (by decide) rfl (Nat.le_of_ble_eq_true rfl) sk_75 (ok161 75 87 (0 : Int32) (μ.1 87 1) (0 : Int32) (0 : Int32) sk_75 sk_87 _ _ e3) (sk3 := [.int r2.2]) rfl rfl ?_
    by_cases hb4 : r2.2 = 0
    · rw [if_pos hb4] at h
      refine sx_if_ne (tgt := 130) k119_117 (by decide) (fun q => absurd hb4 q) (fun _ => ?_)
      refine sx_aload_n (i := 0) k119_120 rfl rfl ?_
      refine sx_dup k119_121 rfl ?_
      refine cx_getI (k := 14) k119_122 ow_119 fl_6_108 (by decide) sk_57 ft_5_14 ?_
      refine sx_iconst (v := 1) k119_125 (by decide) ?_
      refine sx_iadd k119_126 ?_
      obtain ⟨m5, e6, h⟩ := Option.bind_eq_some_iff.mp h
      refine cx_putI (k := 14) k119_127 ow_119 fl_6_108 (by decide) sk_57 nf_5_14 fu_5_14 e6 ?_
      refine sx_pick (lo2 := [(0, .ref 57)]) [0] rfl ?_
      exact c119_130_ok _ _ h
    · rw [if_neg hb4] at h
      refine sx_if_ne (tgt := 130) k119_117 (by decide) (fun _ => ?_) (fun q => absurd q hb4)
      refine sx_pick (lo2 := [(0, .ref 57)]) [0] rfl ?_
      exact c119_130_ok _ _ h
  · rw [if_neg hb1] at h
    refine sx_icmp_ge (tgt := 96) k119_69 (by decide) (fun q => absurd q hb1) (fun _ => ?_)
    refine sx_aload_n (i := 0) k119_72 rfl rfl ?_
    refine cx_getR (k := 2) k119_73 ow_119 fl_6_10 (by decide) sk_57 ft_5_2 sr_57_2 ?_
    refine sx_iload_n (i := 3) k119_76 rfl rfl ?_
    obtain ⟨o7, e8, h⟩ := Option.bind_eq_some_iff.mp h
    refine cx_aald (t := 1) k119_77 (by decide) sk_58 e8 ?_
    refine sx_aload_n (i := 0) k119_78 rfl rfl ?_
    refine cx_getR (k := 5) k119_79 ow_119 fl_6_33 (by decide) sk_57 ft_5_5 sr_57_5 ?_
    refine sx_iload_n (i := 2) k119_82 rfl rfl ?_
    refine sx_aload_n (i := 0) k119_83 rfl rfl ?_
    refine cx_getI (k := 12) k119_84 ow_119 fl_6_81 (by decide) sk_57 ft_5_12 ?_
    obtain ⟨r9, e10, h⟩ := Option.bind_eq_some_iff.mp h
    refine cx_V (sk := []) (vs := [.ref 87, .int v2, .int (μ.1 57 12)]) st_119_178 k119_87 ow_119 cl_6_100 (by decide) rfl (Nat.le_of_ble_eq_true rfl) (lk_58 e8) (ok178 o7 87 v2 (μ.1 57 12) (lk_58 e8) sk_87 _ _ e10) (sk3 := []) rfl rfl ?_
    refine cx_iinc (c := 1) (lo2 := fun x11 => [(3, .int x11), (0, .ref 57), (2, .int v2)]) k119_90 rfl (by decide) (by rw [mx_119]; decide) (fun _ => rfl) h (fun x11 h => ?_)
    refine sx_goto (tgt := 63) k119_93 (by decide) ?_
    refine sx_pick (lo2 := [(0, .ref 57), (2, .int v2), (3, .int x11)]) [1, 2, 0] rfl ?_
    exact hk63 v2 x11 _ _ h
def l119_63 : Nat → Int32 × Int32 × Mem → Option (Mem) :=
  fixN (fun self x => b119_63 (fun v2 v3 μ => self (v2, v3, μ)) (x.1) (x.2.1) (x.2.2))
theorem l119_63_ok {L : Nat} (n : Nat) (v2 : Int32) (v3 : Int32) (μ : Mem) (res : Mem) (h : l119_63 n (v2, v3, μ) = some res) : Sx 119 63 [(0, .ref 57), (2, .int v2), (3, .int v3)] [] 0 0 (mk L μ) (mk L res, none) := by
  have key := fixN_ind (P := fun x res => Sx 119 63 [(0, .ref 57), (2, .int (x.1)), (3, .int (x.2.1))] [] 0 0 (mk L (x.2.2)) (mk L res, none)) (F := fun self x => b119_63 (fun v2 v3 μ => self (v2, v3, μ)) (x.1) (x.2.1) (x.2.2)) (fun self hself x res h => b119_63_ok (fun v2 v3 μ => self (v2, v3, μ)) (fun v2 v3 μ res hh => hself (v2, v3, μ) res hh) (x.1) (x.2.1) (x.2.2) res h) n (v2, v3, μ) res h
  exact key
/-- Maker.finish()V -/
def f119 (μ : Mem) : Option (Mem) :=
  nm (((μ.1 87 1) + (2 : Int32)) - (7 : Int32)) fun x1 =>
  (f73 87 (4 : Int32) (jshr x1 (8 : Int32)) μ).bind fun r2 =>
  (f73 87 (5 : Int32) x1 r2).bind fun r4 =>
  (f72 87 r4).bind fun r6 =>
  (pfI 57 13 ((r6.1 57 13) + (1 : Int32)) r6).bind fun m8 =>
  (f76 87 (7 : Int32) m8).bind fun r10 =>
  l119_63 gF (r10.2, (0 : Int32), r10.1)
theorem ok119 {L : Nat} (μ : Mem) (res : Mem) (h : f119 μ = some res) : Mx 119 [.ref 57] (mk L μ) (mk L res, none) := by
  refine Mx_of ml_119 (by rw [mx_119]; exact Nat.le_of_ble_eq_true rfl) ?_
  show Sx 119 0 [(0, .ref 57)] [] 0 0 (mk L μ) _
  unfold f119 at h
  refine sx_aload_n (i := 0) k119_0 rfl rfl ?_
  refine cx_getR (k := 5) k119_1 ow_119 fl_6_33 (by decide) sk_57 ft_5_5 sr_57_5 ?_
  refine cx_getI (k := 1) k119_4 ow_119 fl_6_87 (by decide) sk_87 ft_1_1 ?_
  refine sx_iconst (v := 2) k119_7 (by decide) ?_
  refine sx_iadd k119_8 ?_
  refine sx_bipush (v := 7) k119_9 (by decide) ?_
  refine sx_isub k119_11 ?_
  refine cx_nm h (fun x1 h => ?_)
  refine cx_istore_n (lo2 := [(1, .int x1), (0, .ref 57)]) k119_12 rfl (by rw [mx_119]; decide) rfl ?_
  refine sx_aload_n (i := 0) k119_13 rfl rfl ?_
  refine cx_getR (k := 5) k119_14 ow_119 fl_6_33 (by decide) sk_57 ft_5_5 sr_57_5 ?_
  refine sx_iconst (v := 4) k119_17 (by decide) ?_
  refine sx_iload_n (i := 1) k119_18 rfl rfl ?_
  refine sx_bipush (v := 8) k119_19 (by decide) ?_
  refine sx_ishr k119_21 ?_
  obtain ⟨r2, e3, h⟩ := Option.bind_eq_some_iff.mp h
  refine cx_V (sk := []) (vs := [.int (4 : Int32), .int (jshr x1 (8 : Int32))]) st_119_73 k119_22 ow_119 cl_6_90 (by decide) rfl (Nat.le_of_ble_eq_true rfl) sk_87 (ok73 87 (4 : Int32) (jshr x1 (8 : Int32)) sk_87 _ _ e3) (sk3 := []) rfl rfl ?_
  refine sx_aload_n (i := 0) k119_25 rfl rfl ?_
  refine cx_getR (k := 5) k119_26 ow_119 fl_6_33 (by decide) sk_57 ft_5_5 sr_57_5 ?_
  refine sx_iconst (v := 5) k119_29 (by decide) ?_
  refine sx_iload_n (i := 1) k119_30 rfl rfl ?_
  obtain ⟨r4, e5, h⟩ := Option.bind_eq_some_iff.mp h
  refine cx_V (sk := []) (vs := [.int (5 : Int32), .int x1]) st_119_73 k119_31 ow_119 cl_6_90 (by decide) rfl (Nat.le_of_ble_eq_true rfl) sk_87 (ok73 87 (5 : Int32) x1 sk_87 _ _ e5) (sk3 := []) rfl rfl ?_
  refine sx_aload_n (i := 0) k119_34 rfl rfl ?_
  refine cx_getR (k := 5) k119_35 ow_119 fl_6_33 (by decide) sk_57 ft_5_5 sr_57_5 ?_
  obtain ⟨r6, e7, h⟩ := Option.bind_eq_some_iff.mp h
  refine cx_V (sk := []) (vs := []) st_119_72 k119_38 ow_119 cl_6_93 (by decide) rfl (Nat.le_of_ble_eq_true rfl) sk_87 (ok72 87 sk_87 _ _ e7) (sk3 := []) rfl rfl ?_
  refine sx_aload_n (i := 0) k119_41 rfl rfl ?_
  refine sx_dup k119_42 rfl ?_
  refine cx_getI (k := 13) k119_43 ow_119 fl_6_72 (by decide) sk_57 ft_5_13 ?_
  refine sx_iconst (v := 1) k119_46 (by decide) ?_
  refine sx_iadd k119_47 ?_
  obtain ⟨m8, e9, h⟩ := Option.bind_eq_some_iff.mp h
  refine cx_putI (k := 13) k119_48 ow_119 fl_6_72 (by decide) sk_57 nf_5_13 fu_5_13 e9 ?_
  refine sx_aload_n (i := 0) k119_51 rfl rfl ?_
  refine cx_getR (k := 5) k119_52 ow_119 fl_6_33 (by decide) sk_57 ft_5_5 sr_57_5 ?_
  refine sx_bipush (v := 7) k119_55 (by decide) ?_
  obtain ⟨r10, e11, h⟩ := Option.bind_eq_some_iff.mp h
  refine cx_V (sk := []) (vs := [.int (7 : Int32)]) st_119_76 k119_57 ow_119 cl_6_96 (by decide) rfl (Nat.le_of_ble_eq_true rfl) sk_87 (ok76 87 (7 : Int32) sk_87 _ _ e11) (sk3 := [.int r10.2]) rfl rfl ?_
  refine cx_istore_n (lo2 := [(2, .int r10.2), (1, .int x1), (0, .ref 57)]) k119_60 rfl (by rw [mx_119]; decide) rfl ?_
  refine sx_iconst (v := 0) k119_61 (by decide) ?_
  refine cx_istore_n (lo2 := [(3, .int (0 : Int32)), (2, .int r10.2), (1, .int x1), (0, .ref 57)]) k119_62 rfl (by rw [mx_119]; decide) rfl ?_
  refine sx_pick (lo2 := [(0, .ref 57), (2, .int r10.2), (3, .int (0 : Int32))]) [3, 1, 0] rfl ?_
  exact l119_63_ok gF r10.2 (0 : Int32) _ _ h
theorem k120_0 : decode (gb 120) 0 = .ok (.iconst 0, 1) := by decide +kernel
theorem k120_1 : decode (gb 120) 1 = .ok (.istore 4, 2) := by decide +kernel
theorem k120_3 : decode (gb 120) 3 = .ok (.iload 4, 2) := by decide +kernel
theorem k120_5 : decode (gb 120) 5 = .ok (.aload_n 1, 1) := by decide +kernel
theorem k120_6 : decode (gb 120) 6 = .ok (.getfield 111, 3) := by decide +kernel
theorem k120_9 : decode (gb 120) 9 = .ok (.getfield 114, 3) := by decide +kernel
theorem k120_12 : decode (gb 120) 12 = .ok (.if_icmp .ge 67, 3) := by decide +kernel
theorem k120_15 : decode (gb 120) 15 = .ok (.aload_n 1, 1) := by decide +kernel
theorem k120_16 : decode (gb 120) 16 = .ok (.getfield 111, 3) := by decide +kernel
theorem k120_19 : decode (gb 120) 19 = .ok (.iload 4, 2) := by decide +kernel
theorem k120_21 : decode (gb 120) 21 = .ok (.invokevirtual 117, 3) := by decide +kernel
theorem k120_24 : decode (gb 120) 24 = .ok (.istore 5, 2) := by decide +kernel
theorem k120_26 : decode (gb 120) 26 = .ok (.iload 5, 2) := by decide +kernel
theorem k120_28 : decode (gb 120) 28 = .ok (.iload_n 2, 1) := by decide +kernel
theorem k120_29 : decode (gb 120) 29 = .ok (.if_icmp .lt 44, 3) := by decide +kernel
theorem k120_32 : decode (gb 120) 32 = .ok (.iload 5, 2) := by decide +kernel
theorem k120_34 : decode (gb 120) 34 = .ok (.iload_n 3, 1) := by decide +kernel
theorem k120_35 : decode (gb 120) 35 = .ok (.if_icmp .gt 38, 3) := by decide +kernel
theorem k120_38 : decode (gb 120) 38 = .ok (.aload_n 1, 1) := by decide +kernel
theorem k120_39 : decode (gb 120) 39 = .ok (.getfield 111, 3) := by decide +kernel
theorem k120_42 : decode (gb 120) 42 = .ok (.iload 4, 2) := by decide +kernel
theorem k120_44 : decode (gb 120) 44 = .ok (.aload_n 0, 1) := by decide +kernel
theorem k120_45 : decode (gb 120) 45 = .ok (.getfield 33, 3) := by decide +kernel
theorem k120_48 : decode (gb 120) 48 = .ok (.invokevirtual 120, 3) := by decide +kernel
theorem k120_51 : decode (gb 120) 51 = .ok (.aload_n 0, 1) := by decide +kernel
theorem k120_52 : decode (gb 120) 52 = .ok (.getfield 25, 3) := by decide +kernel
theorem k120_55 : decode (gb 120) 55 = .ok (.aload_n 0, 1) := by decide +kernel
theorem k120_56 : decode (gb 120) 56 = .ok (.getfield 33, 3) := by decide +kernel
theorem k120_59 : decode (gb 120) 59 = .ok (.iconst 0, 1) := by decide +kernel
theorem k120_60 : decode (gb 120) 60 = .ok (.aload_n 0, 1) := by decide +kernel
theorem k120_61 : decode (gb 120) 61 = .ok (.getfield 33, 3) := by decide +kernel
theorem k120_64 : decode (gb 120) 64 = .ok (.getfield 87, 3) := by decide +kernel
theorem k120_67 : decode (gb 120) 67 = .ok (.iconst 0, 1) := by decide +kernel
theorem k120_68 : decode (gb 120) 68 = .ok (.iconst 0, 1) := by decide +kernel
theorem k120_69 : decode (gb 120) 69 = .ok (.invokevirtual 104, 3) := by decide +kernel
theorem k120_72 : decode (gb 120) 72 = .ok (.pop, 1) := by decide +kernel
theorem k120_73 : decode (gb 120) 73 = .ok (.iinc 4 1, 3) := by decide +kernel
theorem k120_76 : decode (gb 120) 76 = .ok (.goto (-73), 3) := by decide +kernel
theorem k120_79 : decode (gb 120) 79 = .ok (.aload_n 0, 1) := by decide +kernel
theorem k120_80 : decode (gb 120) 80 = .ok (.getfield 33, 3) := by decide +kernel
theorem k120_83 : decode (gb 120) 83 = .ok (.invokevirtual 65, 3) := by decide +kernel
theorem k120_86 : decode (gb 120) 86 = .ok (.return_, 1) := by decide +kernel
def c120_73 (p1 : Nat) (kl3 : Int32 → Int32 → Int32 → Mem → Option (Mem)) (v2 : Int32) (v3 : Int32) (v4 : Int32) (μ : Mem) : Option (Mem) :=
  nm (v4 + (1 : Int32)) fun x1 =>
  kl3 v2 v3 x1 μ
theorem c120_73_ok {L : Nat} (p1 : Nat) (h1 : SK0 p1 = (0, 8)) (kl3 : Int32 → Int32 → Int32 → Mem → Option (Mem)) (hk3 : (∀ (v2 : Int32) (v3 : Int32) (v4 : Int32) (μ : Mem) (res : Mem), kl3 v2 v3 v4 μ = some res → Sx 120 3 [(0, .ref 57), (1, .ref p1), (2, .int v2), (3, .int v3), (4, .int v4)] [] 0 0 (mk L μ) (mk L res, none))) (v2 : Int32) (v3 : Int32) (v4 : Int32) (μ : Mem) (res : Mem) (h : c120_73 p1 kl3 v2 v3 v4 μ = some res) : Sx 120 73 [(0, .ref 57), (1, .ref p1), (2, .int v2), (3, .int v3), (4, .int v4)] [] 0 0 (mk L μ) (mk L res, none) := by
  unfold c120_73 at h
  refine cx_iinc (c := 1) (lo2 := fun x1 => [(4, .int x1), (0, .ref 57), (1, .ref p1), (2, .int v2), (3, .int v3)]) k120_73 rfl (by decide) (by rw [mx_120]; decide) (fun _ => rfl) h (fun x1 h => ?_)
  refine sx_goto (tgt := 3) k120_76 (by decide) ?_
  refine sx_pick (lo2 := [(0, .ref 57), (1, .ref p1), (2, .int v2), (3, .int v3), (4, .int x1)]) [1, 2, 3, 4, 0] rfl ?_
  exact hk3 v2 v3 x1 _ _ h
def b120_3 (p1 : Nat) (kl3 : Int32 → Int32 → Int32 → Mem → Option (Mem)) (v2 : Int32) (v3 : Int32) (v4 : Int32) (μ : Mem) : Option (Mem) :=
  if (μ.1 (p1 + 1) 5) ≤ v4 then
    (f64 87 μ).bind fun r2 =>
    some r2
  else
    (f167 (p1 + 1) v4 μ).bind fun r4 =>
    if r4.2 < v2 then
      c120_73 p1 kl3 v2 v3 v4 r4.1
    else
      if v3 < r4.2 then
        c120_73 p1 kl3 v2 v3 v4 r4.1
      else
        (f164 (p1 + 1) v4 87 r4.1).bind fun r8 =>
        (f161 81 87 (0 : Int32) (r8.1 87 1) (0 : Int32) (0 : Int32) r8).bind fun r10 =>
        c120_73 p1 kl3 v2 v3 v4 r10.1
theorem b120_3_ok {L : Nat} (p1 : Nat) (h1 : SK0 p1 = (0, 8)) (kl3 : Int32 → Int32 → Int32 → Mem → Option (Mem)) (hk3 : (∀ (v2 : Int32) (v3 : Int32) (v4 : Int32) (μ : Mem) (res : Mem), kl3 v2 v3 v4 μ = some res → Sx 120 3 [(0, .ref 57), (1, .ref p1), (2, .int v2), (3, .int v3), (4, .int v4)] [] 0 0 (mk L μ) (mk L res, none))) (v2 : Int32) (v3 : Int32) (v4 : Int32) (μ : Mem) (res : Mem) (h : b120_3 p1 kl3 v2 v3 v4 μ = some res) : Sx 120 3 [(0, .ref 57), (1, .ref p1), (2, .int v2), (3, .int v3), (4, .int v4)] [] 0 0 (mk L μ) (mk L res, none) := by
  unfold b120_3 at h
  refine sx_iload k120_3 rfl ?_
  refine sx_aload_n (i := 1) k120_5 rfl rfl ?_
  refine cx_getR (k := 0) k120_6 ow_120 fl_6_111 (by decide) h1 ft_8_0 (kf_8_0 h1).1 ?_
  refine cx_getI (k := 5) k120_9 ow_120 fl_6_114 (by decide) (kf_8_0 h1).2 ft_7_5 ?_
  by_cases hb1 : (μ.1 (p1 + 1) 5) ≤ v4
  · rw [if_pos hb1] at h
    refine sx_icmp_ge (tgt := 79) k120_12 (by decide) (fun _ => ?_) (fun q => absurd hb1 q)
    refine sx_aload_n (i := 0) k120_79 rfl rfl ?_
    refine cx_getR (k := 5) k120_80 ow_120 fl_6_33 (by decide) sk_57 ft_5_5 sr_57_5 ?_
    obtain ⟨r2, e3, h⟩ := Option.bind_eq_some_iff.mp h
    refine cx_V (sk := []) (vs := []) st_120_64 k120_83 ow_120 cl_6_65 (by decide) rfl (Nat.le_of_ble_eq_true rfl) sk_87 (ok64 87 sk_87 _ _ e3) (sk3 := []) rfl rfl ?_
    exact cx_retv k120_86 rt_120 h
  · rw [if_neg hb1] at h
    refine sx_icmp_ge (tgt := 79) k120_12 (by decide) (fun q => absurd q hb1) (fun _ => ?_)
    refine sx_aload_n (i := 1) k120_15 rfl rfl ?_
    refine cx_getR (k := 0) k120_16 ow_120 fl_6_111 (by decide) h1 ft_8_0 (kf_8_0 h1).1 ?_
    refine sx_iload k120_19 rfl ?_
    obtain ⟨r4, e5, h⟩ := Option.bind_eq_some_iff.mp h
    refine cx_V (sk := []) (vs := [.int v4]) st_120_167 k120_21 ow_120 cl_6_117 (by decide) rfl (Nat.le_of_ble_eq_true rfl) (kf_8_0 h1).2 (ok167 (p1 + 1) v4 (kf_8_0 h1).2 _ _ e5) (sk3 := [.int r4.2]) rfl rfl ?_
    refine cx_istore (lo2 := [(5, .int r4.2), (0, .ref 57), (1, .ref p1), (2, .int v2), (3, .int v3), (4, .int v4)]) k120_24 (by rw [mx_120]; decide) rfl ?_
    refine sx_iload k120_26 rfl ?_
    refine sx_iload_n (i := 2) k120_28 rfl rfl ?_
    by_cases hb6 : r4.2 < v2
    · rw [if_pos hb6] at h
      refine sx_icmp_lt (tgt := 73) k120_29 (by decide) (fun _ => ?_) (fun q => absurd hb6 q)
      refine sx_pick (lo2 := [(0, .ref 57), (1, .ref p1), (2, .int v2), (3, .int v3), (4, .int v4)]) [1, 2, 3, 4, 5] rfl ?_
      exact c120_73_ok p1 h1 kl3 hk3 v2 v3 v4 _ _ h
    · rw [if_neg hb6] at h
      refine sx_icmp_lt (tgt := 73) k120_29 (by decide) (fun q => absurd q hb6) (fun _ => ?_)
      refine sx_iload k120_32 rfl ?_
      refine sx_iload_n (i := 3) k120_34 rfl rfl ?_
      by_cases hb7 : v3 < r4.2
      · rw [if_pos hb7] at h
        refine sx_icmp_gt (tgt := 73) k120_35 (by decide) (fun _ => ?_) (fun q => absurd hb7 q)
        refine sx_pick (lo2 := [(0, .ref 57), (1, .ref p1), (2, .int v2), (3, .int v3), (4, .int v4)]) [1, 2, 3, 4, 5] rfl ?_
        exact c120_73_ok p1 h1 kl3 hk3 v2 v3 v4 _ _ h
      · rw [if_neg hb7] at h
        refine sx_icmp_gt (tgt := 73) k120_35 (by decide) (fun q => absurd q hb7) (fun _ => ?_)
        refine sx_aload_n (i := 1) k120_38 rfl rfl ?_
        refine cx_getR (k := 0) k120_39 ow_120 fl_6_111 (by decide) h1 ft_8_0 (kf_8_0 h1).1 ?_
        refine sx_iload k120_42 rfl ?_
        refine sx_aload_n (i := 0) k120_44 rfl rfl ?_
        refine cx_getR (k := 5) k120_45 ow_120 fl_6_33 (by decide) sk_57 ft_5_5 sr_57_5 ?_
        obtain ⟨r8, e9, h⟩ := Option.bind_eq_some_iff.mp h
        refine cx_V (sk := []) (vs := [.int v4, .ref 87]) st_120_164 k120_48 ow_120 cl_6_120 (by decide) rfl (Nat.le_of_ble_eq_true rfl) (kf_8_0 h1).2 (ok164 (p1 + 1) v4 87 (kf_8_0 h1).2 sk_87 _ _ e9) (sk3 := []) rfl rfl ?_
        refine sx_aload_n (i := 0) k120_51 rfl rfl ?_
        refine cx_getR (k := 4) k120_52 ow_120 fl_6_25 (by decide) sk_57 ft_5_4 sr_57_4 ?_
        refine sx_aload_n (i := 0) k120_55 rfl rfl ?_
        refine cx_getR (k := 5) k120_56 ow_120 fl_6_33 (by decide) sk_57 ft_5_5 sr_57_5 ?_
        refine sx_iconst (v := 0) k120_59 (by decide) ?_
        refine sx_aload_n (i := 0) k120_60 rfl rfl ?_
        refine cx_getR (k := 5) k120_61 ow_120 fl_6_33 (by decide) sk_57 ft_5_5 sr_57_5 ?_
        refine cx_getI (k := 1) k120_64 ow_120 fl_6_87 (by decide) sk_87 ft_1_1 ?_
        refine sx_iconst (v := 0) k120_67 (by decide) ?_
        refine sx_iconst (v := 0) k120_68 (by decide) ?_
        obtain ⟨r10, e11, h⟩ := Option.bind_eq_some_iff.mp h
        refine cx_V (sk := []) (vs := [.ref 87, .int (0 : Int32), .int (r8.1 87 1), .int (0 : Int32), .int (0 : Int32)]) st_120_161 k120_69 ow_120 cl_6_104 (by decide) rfl (Nat.le_of_ble_eq_true rfl) sk_81 (ok161 81 87 (0 : Int32) (r8.1 87 1) (0 : Int32) (0 : Int32) sk_81 sk_87 _ _ e11) (sk3 := [.int r10.2]) rfl rfl ?_
        refine sx_pop k120_72 rfl ?_
        refine sx_pick (lo2 := [(0, .ref 57), (1, .ref p1), (2, .int v2), (3, .int v3), (4, .int v4)]) [1, 2, 3, 4, 5] rfl ?_
        exact c120_73_ok p1 h1 kl3 hk3 v2 v3 v4 _ _ h
def l120_3 (p1 : Nat) : Nat → Int32 × Int32 × Int32 × Mem → Option (Mem) :=
  fixN (fun self x => b120_3 p1 (fun v2 v3 v4 μ => self (v2, v3, v4, μ)) (x.1) (x.2.1) (x.2.2.1) (x.2.2.2))
theorem l120_3_ok {L : Nat} (p1 : Nat) (h1 : SK0 p1 = (0, 8)) (n : Nat) (v2 : Int32) (v3 : Int32) (v4 : Int32) (μ : Mem) (res : Mem) (h : l120_3 p1 n (v2, v3, v4, μ) = some res) : Sx 120 3 [(0, .ref 57), (1, .ref p1), (2, .int v2), (3, .int v3), (4, .int v4)] [] 0 0 (mk L μ) (mk L res, none) := by
  have key := fixN_ind (P := fun x res => Sx 120 3 [(0, .ref 57), (1, .ref p1), (2, .int (x.1)), (3, .int (x.2.1)), (4, .int (x.2.2.1))] [] 0 0 (mk L (x.2.2.2)) (mk L res, none)) (F := fun self x => b120_3 p1 (fun v2 v3 v4 μ => self (v2, v3, v4, μ)) (x.1) (x.2.1) (x.2.2.1) (x.2.2.2)) (fun self hself x res h => b120_3_ok p1 h1 (fun v2 v3 v4 μ => self (v2, v3, v4, μ)) (fun v2 v3 v4 μ res hh => hself (v2, v3, v4, μ) res hh) (x.1) (x.2.1) (x.2.2.1) (x.2.2.2) res h) n (v2, v3, v4, μ) res h
  exact key
/-- Maker.pass(LCraftHouse$Store;II)V -/
def f120 (p1 : Nat) (p2 : Int32) (p3 : Int32) (μ : Mem) : Option (Mem) :=
  l120_3 p1 gF (p2, p3, (0 : Int32), μ)
theorem ok120 {L : Nat} (p1 : Nat) (p2 : Int32) (p3 : Int32) (h1 : SK0 p1 = (0, 8)) (μ : Mem) (res : Mem) (h : f120 p1 p2 p3 μ = some res) : Mx 120 [.ref 57, .ref p1, .int p2, .int p3] (mk L μ) (mk L res, none) := by
  refine Mx_of ml_120 (by rw [mx_120]; exact Nat.le_of_ble_eq_true rfl) ?_
  show Sx 120 0 [(0, .ref 57), (1, .ref p1), (2, .int p2), (3, .int p3)] [] 0 0 (mk L μ) _
  unfold f120 at h
  refine sx_iconst (v := 0) k120_0 (by decide) ?_
  refine cx_istore (lo2 := [(4, .int (0 : Int32)), (0, .ref 57), (1, .ref p1), (2, .int p2), (3, .int p3)]) k120_1 (by rw [mx_120]; decide) rfl ?_
  refine sx_pick (lo2 := [(0, .ref 57), (1, .ref p1), (2, .int p2), (3, .int p3), (4, .int (0 : Int32))]) [1, 2, 3, 4, 0] rfl ?_
  exact l120_3_ok p1 h1 gF p2 p3 (0 : Int32) _ _ h
theorem k118_0 : decode (gb 118) 0 = .ok (.aload_n 0, 1) := by decide +kernel
theorem k118_1 : decode (gb 118) 1 = .ok (.getfield 33, 3) := by decide +kernel
theorem k118_4 : decode (gb 118) 4 = .ok (.getfield 87, 3) := by decide +kernel
theorem k118_7 : decode (gb 118) 7 = .ok (.ifCond .le 7, 3) := by decide +kernel
theorem k118_10 : decode (gb 118) 10 = .ok (.iconst 1, 1) := by decide +kernel
theorem k118_11 : decode (gb 118) 11 = .ok (.goto 4, 3) := by decide +kernel
theorem k118_14 : decode (gb 118) 14 = .ok (.iconst 0, 1) := by decide +kernel
theorem k118_15 : decode (gb 118) 15 = .ok (.ireturn, 1) := by decide +kernel
/-- Maker.hasBegun()Z -/
def f118 (μ : Mem) : Option (Mem × Int32) :=
  if (μ.1 87 1) ≤ 0 then
    rtZ (0 : Int32) μ
  else
    rtZ (1 : Int32) μ
theorem ok118 {L : Nat} (μ : Mem) (res : Mem × Int32) (h : f118 μ = some res) : Mx 118 [.ref 57] (mk L μ) (mk L res.1, some (.int res.2)) := by
  refine Mx_of ml_118 (by rw [mx_118]; exact Nat.le_of_ble_eq_true rfl) ?_
  show Sx 118 0 [(0, .ref 57)] [] 0 0 (mk L μ) _
  unfold f118 at h
  refine sx_aload_n (i := 0) k118_0 rfl rfl ?_
  refine cx_getR (k := 5) k118_1 ow_118 fl_6_33 (by decide) sk_57 ft_5_5 sr_57_5 ?_
  refine cx_getI (k := 1) k118_4 ow_118 fl_6_87 (by decide) sk_87 ft_1_1 ?_
  by_cases hb1 : (μ.1 87 1) ≤ 0
  · rw [if_pos hb1] at h
    refine sx_if_le (tgt := 14) k118_7 (by decide) (fun _ => ?_) (fun q => absurd hb1 q)
    refine sx_iconst (v := 0) k118_14 (by decide) ?_
    exact cx_retz k118_15 rt_118 h
  · rw [if_neg hb1] at h
    refine sx_if_le (tgt := 14) k118_7 (by decide) (fun q => absurd q hb1) (fun _ => ?_)
    refine sx_iconst (v := 1) k118_10 (by decide) ?_
    refine sx_goto (tgt := 15) k118_11 (by decide) ?_
    exact cx_retz k118_15 rt_118 h
theorem k124_0 : decode (gb 124) 0 = .ok (.aload_n 0, 1) := by decide +kernel
theorem k124_1 : decode (gb 124) 1 = .ok (.getfield 37, 3) := by decide +kernel
theorem k124_4 : decode (gb 124) 4 = .ok (.iload_n 1, 1) := by decide +kernel
theorem k124_5 : decode (gb 124) 5 = .ok (.iconst 1, 1) := by decide +kernel
theorem k124_6 : decode (gb 124) 6 = .ok (.iand, 1) := by decide +kernel
theorem k124_7 : decode (gb 124) 7 = .ok (.aaload, 1) := by decide +kernel
theorem k124_8 : decode (gb 124) 8 = .ok (.getfield 87, 3) := by decide +kernel
theorem k124_11 : decode (gb 124) 11 = .ok (.aload_n 0, 1) := by decide +kernel
theorem k124_12 : decode (gb 124) 12 = .ok (.getfield 41, 3) := by decide +kernel
theorem k124_15 : decode (gb 124) 15 = .ok (.iload_n 1, 1) := by decide +kernel
theorem k124_16 : decode (gb 124) 16 = .ok (.iconst 1, 1) := by decide +kernel
theorem k124_17 : decode (gb 124) 17 = .ok (.iand, 1) := by decide +kernel
theorem k124_18 : decode (gb 124) 18 = .ok (.iaload, 1) := by decide +kernel
theorem k124_19 : decode (gb 124) 19 = .ok (.isub, 1) := by decide +kernel
theorem k124_20 : decode (gb 124) 20 = .ok (.ireturn, 1) := by decide +kernel
/-- Maker.begunLeft(I)I -/
def f124 (p1 : Int32) (μ : Mem) : Option (Mem × Int32) :=
  (ldR 89 (p1 &&& (1 : Int32))).bind fun o1 =>
  (ldA 94 (p1 &&& (1 : Int32)) μ).bind fun x3 =>
  some (μ, ((μ.1 o1 1) - x3))
theorem ok124 {L : Nat} (p1 : Int32) (μ : Mem) (res : Mem × Int32) (h : f124 p1 μ = some res) : Mx 124 [.ref 57, .int p1] (mk L μ) (mk L res.1, some (.int res.2)) := by
  refine Mx_of ml_124 (by rw [mx_124]; exact Nat.le_of_ble_eq_true rfl) ?_
  show Sx 124 0 [(0, .ref 57), (1, .int p1)] [] 0 0 (mk L μ) _
  unfold f124 at h
  refine sx_aload_n (i := 0) k124_0 rfl rfl ?_
  refine cx_getR (k := 6) k124_1 ow_124 fl_6_37 (by decide) sk_57 ft_5_6 sr_57_6 ?_
  refine sx_iload_n (i := 1) k124_4 rfl rfl ?_
  refine sx_iconst (v := 1) k124_5 (by decide) ?_
  refine sx_iand k124_6 ?_
  obtain ⟨o1, e2, h⟩ := Option.bind_eq_some_iff.mp h
  refine cx_aald (t := 0) k124_7 (by decide) sk_89 e2 ?_
  refine cx_getI (k := 1) k124_8 ow_124 fl_6_87 (by decide) (lk_89 e2) ft_1_1 ?_
  refine sx_aload_n (i := 0) k124_11 rfl rfl ?_
  refine cx_getR (k := 7) k124_12 ow_124 fl_6_41 (by decide) sk_57 ft_5_7 sr_57_7 ?_
  refine sx_iload_n (i := 1) k124_15 rfl rfl ?_
  refine sx_iconst (v := 1) k124_16 (by decide) ?_
  refine sx_iand k124_17 ?_
  obtain ⟨x3, e4, h⟩ := Option.bind_eq_some_iff.mp h
  refine cx_iald k124_18 sk_94 e4 ?_
  refine sx_isub k124_19 ?_
  exact cx_reti k124_20 rt_124 h
theorem k123_0 : decode (gb 123) 0 = .ok (.aload_n 2, 1) := by decide +kernel
theorem k123_1 : decode (gb 123) 1 = .ok (.getfield 114, 3) := by decide +kernel
theorem k123_4 : decode (gb 123) 4 = .ok (.ifCond .gt 22, 3) := by decide +kernel
theorem k123_7 : decode (gb 123) 7 = .ok (.aload_n 0, 1) := by decide +kernel
theorem k123_8 : decode (gb 123) 8 = .ok (.getfield 45, 3) := by decide +kernel
theorem k123_11 : decode (gb 123) 11 = .ok (.iload_n 1, 1) := by decide +kernel
theorem k123_12 : decode (gb 123) 12 = .ok (.iconst 1, 1) := by decide +kernel
theorem k123_13 : decode (gb 123) 13 = .ok (.iand, 1) := by decide +kernel
theorem k123_14 : decode (gb 123) 14 = .ok (.iaload, 1) := by decide +kernel
theorem k123_15 : decode (gb 123) 15 = .ok (.ifCond .ne 15, 3) := by decide +kernel
theorem k123_18 : decode (gb 123) 18 = .ok (.aload_n 0, 1) := by decide +kernel
theorem k123_19 : decode (gb 123) 19 = .ok (.iload_n 1, 1) := by decide +kernel
theorem k123_20 : decode (gb 123) 20 = .ok (.invokevirtual 162, 3) := by decide +kernel
theorem k123_23 : decode (gb 123) 23 = .ok (.ifCond .le 7, 3) := by decide +kernel
theorem k123_26 : decode (gb 123) 26 = .ok (.iconst 1, 1) := by decide +kernel
theorem k123_27 : decode (gb 123) 27 = .ok (.goto 4, 3) := by decide +kernel
theorem k123_30 : decode (gb 123) 30 = .ok (.iconst 0, 1) := by decide +kernel
theorem k123_31 : decode (gb 123) 31 = .ok (.ireturn, 1) := by decide +kernel
def c123_26 (p2 : Nat) (μ : Mem) : Option (Mem × Int32) :=
  rtZ (1 : Int32) μ
theorem c123_26_ok {L : Nat} (p2 : Nat) (h2 : SK0 p2 = (0, 7)) (μ : Mem) (res : Mem × Int32) (h : c123_26 p2 μ = some res) : Sx 123 26 [] [] 0 0 (mk L μ) (mk L res.1, some (.int res.2)) := by
  unfold c123_26 at h
  refine sx_iconst (v := 1) k123_26 (by decide) ?_
  refine sx_goto (tgt := 31) k123_27 (by decide) ?_
  exact cx_retz k123_31 rt_123 h
/-- Maker.wants(ILCraftHouse$Shelf;)Z -/
def f123 (p1 : Int32) (p2 : Nat) (μ : Mem) : Option (Mem × Int32) :=
  if 0 < (μ.1 p2 5) then
    c123_26 p2 μ
  else
    (ldA 95 (p1 &&& (1 : Int32)) μ).bind fun x2 =>
    if x2 = 0 then
      (f124 p1 μ).bind fun r5 =>
      if r5.2 ≤ 0 then
        rtZ (0 : Int32) r5.1
      else
        c123_26 p2 r5.1
    else
      rtZ (0 : Int32) μ
theorem ok123 {L : Nat} (p1 : Int32) (p2 : Nat) (h2 : SK0 p2 = (0, 7)) (μ : Mem) (res : Mem × Int32) (h : f123 p1 p2 μ = some res) : Mx 123 [.ref 57, .int p1, .ref p2] (mk L μ) (mk L res.1, some (.int res.2)) := by
  refine Mx_of ml_123 (by rw [mx_123]; exact Nat.le_of_ble_eq_true rfl) ?_
  show Sx 123 0 [(0, .ref 57), (1, .int p1), (2, .ref p2)] [] 0 0 (mk L μ) _
  unfold f123 at h
  refine sx_aload_n (i := 2) k123_0 rfl rfl ?_
  refine cx_getI (k := 5) k123_1 ow_123 fl_6_114 (by decide) h2 ft_7_5 ?_
  by_cases hb1 : 0 < (μ.1 p2 5)
  · rw [if_pos hb1] at h
    refine sx_if_gt (tgt := 26) k123_4 (by decide) (fun _ => ?_) (fun q => absurd hb1 q)
    refine sx_pick (lo2 := []) [] rfl ?_
    exact c123_26_ok p2 h2 _ _ h
  · rw [if_neg hb1] at h
    refine sx_if_gt (tgt := 26) k123_4 (by decide) (fun q => absurd q hb1) (fun _ => ?_)
    refine sx_aload_n (i := 0) k123_7 rfl rfl ?_
    refine cx_getR (k := 8) k123_8 ow_123 fl_6_45 (by decide) sk_57 ft_5_8 sr_57_8 ?_
    refine sx_iload_n (i := 1) k123_11 rfl rfl ?_
    refine sx_iconst (v := 1) k123_12 (by decide) ?_
    refine sx_iand k123_13 ?_
    obtain ⟨x2, e3, h⟩ := Option.bind_eq_some_iff.mp h
    refine cx_iald k123_14 sk_95 e3 ?_
    by_cases hb4 : x2 = 0
    · rw [if_pos hb4] at h
      refine sx_if_ne (tgt := 30) k123_15 (by decide) (fun q => absurd hb4 q) (fun _ => ?_)
      refine sx_aload_n (i := 0) k123_18 rfl rfl ?_
      refine sx_iload_n (i := 1) k123_19 rfl rfl ?_
      obtain ⟨r5, e6, h⟩ := Option.bind_eq_some_iff.mp h
      refine cx_V (sk := []) (vs := [.int p1]) st_123_124 k123_20 ow_123 cl_6_162 (by decide) rfl (Nat.le_of_ble_eq_true rfl) sk_57 (ok124 p1 _ _ e6) (sk3 := [.int r5.2]) rfl rfl ?_
      by_cases hb7 : r5.2 ≤ 0
      · rw [if_pos hb7] at h
        refine sx_if_le (tgt := 30) k123_23 (by decide) (fun _ => ?_) (fun q => absurd hb7 q)
        refine sx_iconst (v := 0) k123_30 (by decide) ?_
        exact cx_retz k123_31 rt_123 h
      · rw [if_neg hb7] at h
        refine sx_if_le (tgt := 30) k123_23 (by decide) (fun q => absurd q hb7) (fun _ => ?_)
        refine sx_pick (lo2 := []) [] rfl ?_
        exact c123_26_ok p2 h2 _ _ h
    · rw [if_neg hb4] at h
      refine sx_if_ne (tgt := 30) k123_15 (by decide) (fun _ => ?_) (fun q => absurd q hb4)
      refine sx_iconst (v := 0) k123_30 (by decide) ?_
      exact cx_retz k123_31 rt_123 h
theorem k122_0 : decode (gb 122) 0 = .ok (.aload_n 0, 1) := by decide +kernel
theorem k122_1 : decode (gb 122) 1 = .ok (.iconst 0, 1) := by decide +kernel
theorem k122_2 : decode (gb 122) 2 = .ok (.aload_n 0, 1) := by decide +kernel
theorem k122_3 : decode (gb 122) 3 = .ok (.getfield 21, 3) := by decide +kernel
theorem k122_6 : decode (gb 122) 6 = .ok (.invokevirtual 158, 3) := by decide +kernel
theorem k122_9 : decode (gb 122) 9 = .ok (.istore_n 1, 1) := by decide +kernel
theorem k122_10 : decode (gb 122) 10 = .ok (.aload_n 0, 1) := by decide +kernel
theorem k122_11 : decode (gb 122) 11 = .ok (.iconst 1, 1) := by decide +kernel
theorem k122_12 : decode (gb 122) 12 = .ok (.aload_n 0, 1) := by decide +kernel
theorem k122_13 : decode (gb 122) 13 = .ok (.getfield 25, 3) := by decide +kernel
theorem k122_16 : decode (gb 122) 16 = .ok (.invokevirtual 158, 3) := by decide +kernel
theorem k122_19 : decode (gb 122) 19 = .ok (.ifCond .eq 16, 3) := by decide +kernel
theorem k122_22 : decode (gb 122) 22 = .ok (.aload_n 0, 1) := by decide +kernel
theorem k122_23 : decode (gb 122) 23 = .ok (.getfield 128, 3) := by decide +kernel
theorem k122_26 : decode (gb 122) 26 = .ok (.ifCond .eq 7, 3) := by decide +kernel
theorem k122_29 : decode (gb 122) 29 = .ok (.iload_n 1, 1) := by decide +kernel
theorem k122_30 : decode (gb 122) 30 = .ok (.ifCond .ne 5, 3) := by decide +kernel
theorem k122_33 : decode (gb 122) 33 = .ok (.iconst 1, 1) := by decide +kernel
theorem k122_34 : decode (gb 122) 34 = .ok (.ireturn, 1) := by decide +kernel
theorem k122_35 : decode (gb 122) 35 = .ok (.iload_n 1, 1) := by decide +kernel
theorem k122_36 : decode (gb 122) 36 = .ok (.ifCond .eq 7, 3) := by decide +kernel
theorem k122_39 : decode (gb 122) 39 = .ok (.iconst 0, 1) := by decide +kernel
theorem k122_40 : decode (gb 122) 40 = .ok (.goto 5, 3) := by decide +kernel
theorem k122_43 : decode (gb 122) 43 = .ok (.bipush 7, 2) := by decide +kernel
theorem k122_45 : decode (gb 122) 45 = .ok (.ireturn, 1) := by decide +kernel
def c122_35 (v1 : Int32) (μ : Mem) : Option (Mem × Int32) :=
  if v1 = 0 then
    some (μ, (7 : Int32))
  else
    some (μ, (0 : Int32))
theorem c122_35_ok {L : Nat} (v1 : Int32) (μ : Mem) (res : Mem × Int32) (h : c122_35 v1 μ = some res) : Sx 122 35 [(1, .int v1)] [] 0 0 (mk L μ) (mk L res.1, some (.int res.2)) := by
  unfold c122_35 at h
  refine sx_iload_n (i := 1) k122_35 rfl rfl ?_
  by_cases hb1 : v1 = 0
  · rw [if_pos hb1] at h
    refine sx_if_eq (tgt := 43) k122_36 (by decide) (fun _ => ?_) (fun q => absurd hb1 q)
    refine sx_bipush (v := 7) k122_43 (by decide) ?_
    exact cx_reti k122_45 rt_122 h
  · rw [if_neg hb1] at h
    refine sx_if_eq (tgt := 43) k122_36 (by decide) (fun q => absurd q hb1) (fun _ => ?_)
    refine sx_iconst (v := 0) k122_39 (by decide) ?_
    refine sx_goto (tgt := 45) k122_40 (by decide) ?_
    exact cx_reti k122_45 rt_122 h
/-- Maker.nextChannel()I -/
def f122 (μ : Mem) : Option (Mem × Int32) :=
  (f123 (0 : Int32) 75 μ).bind fun r1 =>
  (f123 (1 : Int32) 81 r1.1).bind fun r3 =>
  if r3.2 = 0 then
    c122_35 r1.2 r3.1
  else
    if (r3.1.1 57 17) = 0 then
      some (r3.1, (1 : Int32))
    else
      if r1.2 = 0 then
        some (r3.1, (1 : Int32))
      else
        c122_35 r1.2 r3.1
theorem ok122 {L : Nat} (μ : Mem) (res : Mem × Int32) (h : f122 μ = some res) : Mx 122 [.ref 57] (mk L μ) (mk L res.1, some (.int res.2)) := by
  refine Mx_of ml_122 (by rw [mx_122]; exact Nat.le_of_ble_eq_true rfl) ?_
  show Sx 122 0 [(0, .ref 57)] [] 0 0 (mk L μ) _
  unfold f122 at h
  refine sx_aload_n (i := 0) k122_0 rfl rfl ?_
  refine sx_iconst (v := 0) k122_1 (by decide) ?_
  refine sx_aload_n (i := 0) k122_2 rfl rfl ?_
  refine cx_getR (k := 3) k122_3 ow_122 fl_6_21 (by decide) sk_57 ft_5_3 sr_57_3 ?_
  obtain ⟨r1, e2, h⟩ := Option.bind_eq_some_iff.mp h
  refine cx_V (sk := []) (vs := [.int (0 : Int32), .ref 75]) st_122_123 k122_6 ow_122 cl_6_158 (by decide) rfl (Nat.le_of_ble_eq_true rfl) sk_57 (ok123 (0 : Int32) 75 sk_75 _ _ e2) (sk3 := [.int r1.2]) rfl rfl ?_
  refine cx_istore_n (lo2 := [(1, .int r1.2), (0, .ref 57)]) k122_9 rfl (by rw [mx_122]; decide) rfl ?_
  refine sx_aload_n (i := 0) k122_10 rfl rfl ?_
  refine sx_iconst (v := 1) k122_11 (by decide) ?_
  refine sx_aload_n (i := 0) k122_12 rfl rfl ?_
  refine cx_getR (k := 4) k122_13 ow_122 fl_6_25 (by decide) sk_57 ft_5_4 sr_57_4 ?_
  obtain ⟨r3, e4, h⟩ := Option.bind_eq_some_iff.mp h
  refine cx_V (sk := []) (vs := [.int (1 : Int32), .ref 81]) st_122_123 k122_16 ow_122 cl_6_158 (by decide) rfl (Nat.le_of_ble_eq_true rfl) sk_57 (ok123 (1 : Int32) 81 sk_81 _ _ e4) (sk3 := [.int r3.2]) rfl rfl ?_
  by_cases hb5 : r3.2 = 0
  · rw [if_pos hb5] at h
    refine sx_if_eq (tgt := 35) k122_19 (by decide) (fun _ => ?_) (fun q => absurd hb5 q)
    refine sx_pick (lo2 := [(1, .int r1.2)]) [0] rfl ?_
    exact c122_35_ok r1.2 _ _ h
  · rw [if_neg hb5] at h
    refine sx_if_eq (tgt := 35) k122_19 (by decide) (fun q => absurd q hb5) (fun _ => ?_)
    refine sx_aload_n (i := 0) k122_22 rfl rfl ?_
    refine cx_getI (k := 17) k122_23 ow_122 fl_6_128 (by decide) sk_57 ft_5_17 ?_
    by_cases hb6 : (r3.1.1 57 17) = 0
    · rw [if_pos hb6] at h
      refine sx_if_eq (tgt := 33) k122_26 (by decide) (fun _ => ?_) (fun q => absurd hb6 q)
      refine sx_iconst (v := 1) k122_33 (by decide) ?_
      exact cx_reti k122_34 rt_122 h
    · rw [if_neg hb6] at h
      refine sx_if_eq (tgt := 33) k122_26 (by decide) (fun q => absurd q hb6) (fun _ => ?_)
      refine sx_iload_n (i := 1) k122_29 rfl rfl ?_
      by_cases hb7 : r1.2 = 0
      · rw [if_pos hb7] at h
        refine sx_if_ne (tgt := 35) k122_30 (by decide) (fun q => absurd hb7 q) (fun _ => ?_)
        refine sx_iconst (v := 1) k122_33 (by decide) ?_
        exact cx_reti k122_34 rt_122 h
      · rw [if_neg hb7] at h
        refine sx_if_ne (tgt := 35) k122_30 (by decide) (fun _ => ?_) (fun q => absurd q hb7)
        refine sx_pick (lo2 := [(1, .int r1.2)]) [0] rfl ?_
        exact c122_35_ok r1.2 _ _ h
theorem k127_0 : decode (gb 127) 0 = .ok (.aload_n 1, 1) := by decide +kernel
theorem k127_1 : decode (gb 127) 1 = .ok (.invokevirtual 65, 3) := by decide +kernel
theorem k127_4 : decode (gb 127) 4 = .ok (.aload_n 1, 1) := by decide +kernel
theorem k127_5 : decode (gb 127) 5 = .ok (.sipush 2047, 3) := by decide +kernel
theorem k127_8 : decode (gb 127) 8 = .ok (.invokevirtual 68, 3) := by decide +kernel
theorem k127_11 : decode (gb 127) 11 = .ok (.aload_n 1, 1) := by decide +kernel
theorem k127_12 : decode (gb 127) 12 = .ok (.ldc 71, 2) := by decide +kernel
theorem k127_14 : decode (gb 127) 14 = .ok (.invokevirtual 68, 3) := by decide +kernel
theorem k127_17 : decode (gb 127) 17 = .ok (.aload_n 1, 1) := by decide +kernel
theorem k127_18 : decode (gb 127) 18 = .ok (.iload_n 2, 1) := by decide +kernel
theorem k127_19 : decode (gb 127) 19 = .ok (.bipush 7, 2) := by decide +kernel
theorem k127_21 : decode (gb 127) 21 = .ok (.isub, 1) := by decide +kernel
theorem k127_22 : decode (gb 127) 22 = .ok (.invokevirtual 68, 3) := by decide +kernel
theorem k127_25 : decode (gb 127) 25 = .ok (.aload_n 1, 1) := by decide +kernel
theorem k127_26 : decode (gb 127) 26 = .ok (.iconst 0, 1) := by decide +kernel
theorem k127_27 : decode (gb 127) 27 = .ok (.iload_n 2, 1) := by decide +kernel
theorem k127_28 : decode (gb 127) 28 = .ok (.bipush 6, 2) := by decide +kernel
theorem k127_30 : decode (gb 127) 30 = .ok (.isub, 1) := by decide +kernel
theorem k127_31 : decode (gb 127) 31 = .ok (.invokevirtual 135, 3) := by decide +kernel
theorem k127_34 : decode (gb 127) 34 = .ok (.return_, 1) := by decide +kernel
/-- Maker.putIdle(LCraftHouse$Bytes;I)V -/
def f127 (p1 : Nat) (p2 : Int32) (μ : Mem) : Option (Mem) :=
  (f64 p1 μ).bind fun r1 =>
  (f66 p1 (2047 : Int32) r1).bind fun r3 =>
  (f66 p1 (49152 : Int32) r3).bind fun r5 =>
  (f66 p1 (p2 - (7 : Int32)) r5).bind fun r7 =>
  (f69 p1 (0 : Int32) (p2 - (6 : Int32)) r7).bind fun r9 =>
  some r9
theorem ok127 {L : Nat} (p1 : Nat) (p2 : Int32) (h1 : SK0 p1 = (0, 1)) (μ : Mem) (res : Mem) (h : f127 p1 p2 μ = some res) : Mx 127 [.ref 57, .ref p1, .int p2] (mk L μ) (mk L res, none) := by
  refine Mx_of ml_127 (by rw [mx_127]; exact Nat.le_of_ble_eq_true rfl) ?_
  show Sx 127 0 [(0, .ref 57), (1, .ref p1), (2, .int p2)] [] 0 0 (mk L μ) _
  unfold f127 at h
  refine sx_aload_n (i := 1) k127_0 rfl rfl ?_
  obtain ⟨r1, e2, h⟩ := Option.bind_eq_some_iff.mp h
  refine cx_V (sk := []) (vs := []) st_127_64 k127_1 ow_127 cl_6_65 (by decide) rfl (Nat.le_of_ble_eq_true rfl) h1 (ok64 p1 h1 _ _ e2) (sk3 := []) rfl rfl ?_
  refine sx_aload_n (i := 1) k127_4 rfl rfl ?_
  refine sx_sipush (v := 2047) k127_5 (by decide) ?_
  obtain ⟨r3, e4, h⟩ := Option.bind_eq_some_iff.mp h
  refine cx_V (sk := []) (vs := [.int (2047 : Int32)]) st_127_66 k127_8 ow_127 cl_6_68 (by decide) rfl (Nat.le_of_ble_eq_true rfl) h1 (ok66 p1 (2047 : Int32) h1 _ _ e4) (sk3 := []) rfl rfl ?_
  refine sx_aload_n (i := 1) k127_11 rfl rfl ?_
  refine cx_ldc (v := 49152) k127_12 ow_127 kl_6_71 (by decide) ?_
  obtain ⟨r5, e6, h⟩ := Option.bind_eq_some_iff.mp h
  refine cx_V (sk := []) (vs := [.int (49152 : Int32)]) st_127_66 k127_14 ow_127 cl_6_68 (by decide) rfl (Nat.le_of_ble_eq_true rfl) h1 (ok66 p1 (49152 : Int32) h1 _ _ e6) (sk3 := []) rfl rfl ?_
  refine sx_aload_n (i := 1) k127_17 rfl rfl ?_
  refine sx_iload_n (i := 2) k127_18 rfl rfl ?_
  refine sx_bipush (v := 7) k127_19 (by decide) ?_
  refine sx_isub k127_21 ?_
  obtain ⟨r7, e8, h⟩ := Option.bind_eq_some_iff.mp h
  refine cx_V (sk := []) (vs := [.int (p2 - (7 : Int32))]) st_127_66 k127_22 ow_127 cl_6_68 (by decide) rfl (Nat.le_of_ble_eq_true rfl) h1 (ok66 p1 (p2 - (7 : Int32)) h1 _ _ e8) (sk3 := []) rfl rfl ?_
  refine sx_aload_n (i := 1) k127_25 rfl rfl ?_
  refine sx_iconst (v := 0) k127_26 (by decide) ?_
  refine sx_iload_n (i := 2) k127_27 rfl rfl ?_
  refine sx_bipush (v := 6) k127_28 (by decide) ?_
  refine sx_isub k127_30 ?_
  obtain ⟨r9, e10, h⟩ := Option.bind_eq_some_iff.mp h
  refine cx_V (sk := []) (vs := [.int (0 : Int32), .int (p2 - (6 : Int32))]) st_127_69 k127_31 ow_127 cl_6_135 (by decide) rfl (Nat.le_of_ble_eq_true rfl) h1 (ok69 p1 (0 : Int32) (p2 - (6 : Int32)) h1 _ _ e10) (sk3 := []) rfl rfl ?_
  exact cx_retv k127_34 rt_127 h
theorem k126_0 : decode (gb 126) 0 = .ok (.aload_n 0, 1) := by decide +kernel
theorem k126_1 : decode (gb 126) 1 = .ok (.getfield 41, 3) := by decide +kernel
theorem k126_4 : decode (gb 126) 4 = .ok (.iload_n 1, 1) := by decide +kernel
theorem k126_5 : decode (gb 126) 5 = .ok (.iconst 1, 1) := by decide +kernel
theorem k126_6 : decode (gb 126) 6 = .ok (.iand, 1) := by decide +kernel
theorem k126_7 : decode (gb 126) 7 = .ok (.iconst 0, 1) := by decide +kernel
theorem k126_8 : decode (gb 126) 8 = .ok (.iastore, 1) := by decide +kernel
theorem k126_9 : decode (gb 126) 9 = .ok (.aload_n 2, 1) := by decide +kernel
theorem k126_10 : decode (gb 126) 10 = .ok (.getfield 114, 3) := by decide +kernel
theorem k126_13 : decode (gb 126) 13 = .ok (.ifCond .le 33, 3) := by decide +kernel
theorem k126_16 : decode (gb 126) 16 = .ok (.aload_n 2, 1) := by decide +kernel
theorem k126_17 : decode (gb 126) 17 = .ok (.iconst 0, 1) := by decide +kernel
theorem k126_18 : decode (gb 126) 18 = .ok (.aload_n 0, 1) := by decide +kernel
theorem k126_19 : decode (gb 126) 19 = .ok (.getfield 37, 3) := by decide +kernel
theorem k126_22 : decode (gb 126) 22 = .ok (.iload_n 1, 1) := by decide +kernel
theorem k126_23 : decode (gb 126) 23 = .ok (.iconst 1, 1) := by decide +kernel
theorem k126_24 : decode (gb 126) 24 = .ok (.iand, 1) := by decide +kernel
theorem k126_25 : decode (gb 126) 25 = .ok (.aaload, 1) := by decide +kernel
theorem k126_26 : decode (gb 126) 26 = .ok (.invokevirtual 120, 3) := by decide +kernel
theorem k126_29 : decode (gb 126) 29 = .ok (.aload_n 2, 1) := by decide +kernel
theorem k126_30 : decode (gb 126) 30 = .ok (.iconst 0, 1) := by decide +kernel
theorem k126_31 : decode (gb 126) 31 = .ok (.invokevirtual 182, 3) := by decide +kernel
theorem k126_34 : decode (gb 126) 34 = .ok (.aload_n 0, 1) := by decide +kernel
theorem k126_35 : decode (gb 126) 35 = .ok (.getfield 45, 3) := by decide +kernel
theorem k126_38 : decode (gb 126) 38 = .ok (.iload_n 1, 1) := by decide +kernel
theorem k126_39 : decode (gb 126) 39 = .ok (.iconst 1, 1) := by decide +kernel
theorem k126_40 : decode (gb 126) 40 = .ok (.iand, 1) := by decide +kernel
theorem k126_41 : decode (gb 126) 41 = .ok (.iconst 0, 1) := by decide +kernel
theorem k126_42 : decode (gb 126) 42 = .ok (.iastore, 1) := by decide +kernel
theorem k126_43 : decode (gb 126) 43 = .ok (.goto 30, 3) := by decide +kernel
theorem k126_46 : decode (gb 126) 46 = .ok (.aload_n 0, 1) := by decide +kernel
theorem k126_47 : decode (gb 126) 47 = .ok (.aload_n 0, 1) := by decide +kernel
theorem k126_48 : decode (gb 126) 48 = .ok (.getfield 37, 3) := by decide +kernel
theorem k126_51 : decode (gb 126) 51 = .ok (.iload_n 1, 1) := by decide +kernel
theorem k126_52 : decode (gb 126) 52 = .ok (.iconst 1, 1) := by decide +kernel
theorem k126_53 : decode (gb 126) 53 = .ok (.iand, 1) := by decide +kernel
theorem k126_54 : decode (gb 126) 54 = .ok (.aaload, 1) := by decide +kernel
theorem k126_55 : decode (gb 126) 55 = .ok (.iload_n 3, 1) := by decide +kernel
theorem k126_56 : decode (gb 126) 56 = .ok (.bipush 7, 2) := by decide +kernel
theorem k126_58 : decode (gb 126) 58 = .ok (.invokestatic 185, 3) := by decide +kernel
theorem k126_61 : decode (gb 126) 61 = .ok (.invokevirtual 188, 3) := by decide +kernel
theorem k126_64 : decode (gb 126) 64 = .ok (.aload_n 0, 1) := by decide +kernel
theorem k126_65 : decode (gb 126) 65 = .ok (.getfield 45, 3) := by decide +kernel
theorem k126_68 : decode (gb 126) 68 = .ok (.iload_n 1, 1) := by decide +kernel
theorem k126_69 : decode (gb 126) 69 = .ok (.iconst 1, 1) := by decide +kernel
theorem k126_70 : decode (gb 126) 70 = .ok (.iand, 1) := by decide +kernel
theorem k126_71 : decode (gb 126) 71 = .ok (.iconst 1, 1) := by decide +kernel
theorem k126_72 : decode (gb 126) 72 = .ok (.iastore, 1) := by decide +kernel
theorem k126_73 : decode (gb 126) 73 = .ok (.return_, 1) := by decide +kernel
/-- Maker.beginNext(ILCraftHouse$Shelf;I)V -/
def f126 (p1 : Int32) (p2 : Nat) (p3 : Int32) (μ : Mem) : Option (Mem) :=
  (stA 94 (p1 &&& (1 : Int32)) (0 : Int32) μ).bind fun m1 =>
  if (m1.1 p2 5) ≤ 0 then
    (ldR 89 (p1 &&& (1 : Int32))).bind fun o4 =>
    (f127 o4 (jmax p3 (7 : Int32)) m1).bind fun r6 =>
    (stA 95 (p1 &&& (1 : Int32)) (1 : Int32) r6).bind fun m8 =>
    some m8
  else
    (ldR 89 (p1 &&& (1 : Int32))).bind fun o10 =>
    (f164 p2 (0 : Int32) o10 m1).bind fun r12 =>
    (f162 p2 (0 : Int32) r12).bind fun r14 =>
    (stA 95 (p1 &&& (1 : Int32)) (0 : Int32) r14).bind fun m16 =>
    some m16
theorem ok126 {L : Nat} (p1 : Int32) (p2 : Nat) (p3 : Int32) (h2 : SK0 p2 = (0, 7)) (μ : Mem) (res : Mem) (h : f126 p1 p2 p3 μ = some res) : Mx 126 [.ref 57, .int p1, .ref p2, .int p3] (mk L μ) (mk L res, none) := by
  refine Mx_of ml_126 (by rw [mx_126]; exact Nat.le_of_ble_eq_true rfl) ?_
  show Sx 126 0 [(0, .ref 57), (1, .int p1), (2, .ref p2), (3, .int p3)] [] 0 0 (mk L μ) _
  unfold f126 at h
  refine sx_aload_n (i := 0) k126_0 rfl rfl ?_
  refine cx_getR (k := 7) k126_1 ow_126 fl_6_41 (by decide) sk_57 ft_5_7 sr_57_7 ?_
  refine sx_iload_n (i := 1) k126_4 rfl rfl ?_
  refine sx_iconst (v := 1) k126_5 (by decide) ?_
  refine sx_iand k126_6 ?_
  refine sx_iconst (v := 0) k126_7 (by decide) ?_
  obtain ⟨m1, e2, h⟩ := Option.bind_eq_some_iff.mp h
  refine cx_iast k126_8 sk_94 e2 ?_
  refine sx_aload_n (i := 2) k126_9 rfl rfl ?_
  refine cx_getI (k := 5) k126_10 ow_126 fl_6_114 (by decide) h2 ft_7_5 ?_
  by_cases hb3 : (m1.1 p2 5) ≤ 0
  · rw [if_pos hb3] at h
    refine sx_if_le (tgt := 46) k126_13 (by decide) (fun _ => ?_) (fun q => absurd hb3 q)
    refine sx_aload_n (i := 0) k126_46 rfl rfl ?_
    refine sx_aload_n (i := 0) k126_47 rfl rfl ?_
    refine cx_getR (k := 6) k126_48 ow_126 fl_6_37 (by decide) sk_57 ft_5_6 sr_57_6 ?_
    refine sx_iload_n (i := 1) k126_51 rfl rfl ?_
    refine sx_iconst (v := 1) k126_52 (by decide) ?_
    refine sx_iand k126_53 ?_
    obtain ⟨o4, e5, h⟩ := Option.bind_eq_some_iff.mp h
    refine cx_aald (t := 0) k126_54 (by decide) sk_89 e5 ?_
    refine sx_iload_n (i := 3) k126_55 rfl rfl ?_
    refine sx_bipush (v := 7) k126_56 (by decide) ?_
    refine cx_max k126_58 ow_126 xl_6_185 (by decide) (by decide +kernel) (Nat.le_of_ble_eq_true rfl) ?_
    obtain ⟨r6, e7, h⟩ := Option.bind_eq_some_iff.mp h
    refine cx_V (sk := []) (vs := [.ref o4, .int (jmax p3 (7 : Int32))]) st_126_127 k126_61 ow_126 cl_6_188 (by decide) rfl (Nat.le_of_ble_eq_true rfl) sk_57 (ok127 o4 (jmax p3 (7 : Int32)) (lk_89 e5) _ _ e7) (sk3 := []) rfl rfl ?_
    refine sx_aload_n (i := 0) k126_64 rfl rfl ?_
    refine cx_getR (k := 8) k126_65 ow_126 fl_6_45 (by decide) sk_57 ft_5_8 sr_57_8 ?_
    refine sx_iload_n (i := 1) k126_68 rfl rfl ?_
    refine sx_iconst (v := 1) k126_69 (by decide) ?_
    refine sx_iand k126_70 ?_
    refine sx_iconst (v := 1) k126_71 (by decide) ?_
    obtain ⟨m8, e9, h⟩ := Option.bind_eq_some_iff.mp h
    refine cx_iast k126_72 sk_95 e9 ?_
    exact cx_retv k126_73 rt_126 h
  · rw [if_neg hb3] at h
    refine sx_if_le (tgt := 46) k126_13 (by decide) (fun q => absurd q hb3) (fun _ => ?_)
    refine sx_aload_n (i := 2) k126_16 rfl rfl ?_
    refine sx_iconst (v := 0) k126_17 (by decide) ?_
    refine sx_aload_n (i := 0) k126_18 rfl rfl ?_
    refine cx_getR (k := 6) k126_19 ow_126 fl_6_37 (by decide) sk_57 ft_5_6 sr_57_6 ?_
    refine sx_iload_n (i := 1) k126_22 rfl rfl ?_
    refine sx_iconst (v := 1) k126_23 (by decide) ?_
    refine sx_iand k126_24 ?_
    obtain ⟨o10, e11, h⟩ := Option.bind_eq_some_iff.mp h
    refine cx_aald (t := 0) k126_25 (by decide) sk_89 e11 ?_
    obtain ⟨r12, e13, h⟩ := Option.bind_eq_some_iff.mp h
    refine cx_V (sk := []) (vs := [.int (0 : Int32), .ref o10]) st_126_164 k126_26 ow_126 cl_6_120 (by decide) rfl (Nat.le_of_ble_eq_true rfl) h2 (ok164 p2 (0 : Int32) o10 h2 (lk_89 e11) _ _ e13) (sk3 := []) rfl rfl ?_
    refine sx_aload_n (i := 2) k126_29 rfl rfl ?_
    refine sx_iconst (v := 0) k126_30 (by decide) ?_
    obtain ⟨r14, e15, h⟩ := Option.bind_eq_some_iff.mp h
    refine cx_V (sk := []) (vs := [.int (0 : Int32)]) st_126_162 k126_31 ow_126 cl_6_182 (by decide) rfl (Nat.le_of_ble_eq_true rfl) h2 (ok162 p2 (0 : Int32) h2 _ _ e15) (sk3 := []) rfl rfl ?_
    refine sx_aload_n (i := 0) k126_34 rfl rfl ?_
    refine cx_getR (k := 8) k126_35 ow_126 fl_6_45 (by decide) sk_57 ft_5_8 sr_57_8 ?_
    refine sx_iload_n (i := 1) k126_38 rfl rfl ?_
    refine sx_iconst (v := 1) k126_39 (by decide) ?_
    refine sx_iand k126_40 ?_
    refine sx_iconst (v := 0) k126_41 (by decide) ?_
    obtain ⟨m16, e17, h⟩ := Option.bind_eq_some_iff.mp h
    refine cx_iast k126_42 sk_95 e17 ?_
    refine sx_goto (tgt := 73) k126_43 (by decide) ?_
    exact cx_retv k126_73 rt_126 h
theorem k125_0 : decode (gb 125) 0 = .ok (.iload_n 1, 1) := by decide +kernel
theorem k125_1 : decode (gb 125) 1 = .ok (.iconst 1, 1) := by decide +kernel
theorem k125_2 : decode (gb 125) 2 = .ok (.iand, 1) := by decide +kernel
theorem k125_3 : decode (gb 125) 3 = .ok (.istore_n 2, 1) := by decide +kernel
theorem k125_4 : decode (gb 125) 4 = .ok (.iload_n 1, 1) := by decide +kernel
theorem k125_5 : decode (gb 125) 5 = .ok (.iconst 1, 1) := by decide +kernel
theorem k125_6 : decode (gb 125) 6 = .ok (.if_icmp .ne 10, 3) := by decide +kernel
theorem k125_9 : decode (gb 125) 9 = .ok (.aload_n 0, 1) := by decide +kernel
theorem k125_10 : decode (gb 125) 10 = .ok (.getfield 25, 3) := by decide +kernel
theorem k125_13 : decode (gb 125) 13 = .ok (.goto 7, 3) := by decide +kernel
theorem k125_16 : decode (gb 125) 16 = .ok (.aload_n 0, 1) := by decide +kernel
theorem k125_17 : decode (gb 125) 17 = .ok (.getfield 21, 3) := by decide +kernel
theorem k125_20 : decode (gb 125) 20 = .ok (.astore_n 3, 1) := by decide +kernel
theorem k125_21 : decode (gb 125) 21 = .ok (.bipush 52, 2) := by decide +kernel
theorem k125_23 : decode (gb 125) 23 = .ok (.istore 4, 2) := by decide +kernel
theorem k125_25 : decode (gb 125) 25 = .ok (.iconst 0, 1) := by decide +kernel
theorem k125_26 : decode (gb 125) 26 = .ok (.istore 5, 2) := by decide +kernel
theorem k125_28 : decode (gb 125) 28 = .ok (.iload 5, 2) := by decide +kernel
theorem k125_30 : decode (gb 125) 30 = .ok (.bipush 52, 2) := by decide +kernel
theorem k125_32 : decode (gb 125) 32 = .ok (.if_icmp .ge 103, 3) := by decide +kernel
theorem k125_35 : decode (gb 125) 35 = .ok (.iload 4, 2) := by decide +kernel
theorem k125_37 : decode (gb 125) 37 = .ok (.ifCond .le 98, 3) := by decide +kernel
theorem k125_40 : decode (gb 125) 40 = .ok (.aload_n 0, 1) := by decide +kernel
theorem k125_41 : decode (gb 125) 41 = .ok (.iload_n 2, 1) := by decide +kernel
theorem k125_42 : decode (gb 125) 42 = .ok (.invokevirtual 162, 3) := by decide +kernel
theorem k125_45 : decode (gb 125) 45 = .ok (.ifCond .ne 30, 3) := by decide +kernel
theorem k125_48 : decode (gb 125) 48 = .ok (.aload_n 0, 1) := by decide +kernel
theorem k125_49 : decode (gb 125) 49 = .ok (.getfield 138, 3) := by decide +kernel
theorem k125_52 : decode (gb 125) 52 = .ok (.sipush 2047, 3) := by decide +kernel
theorem k125_55 : decode (gb 125) 55 = .ok (.if_icmp .ne 12, 3) := by decide +kernel
theorem k125_58 : decode (gb 125) 58 = .ok (.aload_n 0, 1) := by decide +kernel
theorem k125_59 : decode (gb 125) 59 = .ok (.bipush 52, 2) := by decide +kernel
theorem k125_61 : decode (gb 125) 61 = .ok (.iload 4, 2) := by decide +kernel
theorem k125_63 : decode (gb 125) 63 = .ok (.isub, 1) := by decide +kernel
theorem k125_64 : decode (gb 125) 64 = .ok (.putfield 138, 3) := by decide +kernel
theorem k125_67 : decode (gb 125) 67 = .ok (.aload_n 0, 1) := by decide +kernel
theorem k125_68 : decode (gb 125) 68 = .ok (.iload_n 2, 1) := by decide +kernel
theorem k125_69 : decode (gb 125) 69 = .ok (.aload_n 3, 1) := by decide +kernel
theorem k125_70 : decode (gb 125) 70 = .ok (.iload 4, 2) := by decide +kernel
theorem k125_72 : decode (gb 125) 72 = .ok (.invokevirtual 165, 3) := by decide +kernel
theorem k125_75 : decode (gb 125) 75 = .ok (.aload_n 0, 1) := by decide +kernel
theorem k125_76 : decode (gb 125) 76 = .ok (.iload_n 2, 1) := by decide +kernel
theorem k125_77 : decode (gb 125) 77 = .ok (.invokevirtual 162, 3) := by decide +kernel
theorem k125_80 : decode (gb 125) 80 = .ok (.iload 4, 2) := by decide +kernel
theorem k125_82 : decode (gb 125) 82 = .ok (.invokestatic 169, 3) := by decide +kernel
theorem k125_85 : decode (gb 125) 85 = .ok (.istore 6, 2) := by decide +kernel
theorem k125_87 : decode (gb 125) 87 = .ok (.aload_n 0, 1) := by decide +kernel
theorem k125_88 : decode (gb 125) 88 = .ok (.getfield 51, 3) := by decide +kernel
theorem k125_91 : decode (gb 125) 91 = .ok (.aload_n 0, 1) := by decide +kernel
theorem k125_92 : decode (gb 125) 92 = .ok (.getfield 37, 3) := by decide +kernel
theorem k125_95 : decode (gb 125) 95 = .ok (.iload_n 2, 1) := by decide +kernel
theorem k125_96 : decode (gb 125) 96 = .ok (.aaload, 1) := by decide +kernel
theorem k125_97 : decode (gb 125) 97 = .ok (.getfield 175, 3) := by decide +kernel
theorem k125_100 : decode (gb 125) 100 = .ok (.aload_n 0, 1) := by decide +kernel
theorem k125_101 : decode (gb 125) 101 = .ok (.getfield 41, 3) := by decide +kernel
theorem k125_104 : decode (gb 125) 104 = .ok (.iload_n 2, 1) := by decide +kernel
theorem k125_105 : decode (gb 125) 105 = .ok (.iaload, 1) := by decide +kernel
theorem k125_106 : decode (gb 125) 106 = .ok (.iload 6, 2) := by decide +kernel
theorem k125_108 : decode (gb 125) 108 = .ok (.invokevirtual 178, 3) := by decide +kernel
theorem k125_111 : decode (gb 125) 111 = .ok (.aload_n 0, 1) := by decide +kernel
theorem k125_112 : decode (gb 125) 112 = .ok (.getfield 41, 3) := by decide +kernel
theorem k125_115 : decode (gb 125) 115 = .ok (.iload_n 2, 1) := by decide +kernel
theorem k125_116 : decode (gb 125) 116 = .ok (.dup2, 1) := by decide +kernel
theorem k125_117 : decode (gb 125) 117 = .ok (.iaload, 1) := by decide +kernel
theorem k125_118 : decode (gb 125) 118 = .ok (.iload 6, 2) := by decide +kernel
theorem k125_120 : decode (gb 125) 120 = .ok (.iadd, 1) := by decide +kernel
theorem k125_121 : decode (gb 125) 121 = .ok (.iastore, 1) := by decide +kernel
theorem k125_122 : decode (gb 125) 122 = .ok (.iload 4, 2) := by decide +kernel
theorem k125_124 : decode (gb 125) 124 = .ok (.iload 6, 2) := by decide +kernel
theorem k125_126 : decode (gb 125) 126 = .ok (.isub, 1) := by decide +kernel
theorem k125_127 : decode (gb 125) 127 = .ok (.istore 4, 2) := by decide +kernel
theorem k125_129 : decode (gb 125) 129 = .ok (.iinc 5 1, 3) := by decide +kernel
theorem k125_132 : decode (gb 125) 132 = .ok (.goto (-104), 3) := by decide +kernel
theorem k125_135 : decode (gb 125) 135 = .ok (.return_, 1) := by decide +kernel
def c125_75 (kl28 : Int32 → Nat → Int32 → Int32 → Mem → Option (Mem)) (v2 : Int32) (q3 : Nat) (v4 : Int32) (v5 : Int32) (μ : Mem) : Option (Mem) :=
  (f124 v2 μ).bind fun r1 =>
  nm (jmin r1.2 v4) fun x3 =>
  (ldR 89 v2).bind fun o4 =>
  (ldA 94 v2 r1.1).bind fun x6 =>
  (f70 97 (o4 + 1) x6 x3 r1.1).bind fun r8 =>
  (ldA 94 v2 r8).bind fun x10 =>
  (stA 94 v2 (x10 + x3) r8).bind fun m12 =>
  nm (v4 - x3) fun x14 =>
  nm (v5 + (1 : Int32)) fun x15 =>
  kl28 v2 q3 x14 x15 m12
theorem c125_75_ok {L : Nat} (kl28 : Int32 → Nat → Int32 → Int32 → Mem → Option (Mem)) (hk28 : (∀ (v2 : Int32) (q3 : Nat) (v4 : Int32) (v5 : Int32) (hq3 : SK0 q3 = (0, 7)) (μ : Mem) (res : Mem), kl28 v2 q3 v4 v5 μ = some res → Sx 125 28 [(0, .ref 57), (2, .int v2), (3, .ref q3), (4, .int v4), (5, .int v5)] [] 0 0 (mk L μ) (mk L res, none))) (v2 : Int32) (q3 : Nat) (v4 : Int32) (v5 : Int32) (hq3 : SK0 q3 = (0, 7)) (μ : Mem) (res : Mem) (h : c125_75 kl28 v2 q3 v4 v5 μ = some res) : Sx 125 75 [(0, .ref 57), (2, .int v2), (3, .ref q3), (4, .int v4), (5, .int v5)] [] 0 0 (mk L μ) (mk L res, none) := by
  unfold c125_75 at h
  refine sx_aload_n (i := 0) k125_75 rfl rfl ?_
  refine sx_iload_n (i := 2) k125_76 rfl rfl ?_
  obtain ⟨r1, e2, h⟩ := Option.bind_eq_some_iff.mp h
  refine cx_V (sk := []) (vs := [.int v2]) st_125_124 k125_77 ow_125 cl_6_162 (by decide) rfl (Nat.le_of_ble_eq_true rfl) sk_57 (ok124 v2 _ _ e2) (sk3 := [.int r1.2]) rfl rfl ?_
  refine sx_iload k125_80 rfl ?_
  refine cx_min k125_82 ow_125 yl_6_169 (by decide) (by decide +kernel) (Nat.le_of_ble_eq_true rfl) ?_
  refine cx_nm h (fun x3 h => ?_)
  refine cx_istore (lo2 := [(6, .int x3), (0, .ref 57), (2, .int v2), (3, .ref q3), (4, .int v4), (5, .int v5)]) k125_85 (by rw [mx_125]; decide) rfl ?_
  refine sx_aload_n (i := 0) k125_87 rfl rfl ?_
  refine cx_getR (k := 10) k125_88 ow_125 fl_6_51 (by decide) sk_57 ft_5_10 sr_57_10 ?_
  refine sx_aload_n (i := 0) k125_91 rfl rfl ?_
  refine cx_getR (k := 6) k125_92 ow_125 fl_6_37 (by decide) sk_57 ft_5_6 sr_57_6 ?_
  refine sx_iload_n (i := 2) k125_95 rfl rfl ?_
  obtain ⟨o4, e5, h⟩ := Option.bind_eq_some_iff.mp h
  refine cx_aald (t := 0) k125_96 (by decide) sk_89 e5 ?_
  refine cx_getR (k := 0) k125_97 ow_125 fl_6_175 (by decide) (lk_89 e5) ft_1_0 (kf_1_0 (lk_89 e5)).1 ?_
  refine sx_aload_n (i := 0) k125_100 rfl rfl ?_
  refine cx_getR (k := 7) k125_101 ow_125 fl_6_41 (by decide) sk_57 ft_5_7 sr_57_7 ?_
  refine sx_iload_n (i := 2) k125_104 rfl rfl ?_
  obtain ⟨x6, e7, h⟩ := Option.bind_eq_some_iff.mp h
  refine cx_iald k125_105 sk_94 e7 ?_
  refine sx_iload k125_106 rfl ?_
  obtain ⟨r8, e9, h⟩ := Option.bind_eq_some_iff.mp h
  refine cx_V (sk := []) (vs := [.ref (o4 + 1), .int x6, .int x3]) st_125_70 k125_108 ow_125 cl_6_178 (by decide) rfl (Nat.le_of_ble_eq_true rfl) sk_97 (ok70 97 (o4 + 1) x6 x3 sk_97 (kf_1_0 (lk_89 e5)).2 _ _ e9) (sk3 := []) rfl rfl ?_
  refine sx_aload_n (i := 0) k125_111 rfl rfl ?_
  refine cx_getR (k := 7) k125_112 ow_125 fl_6_41 (by decide) sk_57 ft_5_7 sr_57_7 ?_
  refine sx_iload_n (i := 2) k125_115 rfl rfl ?_
  refine sx_dup2 k125_116 rfl rfl ?_
  obtain ⟨x10, e11, h⟩ := Option.bind_eq_some_iff.mp h
  refine cx_iald k125_117 sk_94 e11 ?_
  refine sx_iload k125_118 rfl ?_
  refine sx_iadd k125_120 ?_
  obtain ⟨m12, e13, h⟩ := Option.bind_eq_some_iff.mp h
  refine cx_iast k125_121 sk_94 e13 ?_
  refine sx_iload k125_122 rfl ?_
  refine sx_iload k125_124 rfl ?_
  refine sx_isub k125_126 ?_
  refine cx_nm h (fun x14 h => ?_)
  refine cx_istore (lo2 := [(4, .int x14), (6, .int x3), (0, .ref 57), (2, .int v2), (3, .ref q3), (5, .int v5)]) k125_127 (by rw [mx_125]; decide) rfl ?_
  refine cx_iinc (c := 1) (lo2 := fun x15 => [(5, .int x15), (4, .int x14), (6, .int x3), (0, .ref 57), (2, .int v2), (3, .ref q3)]) k125_129 rfl (by decide) (by rw [mx_125]; decide) (fun _ => rfl) h (fun x15 h => ?_)
  refine sx_goto (tgt := 28) k125_132 (by decide) ?_
  refine sx_pick (lo2 := [(0, .ref 57), (2, .int v2), (3, .ref q3), (4, .int x14), (5, .int x15)]) [3, 4, 5, 1, 0] rfl ?_
  exact hk28 v2 q3 x14 x15 hq3 _ _ h
def c125_67 (kl28 : Int32 → Nat → Int32 → Int32 → Mem → Option (Mem)) (v2 : Int32) (q3 : Nat) (v4 : Int32) (v5 : Int32) (μ : Mem) : Option (Mem) :=
  (f126 v2 q3 v4 μ).bind fun r1 =>
  c125_75 kl28 v2 q3 v4 v5 r1
theorem c125_67_ok {L : Nat} (kl28 : Int32 → Nat → Int32 → Int32 → Mem → Option (Mem)) (hk28 : (∀ (v2 : Int32) (q3 : Nat) (v4 : Int32) (v5 : Int32) (hq3 : SK0 q3 = (0, 7)) (μ : Mem) (res : Mem), kl28 v2 q3 v4 v5 μ = some res → Sx 125 28 [(0, .ref 57), (2, .int v2), (3, .ref q3), (4, .int v4), (5, .int v5)] [] 0 0 (mk L μ) (mk L res, none))) (v2 : Int32) (q3 : Nat) (v4 : Int32) (v5 : Int32) (hq3 : SK0 q3 = (0, 7)) (μ : Mem) (res : Mem) (h : c125_67 kl28 v2 q3 v4 v5 μ = some res) : Sx 125 67 [(0, .ref 57), (2, .int v2), (3, .ref q3), (4, .int v4), (5, .int v5)] [] 0 0 (mk L μ) (mk L res, none) := by
  unfold c125_67 at h
  refine sx_aload_n (i := 0) k125_67 rfl rfl ?_
  refine sx_iload_n (i := 2) k125_68 rfl rfl ?_
  refine sx_aload_n (i := 3) k125_69 rfl rfl ?_
  refine sx_iload k125_70 rfl ?_
  obtain ⟨r1, e2, h⟩ := Option.bind_eq_some_iff.mp h
  refine cx_V (sk := []) (vs := [.int v2, .ref q3, .int v4]) st_125_126 k125_72 ow_125 cl_6_165 (by decide) rfl (Nat.le_of_ble_eq_true rfl) sk_57 (ok126 v2 q3 v4 hq3 _ _ e2) (sk3 := []) rfl rfl ?_
  refine sx_pick (lo2 := [(0, .ref 57), (2, .int v2), (3, .ref q3), (4, .int v4), (5, .int v5)]) [0, 1, 2, 3, 4] rfl ?_
  exact c125_75_ok kl28 hk28 v2 q3 v4 v5 hq3 _ _ h
def b125_28 (kl28 : Int32 → Nat → Int32 → Int32 → Mem → Option (Mem)) (v2 : Int32) (q3 : Nat) (v4 : Int32) (v5 : Int32) (μ : Mem) : Option (Mem) :=
  if (52 : Int32) ≤ v5 then
    some μ
  else
    if v4 ≤ 0 then
      some μ
    else
      (f124 v2 μ).bind fun r3 =>
      if r3.2 = 0 then
        if (r3.1.1 57 16) = (2047 : Int32) then
          (pfI 57 16 ((52 : Int32) - v4) r3.1).bind fun m7 =>
          c125_67 kl28 v2 q3 v4 v5 m7
        else
          c125_67 kl28 v2 q3 v4 v5 r3.1
      else
        c125_75 kl28 v2 q3 v4 v5 r3.1
theorem b125_28_ok {L : Nat} (kl28 : Int32 → Nat → Int32 → Int32 → Mem → Option (Mem)) (hk28 : (∀ (v2 : Int32) (q3 : Nat) (v4 : Int32) (v5 : Int32) (hq3 : SK0 q3 = (0, 7)) (μ : Mem) (res : Mem), kl28 v2 q3 v4 v5 μ = some res → Sx 125 28 [(0, .ref 57), (2, .int v2), (3, .ref q3), (4, .int v4), (5, .int v5)] [] 0 0 (mk L μ) (mk L res, none))) (v2 : Int32) (q3 : Nat) (v4 : Int32) (v5 : Int32) (hq3 : SK0 q3 = (0, 7)) (μ : Mem) (res : Mem) (h : b125_28 kl28 v2 q3 v4 v5 μ = some res) : Sx 125 28 [(0, .ref 57), (2, .int v2), (3, .ref q3), (4, .int v4), (5, .int v5)] [] 0 0 (mk L μ) (mk L res, none) := by
  unfold b125_28 at h
  refine sx_iload k125_28 rfl ?_
  refine sx_bipush (v := 52) k125_30 (by decide) ?_
  by_cases hb1 : (52 : Int32) ≤ v5
  · rw [if_pos hb1] at h
    refine sx_icmp_ge (tgt := 135) k125_32 (by decide) (fun _ => ?_) (fun q => absurd hb1 q)
    exact cx_retv k125_135 rt_125 h
  · rw [if_neg hb1] at h
    refine sx_icmp_ge (tgt := 135) k125_32 (by decide) (fun q => absurd q hb1) (fun _ => ?_)
    refine sx_iload k125_35 rfl ?_
    by_cases hb2 : v4 ≤ 0
    · rw [if_pos hb2] at h
      refine sx_if_le (tgt := 135) k125_37 (by decide) (fun _ => ?_) (fun q => absurd hb2 q)
      exact cx_retv k125_135 rt_125 h
    · rw [if_neg hb2] at h
      refine sx_if_le (tgt := 135) k125_37 (by decide) (fun q => absurd q hb2) (fun _ => ?_)
      refine sx_aload_n (i := 0) k125_40 rfl rfl ?_
      refine sx_iload_n (i := 2) k125_41 rfl rfl ?_
      obtain ⟨r3, e4, h⟩ := Option.bind_eq_some_iff.mp h
      refine cx_V (sk := []) (vs := [.int v2]) st_125_124 k125_42 ow_125 cl_6_162 (by decide) rfl (Nat.le_of_ble_eq_true rfl) sk_57 (ok124 v2 _ _ e4) (sk3 := [.int r3.2]) rfl rfl ?_
      by_cases hb5 : r3.2 = 0
      · rw [if_pos hb5] at h
        refine sx_if_ne (tgt := 75) k125_45 (by decide) (fun q => absurd hb5 q) (fun _ => ?_)
        refine sx_aload_n (i := 0) k125_48 rfl rfl ?_
        refine cx_getI (k := 16) k125_49 ow_125 fl_6_138 (by decide) sk_57 ft_5_16 ?_
        refine sx_sipush (v := 2047) k125_52 (by decide) ?_
        by_cases hb6 : (r3.1.1 57 16) = (2047 : Int32)
        · rw [if_pos hb6] at h
          refine sx_icmp_ne (tgt := 67) k125_55 (by decide) (fun q => absurd hb6 q) (fun _ => ?_)
          refine sx_aload_n (i := 0) k125_58 rfl rfl ?_
          refine sx_bipush (v := 52) k125_59 (by decide) ?_
          refine sx_iload k125_61 rfl ?_
          refine sx_isub k125_63 ?_
          obtain ⟨m7, e8, h⟩ := Option.bind_eq_some_iff.mp h
          refine cx_putI (k := 16) k125_64 ow_125 fl_6_138 (by decide) sk_57 nf_5_16 fu_5_16 e8 ?_
          refine sx_pick (lo2 := [(0, .ref 57), (2, .int v2), (3, .ref q3), (4, .int v4), (5, .int v5)]) [0, 1, 2, 3, 4] rfl ?_
          exact c125_67_ok kl28 hk28 v2 q3 v4 v5 hq3 _ _ h
        · rw [if_neg hb6] at h
          refine sx_icmp_ne (tgt := 67) k125_55 (by decide) (fun _ => ?_) (fun q => absurd q hb6)
          refine sx_pick (lo2 := [(0, .ref 57), (2, .int v2), (3, .ref q3), (4, .int v4), (5, .int v5)]) [0, 1, 2, 3, 4] rfl ?_
          exact c125_67_ok kl28 hk28 v2 q3 v4 v5 hq3 _ _ h
      · rw [if_neg hb5] at h
        refine sx_if_ne (tgt := 75) k125_45 (by decide) (fun _ => ?_) (fun q => absurd q hb5)
        refine sx_pick (lo2 := [(0, .ref 57), (2, .int v2), (3, .ref q3), (4, .int v4), (5, .int v5)]) [0, 1, 2, 3, 4] rfl ?_
        exact c125_75_ok kl28 hk28 v2 q3 v4 v5 hq3 _ _ h
def l125_28 : Nat → Int32 × Nat × Int32 × Int32 × Mem → Option (Mem) :=
  fixN (fun self x => b125_28 (fun v2 q3 v4 v5 μ => self (v2, q3, v4, v5, μ)) (x.1) (x.2.1) (x.2.2.1) (x.2.2.2.1) (x.2.2.2.2))
theorem l125_28_ok {L : Nat} (n : Nat) (v2 : Int32) (q3 : Nat) (v4 : Int32) (v5 : Int32) (hq3 : SK0 q3 = (0, 7)) (μ : Mem) (res : Mem) (h : l125_28 n (v2, q3, v4, v5, μ) = some res) : Sx 125 28 [(0, .ref 57), (2, .int v2), (3, .ref q3), (4, .int v4), (5, .int v5)] [] 0 0 (mk L μ) (mk L res, none) := by
  have key := fixN_ind (P := fun x res => SK0 (x.2.1) = (0, 7) → Sx 125 28 [(0, .ref 57), (2, .int (x.1)), (3, .ref (x.2.1)), (4, .int (x.2.2.1)), (5, .int (x.2.2.2.1))] [] 0 0 (mk L (x.2.2.2.2)) (mk L res, none)) (F := fun self x => b125_28 (fun v2 q3 v4 v5 μ => self (v2, q3, v4, v5, μ)) (x.1) (x.2.1) (x.2.2.1) (x.2.2.2.1) (x.2.2.2.2)) (fun self hself x res h hq3 => b125_28_ok (fun v2 q3 v4 v5 μ => self (v2, q3, v4, v5, μ)) (fun v2 q3 v4 v5 hq3 μ res hh => hself (v2, q3, v4, v5, μ) res hh hq3) (x.1) (x.2.1) (x.2.2.1) (x.2.2.2.1) hq3 (x.2.2.2.2) res h) n (v2, q3, v4, v5, μ) res h hq3
  exact key
def c125_20 (v2 : Int32) (t0 : Nat) (μ : Mem) : Option (Mem) :=
  l125_28 gF (v2, t0, (52 : Int32), (0 : Int32), μ)
theorem c125_20_ok {L : Nat} (v2 : Int32) (t0 : Nat) (ht0 : SK0 t0 = (0, 7)) (μ : Mem) (res : Mem) (h : c125_20 v2 t0 μ = some res) : Sx 125 20 [(0, .ref 57), (2, .int v2)] [.ref t0] 0 0 (mk L μ) (mk L res, none) := by
  unfold c125_20 at h
  refine cx_astore_n (lo2 := [(3, .ref t0), (0, .ref 57), (2, .int v2)]) k125_20 rfl (by rw [mx_125]; decide) rfl ?_
  refine sx_bipush (v := 52) k125_21 (by decide) ?_
  refine cx_istore (lo2 := [(4, .int (52 : Int32)), (3, .ref t0), (0, .ref 57), (2, .int v2)]) k125_23 (by rw [mx_125]; decide) rfl ?_
  refine sx_iconst (v := 0) k125_25 (by decide) ?_
  refine cx_istore (lo2 := [(5, .int (0 : Int32)), (4, .int (52 : Int32)), (3, .ref t0), (0, .ref 57), (2, .int v2)]) k125_26 (by rw [mx_125]; decide) rfl ?_
  refine sx_pick (lo2 := [(0, .ref 57), (2, .int v2), (3, .ref t0), (4, .int (52 : Int32)), (5, .int (0 : Int32))]) [3, 4, 2, 1, 0] rfl ?_
  exact l125_28_ok gF v2 t0 (52 : Int32) (0 : Int32) ht0 _ _ h
/-- Maker.fill(I)V -/
def f125 (p1 : Int32) (μ : Mem) : Option (Mem) :=
  nm (p1 &&& (1 : Int32)) fun x1 =>
  if p1 = (1 : Int32) then
    c125_20 x1 81 μ
  else
    c125_20 x1 75 μ
theorem ok125 {L : Nat} (p1 : Int32) (μ : Mem) (res : Mem) (h : f125 p1 μ = some res) : Mx 125 [.ref 57, .int p1] (mk L μ) (mk L res, none) := by
  refine Mx_of ml_125 (by rw [mx_125]; exact Nat.le_of_ble_eq_true rfl) ?_
  show Sx 125 0 [(0, .ref 57), (1, .int p1)] [] 0 0 (mk L μ) _
  unfold f125 at h
  refine sx_iload_n (i := 1) k125_0 rfl rfl ?_
  refine sx_iconst (v := 1) k125_1 (by decide) ?_
  refine sx_iand k125_2 ?_
  refine cx_nm h (fun x1 h => ?_)
  refine cx_istore_n (lo2 := [(2, .int x1), (0, .ref 57), (1, .int p1)]) k125_3 rfl (by rw [mx_125]; decide) rfl ?_
  refine sx_iload_n (i := 1) k125_4 rfl rfl ?_
  refine sx_iconst (v := 1) k125_5 (by decide) ?_
  by_cases hb2 : p1 = (1 : Int32)
  · rw [if_pos hb2] at h
    refine sx_icmp_ne (tgt := 16) k125_6 (by decide) (fun q => absurd hb2 q) (fun _ => ?_)
    refine sx_aload_n (i := 0) k125_9 rfl rfl ?_
    refine cx_getR (k := 4) k125_10 ow_125 fl_6_25 (by decide) sk_57 ft_5_4 sr_57_4 ?_
    refine sx_goto (tgt := 20) k125_13 (by decide) ?_
    refine sx_pick (lo2 := [(0, .ref 57), (2, .int x1)]) [1, 0] rfl ?_
    exact c125_20_ok x1 81 sk_81 _ _ h
  · rw [if_neg hb2] at h
    refine sx_icmp_ne (tgt := 16) k125_6 (by decide) (fun _ => ?_) (fun q => absurd q hb2)
    refine sx_aload_n (i := 0) k125_16 rfl rfl ?_
    refine cx_getR (k := 3) k125_17 ow_125 fl_6_21 (by decide) sk_57 ft_5_3 sr_57_3 ?_
    refine sx_pick (lo2 := [(0, .ref 57), (2, .int x1)]) [1, 0] rfl ?_
    exact c125_20_ok x1 75 sk_75 _ _ h
theorem k121_0 : decode (gb 121) 0 = .ok (.aload_n 0, 1) := by decide +kernel
theorem k121_1 : decode (gb 121) 1 = .ok (.invokevirtual 124, 3) := by decide +kernel
theorem k121_4 : decode (gb 121) 4 = .ok (.istore_n 3, 1) := by decide +kernel
theorem k121_5 : decode (gb 121) 5 = .ok (.aload_n 0, 1) := by decide +kernel
theorem k121_6 : decode (gb 121) 6 = .ok (.iload_n 3, 1) := by decide +kernel
theorem k121_7 : decode (gb 121) 7 = .ok (.iconst 1, 1) := by decide +kernel
theorem k121_8 : decode (gb 121) 8 = .ok (.if_icmp .ne 7, 3) := by decide +kernel
theorem k121_11 : decode (gb 121) 11 = .ok (.iconst 1, 1) := by decide +kernel
theorem k121_12 : decode (gb 121) 12 = .ok (.goto 4, 3) := by decide +kernel
theorem k121_15 : decode (gb 121) 15 = .ok (.iconst 0, 1) := by decide +kernel
theorem k121_16 : decode (gb 121) 16 = .ok (.putfield 128, 3) := by decide +kernel
theorem k121_19 : decode (gb 121) 19 = .ok (.aload_n 0, 1) := by decide +kernel
theorem k121_20 : decode (gb 121) 20 = .ok (.getfield 51, 3) := by decide +kernel
theorem k121_23 : decode (gb 121) 23 = .ok (.invokevirtual 65, 3) := by decide +kernel
theorem k121_26 : decode (gb 121) 26 = .ok (.aload_n 0, 1) := by decide +kernel
theorem k121_27 : decode (gb 121) 27 = .ok (.getfield 51, 3) := by decide +kernel
theorem k121_30 : decode (gb 121) 30 = .ok (.sipush 2737, 3) := by decide +kernel
theorem k121_33 : decode (gb 121) 33 = .ok (.iload_n 3, 1) := by decide +kernel
theorem k121_34 : decode (gb 121) 34 = .ok (.iconst 1, 1) := by decide +kernel
theorem k121_35 : decode (gb 121) 35 = .ok (.ishl, 1) := by decide +kernel
theorem k121_36 : decode (gb 121) 36 = .ok (.ior, 1) := by decide +kernel
theorem k121_37 : decode (gb 121) 37 = .ok (.invokevirtual 68, 3) := by decide +kernel
theorem k121_40 : decode (gb 121) 40 = .ok (.aload_n 0, 1) := by decide +kernel
theorem k121_41 : decode (gb 121) 41 = .ok (.getfield 51, 3) := by decide +kernel
theorem k121_44 : decode (gb 121) 44 = .ok (.aload_n 0, 1) := by decide +kernel
theorem k121_45 : decode (gb 121) 45 = .ok (.getfield 132, 3) := by decide +kernel
theorem k121_48 : decode (gb 121) 48 = .ok (.invokevirtual 78, 3) := by decide +kernel
theorem k121_51 : decode (gb 121) 51 = .ok (.aload_n 0, 1) := by decide +kernel
theorem k121_52 : decode (gb 121) 52 = .ok (.getfield 51, 3) := by decide +kernel
theorem k121_55 : decode (gb 121) 55 = .ok (.aload_n 0, 1) := by decide +kernel
theorem k121_56 : decode (gb 121) 56 = .ok (.getfield 48, 3) := by decide +kernel
theorem k121_59 : decode (gb 121) 59 = .ok (.iload_n 3, 1) := by decide +kernel
theorem k121_60 : decode (gb 121) 60 = .ok (.bipush 7, 2) := by decide +kernel
theorem k121_62 : decode (gb 121) 62 = .ok (.iand, 1) := by decide +kernel
theorem k121_63 : decode (gb 121) 63 = .ok (.iaload, 1) := by decide +kernel
theorem k121_64 : decode (gb 121) 64 = .ok (.invokevirtual 78, 3) := by decide +kernel
theorem k121_67 : decode (gb 121) 67 = .ok (.aload_n 0, 1) := by decide +kernel
theorem k121_68 : decode (gb 121) 68 = .ok (.getfield 51, 3) := by decide +kernel
theorem k121_71 : decode (gb 121) 71 = .ok (.iconst 0, 1) := by decide +kernel
theorem k121_72 : decode (gb 121) 72 = .ok (.invokevirtual 68, 3) := by decide +kernel
theorem k121_75 : decode (gb 121) 75 = .ok (.iload_n 3, 1) := by decide +kernel
theorem k121_76 : decode (gb 121) 76 = .ok (.bipush 7, 2) := by decide +kernel
theorem k121_78 : decode (gb 121) 78 = .ok (.if_icmp .ne 24, 3) := by decide +kernel
theorem k121_81 : decode (gb 121) 81 = .ok (.aload_n 0, 1) := by decide +kernel
theorem k121_82 : decode (gb 121) 82 = .ok (.getfield 51, 3) := by decide +kernel
theorem k121_85 : decode (gb 121) 85 = .ok (.bipush 85, 2) := by decide +kernel
theorem k121_87 : decode (gb 121) 87 = .ok (.bipush 52, 2) := by decide +kernel
theorem k121_89 : decode (gb 121) 89 = .ok (.invokevirtual 135, 3) := by decide +kernel
theorem k121_92 : decode (gb 121) 92 = .ok (.aload_n 0, 1) := by decide +kernel
theorem k121_93 : decode (gb 121) 93 = .ok (.sipush 2046, 3) := by decide +kernel
theorem k121_96 : decode (gb 121) 96 = .ok (.putfield 138, 3) := by decide +kernel
theorem k121_99 : decode (gb 121) 99 = .ok (.goto 15, 3) := by decide +kernel
theorem k121_102 : decode (gb 121) 102 = .ok (.aload_n 0, 1) := by decide +kernel
theorem k121_103 : decode (gb 121) 103 = .ok (.sipush 2047, 3) := by decide +kernel
theorem k121_106 : decode (gb 121) 106 = .ok (.putfield 138, 3) := by decide +kernel
theorem k121_109 : decode (gb 121) 109 = .ok (.aload_n 0, 1) := by decide +kernel
theorem k121_110 : decode (gb 121) 110 = .ok (.iload_n 3, 1) := by decide +kernel
theorem k121_111 : decode (gb 121) 111 = .ok (.invokevirtual 141, 3) := by decide +kernel
theorem k121_114 : decode (gb 121) 114 = .ok (.aload_n 0, 1) := by decide +kernel
theorem k121_115 : decode (gb 121) 115 = .ok (.getfield 51, 3) := by decide +kernel
theorem k121_118 : decode (gb 121) 118 = .ok (.iconst 4, 1) := by decide +kernel
theorem k121_119 : decode (gb 121) 119 = .ok (.bipush 24, 2) := by decide +kernel
theorem k121_121 : decode (gb 121) 121 = .ok (.aload_n 0, 1) := by decide +kernel
theorem k121_122 : decode (gb 121) 122 = .ok (.getfield 138, 3) := by decide +kernel
theorem k121_125 : decode (gb 121) 125 = .ok (.bipush 8, 2) := by decide +kernel
theorem k121_127 : decode (gb 121) 127 = .ok (.ishr, 1) := by decide +kernel
theorem k121_128 : decode (gb 121) 128 = .ok (.ior, 1) := by decide +kernel
theorem k121_129 : decode (gb 121) 129 = .ok (.invokevirtual 90, 3) := by decide +kernel
theorem k121_132 : decode (gb 121) 132 = .ok (.aload_n 0, 1) := by decide +kernel
theorem k121_133 : decode (gb 121) 133 = .ok (.getfield 51, 3) := by decide +kernel
theorem k121_136 : decode (gb 121) 136 = .ok (.iconst 5, 1) := by decide +kernel
theorem k121_137 : decode (gb 121) 137 = .ok (.aload_n 0, 1) := by decide +kernel
theorem k121_138 : decode (gb 121) 138 = .ok (.getfield 138, 3) := by decide +kernel
theorem k121_141 : decode (gb 121) 141 = .ok (.invokevirtual 90, 3) := by decide +kernel
theorem k121_144 : decode (gb 121) 144 = .ok (.aload_n 0, 1) := by decide +kernel
theorem k121_145 : decode (gb 121) 145 = .ok (.getfield 51, 3) := by decide +kernel
theorem k121_148 : decode (gb 121) 148 = .ok (.sipush 256, 3) := by decide +kernel
theorem k121_151 : decode (gb 121) 151 = .ok (.invokevirtual 68, 3) := by decide +kernel
theorem k121_154 : decode (gb 121) 154 = .ok (.aload_n 0, 1) := by decide +kernel
theorem k121_155 : decode (gb 121) 155 = .ok (.getfield 51, 3) := by decide +kernel
theorem k121_158 : decode (gb 121) 158 = .ok (.iload_n 1, 1) := by decide +kernel
theorem k121_159 : decode (gb 121) 159 = .ok (.invokevirtual 78, 3) := by decide +kernel
theorem k121_162 : decode (gb 121) 162 = .ok (.aload_n 0, 1) := by decide +kernel
theorem k121_163 : decode (gb 121) 163 = .ok (.getfield 51, 3) := by decide +kernel
theorem k121_166 : decode (gb 121) 166 = .ok (.iload_n 2, 1) := by decide +kernel
theorem k121_167 : decode (gb 121) 167 = .ok (.invokevirtual 78, 3) := by decide +kernel
theorem k121_170 : decode (gb 121) 170 = .ok (.aload_n 0, 1) := by decide +kernel
theorem k121_171 : decode (gb 121) 171 = .ok (.getfield 51, 3) := by decide +kernel
theorem k121_174 : decode (gb 121) 174 = .ok (.invokevirtual 93, 3) := by decide +kernel
theorem k121_177 : decode (gb 121) 177 = .ok (.aload_n 0, 1) := by decide +kernel
theorem k121_178 : decode (gb 121) 178 = .ok (.aload_n 0, 1) := by decide +kernel
theorem k121_179 : decode (gb 121) 179 = .ok (.getfield 132, 3) := by decide +kernel
theorem k121_182 : decode (gb 121) 182 = .ok (.iconst 1, 1) := by decide +kernel
theorem k121_183 : decode (gb 121) 183 = .ok (.iadd, 1) := by decide +kernel
theorem k121_184 : decode (gb 121) 184 = .ok (.sipush 255, 3) := by decide +kernel
theorem k121_187 : decode (gb 121) 187 = .ok (.iand, 1) := by decide +kernel
theorem k121_188 : decode (gb 121) 188 = .ok (.putfield 132, 3) := by decide +kernel
theorem k121_191 : decode (gb 121) 191 = .ok (.aload_n 0, 1) := by decide +kernel
theorem k121_192 : decode (gb 121) 192 = .ok (.getfield 48, 3) := by decide +kernel
theorem k121_195 : decode (gb 121) 195 = .ok (.iload_n 3, 1) := by decide +kernel
theorem k121_196 : decode (gb 121) 196 = .ok (.bipush 7, 2) := by decide +kernel
theorem k121_198 : decode (gb 121) 198 = .ok (.iand, 1) := by decide +kernel
theorem k121_199 : decode (gb 121) 199 = .ok (.aload_n 0, 1) := by decide +kernel
theorem k121_200 : decode (gb 121) 200 = .ok (.getfield 48, 3) := by decide +kernel
theorem k121_203 : decode (gb 121) 203 = .ok (.iload_n 3, 1) := by decide +kernel
theorem k121_204 : decode (gb 121) 204 = .ok (.bipush 7, 2) := by decide +kernel
theorem k121_206 : decode (gb 121) 206 = .ok (.iand, 1) := by decide +kernel
theorem k121_207 : decode (gb 121) 207 = .ok (.iaload, 1) := by decide +kernel
theorem k121_208 : decode (gb 121) 208 = .ok (.iconst 1, 1) := by decide +kernel
theorem k121_209 : decode (gb 121) 209 = .ok (.iadd, 1) := by decide +kernel
theorem k121_210 : decode (gb 121) 210 = .ok (.sipush 255, 3) := by decide +kernel
theorem k121_213 : decode (gb 121) 213 = .ok (.iand, 1) := by decide +kernel
theorem k121_214 : decode (gb 121) 214 = .ok (.iastore, 1) := by decide +kernel
theorem k121_215 : decode (gb 121) 215 = .ok (.aload_n 0, 1) := by decide +kernel
theorem k121_216 : decode (gb 121) 216 = .ok (.getfield 51, 3) := by decide +kernel
theorem k121_219 : decode (gb 121) 219 = .ok (.aload_n 0, 1) := by decide +kernel
theorem k121_220 : decode (gb 121) 220 = .ok (.getfield 61, 3) := by decide +kernel
theorem k121_223 : decode (gb 121) 223 = .ok (.invokevirtual 144, 3) := by decide +kernel
theorem k121_226 : decode (gb 121) 226 = .ok (.aload_n 0, 1) := by decide +kernel
theorem k121_227 : decode (gb 121) 227 = .ok (.getfield 54, 3) := by decide +kernel
theorem k121_230 : decode (gb 121) 230 = .ok (.invokevirtual 65, 3) := by decide +kernel
theorem k121_233 : decode (gb 121) 233 = .ok (.aload_n 0, 1) := by decide +kernel
theorem k121_234 : decode (gb 121) 234 = .ok (.getfield 54, 3) := by decide +kernel
theorem k121_237 : decode (gb 121) 237 = .ok (.ldc 148, 2) := by decide +kernel
theorem k121_239 : decode (gb 121) 239 = .ok (.invokevirtual 84, 3) := by decide +kernel
theorem k121_242 : decode (gb 121) 242 = .ok (.aload_n 0, 1) := by decide +kernel
theorem k121_243 : decode (gb 121) 243 = .ok (.getfield 54, 3) := by decide +kernel
theorem k121_246 : decode (gb 121) 246 = .ok (.aload_n 0, 1) := by decide +kernel
theorem k121_247 : decode (gb 121) 247 = .ok (.getfield 51, 3) := by decide +kernel
theorem k121_250 : decode (gb 121) 250 = .ok (.invokevirtual 149, 3) := by decide +kernel
theorem k121_253 : decode (gb 121) 253 = .ok (.aload_n 0, 1) := by decide +kernel
theorem k121_254 : decode (gb 121) 254 = .ok (.getfield 57, 3) := by decide +kernel
theorem k121_257 : decode (gb 121) 257 = .ok (.aload_n 0, 1) := by decide +kernel
theorem k121_258 : decode (gb 121) 258 = .ok (.getfield 54, 3) := by decide +kernel
theorem k121_261 : decode (gb 121) 261 = .ok (.invokevirtual 153, 3) := by decide +kernel
theorem k121_264 : decode (gb 121) 264 = .ok (.pop, 1) := by decide +kernel
theorem k121_265 : decode (gb 121) 265 = .ok (.return_, 1) := by decide +kernel
def c121_114 (v1 : Int32) (v2 : Int32) (v3 : Int32) (μ : Mem) : Option (Mem) :=
  (f73 97 (4 : Int32) ((24 : Int32) ||| (jshr (μ.1 57 16) (8 : Int32))) μ).bind fun r1 =>
  (f73 97 (5 : Int32) (r1.1 57 16) r1).bind fun r3 =>
  (f66 97 (256 : Int32) r3).bind fun r5 =>
  (f65 97 v1 r5).bind fun r7 =>
  (f65 97 v2 r7).bind fun r9 =>
  (f72 97 r9).bind fun r11 =>
  (pfI 57 15 (((r11.1 57 15) + (1 : Int32)) &&& (255 : Int32)) r11).bind fun m13 =>
  (ldA 96 (v3 &&& (7 : Int32)) m13).bind fun x15 =>
  (stA 96 (v3 &&& (7 : Int32)) ((x15 + (1 : Int32)) &&& (255 : Int32)) m13).bind fun m17 =>
  (f74 97 27 m17).bind fun r19 =>
  (f64 99 r19).bind fun r21 =>
  (f67 99 (449838109 : Int32) r21).bind fun r23 =>
  (f71 99 97 r23).bind fun r25 =>
  (f110 7 99 r25).bind fun r27 =>
  some r27.1
theorem c121_114_ok {L : Nat} (v1 : Int32) (v2 : Int32) (v3 : Int32) (μ : Mem) (res : Mem) (h : c121_114 v1 v2 v3 μ = some res) : Sx 121 114 [(0, .ref 57), (1, .int v1), (2, .int v2), (3, .int v3)] [] 0 0 (mk L μ) (mk L res, none) := by
  unfold c121_114 at h
  refine sx_aload_n (i := 0) k121_114 rfl rfl ?_
  refine cx_getR (k := 10) k121_115 ow_121 fl_6_51 (by decide) sk_57 ft_5_10 sr_57_10 ?_
  refine sx_iconst (v := 4) k121_118 (by decide) ?_
  refine sx_bipush (v := 24) k121_119 (by decide) ?_
  refine sx_aload_n (i := 0) k121_121 rfl rfl ?_
  refine cx_getI (k := 16) k121_122 ow_121 fl_6_138 (by decide) sk_57 ft_5_16 ?_
  refine sx_bipush (v := 8) k121_125 (by decide) ?_
  refine sx_ishr k121_127 ?_
  refine sx_ior k121_128 ?_
  obtain ⟨r1, e2, h⟩ := Option.bind_eq_some_iff.mp h
  refine cx_V (sk := []) (vs := [.int (4 : Int32), .int ((24 : Int32) ||| (jshr (μ.1 57 16) (8 : Int32)))]) st_121_73 k121_129 ow_121 cl_6_90 (by decide) rfl (Nat.le_of_ble_eq_true rfl) sk_97 (ok73 97 (4 : Int32) ((24 : Int32) ||| (jshr (μ.1 57 16) (8 : Int32))) sk_97 _ _ e2) (sk3 := []) rfl rfl ?_
  refine sx_aload_n (i := 0) k121_132 rfl rfl ?_
  refine cx_getR (k := 10) k121_133 ow_121 fl_6_51 (by decide) sk_57 ft_5_10 sr_57_10 ?_
  refine sx_iconst (v := 5) k121_136 (by decide) ?_
  refine sx_aload_n (i := 0) k121_137 rfl rfl ?_
  refine cx_getI (k := 16) k121_138 ow_121 fl_6_138 (by decide) sk_57 ft_5_16 ?_
  obtain ⟨r3, e4, h⟩ := Option.bind_eq_some_iff.mp h
  refine cx_V (sk := []) (vs := [.int (5 : Int32), .int (r1.1 57 16)]) st_121_73 k121_141 ow_121 cl_6_90 (by decide) rfl (Nat.le_of_ble_eq_true rfl) sk_97 (ok73 97 (5 : Int32) (r1.1 57 16) sk_97 _ _ e4) (sk3 := []) rfl rfl ?_
  refine sx_aload_n (i := 0) k121_144 rfl rfl ?_
  refine cx_getR (k := 10) k121_145 ow_121 fl_6_51 (by decide) sk_57 ft_5_10 sr_57_10 ?_
  refine sx_sipush (v := 256) k121_148 (by decide) ?_
  obtain ⟨r5, e6, h⟩ := Option.bind_eq_some_iff.mp h
  refine cx_V (sk := []) (vs := [.int (256 : Int32)]) st_121_66 k121_151 ow_121 cl_6_68 (by decide) rfl (Nat.le_of_ble_eq_true rfl) sk_97 (ok66 97 (256 : Int32) sk_97 _ _ e6) (sk3 := []) rfl rfl ?_
  refine sx_aload_n (i := 0) k121_154 rfl rfl ?_
  refine cx_getR (k := 10) k121_155 ow_121 fl_6_51 (by decide) sk_57 ft_5_10 sr_57_10 ?_
  refine sx_iload_n (i := 1) k121_158 rfl rfl ?_
  obtain ⟨r7, e8, h⟩ := Option.bind_eq_some_iff.mp h
  refine cx_V (sk := []) (vs := [.int v1]) st_121_65 k121_159 ow_121 cl_6_78 (by decide) rfl (Nat.le_of_ble_eq_true rfl) sk_97 (ok65 97 v1 sk_97 _ _ e8) (sk3 := []) rfl rfl ?_
  refine sx_aload_n (i := 0) k121_162 rfl rfl ?_
  refine cx_getR (k := 10) k121_163 ow_121 fl_6_51 (by decide) sk_57 ft_5_10 sr_57_10 ?_
  refine sx_iload_n (i := 2) k121_166 rfl rfl ?_
  obtain ⟨r9, e10, h⟩ := Option.bind_eq_some_iff.mp h
  refine cx_V (sk := []) (vs := [.int v2]) st_121_65 k121_167 ow_121 cl_6_78 (by decide) rfl (Nat.le_of_ble_eq_true rfl) sk_97 (ok65 97 v2 sk_97 _ _ e10) (sk3 := []) rfl rfl ?_
  refine sx_aload_n (i := 0) k121_170 rfl rfl ?_
  refine cx_getR (k := 10) k121_171 ow_121 fl_6_51 (by decide) sk_57 ft_5_10 sr_57_10 ?_
  obtain ⟨r11, e12, h⟩ := Option.bind_eq_some_iff.mp h
  refine cx_V (sk := []) (vs := []) st_121_72 k121_174 ow_121 cl_6_93 (by decide) rfl (Nat.le_of_ble_eq_true rfl) sk_97 (ok72 97 sk_97 _ _ e12) (sk3 := []) rfl rfl ?_
  refine sx_aload_n (i := 0) k121_177 rfl rfl ?_
  refine sx_aload_n (i := 0) k121_178 rfl rfl ?_
  refine cx_getI (k := 15) k121_179 ow_121 fl_6_132 (by decide) sk_57 ft_5_15 ?_
  refine sx_iconst (v := 1) k121_182 (by decide) ?_
  refine sx_iadd k121_183 ?_
  refine sx_sipush (v := 255) k121_184 (by decide) ?_
  refine sx_iand k121_187 ?_
  obtain ⟨m13, e14, h⟩ := Option.bind_eq_some_iff.mp h
  refine cx_putI (k := 15) k121_188 ow_121 fl_6_132 (by decide) sk_57 nf_5_15 fu_5_15 e14 ?_
  refine sx_aload_n (i := 0) k121_191 rfl rfl ?_
  refine cx_getR (k := 9) k121_192 ow_121 fl_6_48 (by decide) sk_57 ft_5_9 sr_57_9 ?_
  refine sx_iload_n (i := 3) k121_195 rfl rfl ?_
  refine sx_bipush (v := 7) k121_196 (by decide) ?_
  refine sx_iand k121_198 ?_
  refine sx_aload_n (i := 0) k121_199 rfl rfl ?_
  refine cx_getR (k := 9) k121_200 ow_121 fl_6_48 (by decide) sk_57 ft_5_9 sr_57_9 ?_
  refine sx_iload_n (i := 3) k121_203 rfl rfl ?_
  refine sx_bipush (v := 7) k121_204 (by decide) ?_
  refine sx_iand k121_206 ?_
  obtain ⟨x15, e16, h⟩ := Option.bind_eq_some_iff.mp h
  refine cx_iald k121_207 sk_96 e16 ?_
  refine sx_iconst (v := 1) k121_208 (by decide) ?_
  refine sx_iadd k121_209 ?_
  refine sx_sipush (v := 255) k121_210 (by decide) ?_
  refine sx_iand k121_213 ?_
  obtain ⟨m17, e18, h⟩ := Option.bind_eq_some_iff.mp h
  refine cx_iast k121_214 sk_96 e18 ?_
  refine sx_aload_n (i := 0) k121_215 rfl rfl ?_
  refine cx_getR (k := 10) k121_216 ow_121 fl_6_51 (by decide) sk_57 ft_5_10 sr_57_10 ?_
  refine sx_aload_n (i := 0) k121_219 rfl rfl ?_
  refine cx_getR (k := 1) k121_220 ow_121 fl_6_61 (by decide) sk_57 ft_5_1 sr_57_1 ?_
  obtain ⟨r19, e20, h⟩ := Option.bind_eq_some_iff.mp h
  refine cx_V (sk := []) (vs := [.ref 27]) st_121_74 k121_223 ow_121 cl_6_144 (by decide) rfl (Nat.le_of_ble_eq_true rfl) sk_97 (ok74 97 27 sk_97 sk_27 _ _ e20) (sk3 := []) rfl rfl ?_
  refine sx_aload_n (i := 0) k121_226 rfl rfl ?_
  refine cx_getR (k := 11) k121_227 ow_121 fl_6_54 (by decide) sk_57 ft_5_11 sr_57_11 ?_
  obtain ⟨r21, e22, h⟩ := Option.bind_eq_some_iff.mp h
  refine cx_V (sk := []) (vs := []) st_121_64 k121_230 ow_121 cl_6_65 (by decide) rfl (Nat.le_of_ble_eq_true rfl) sk_99 (ok64 99 sk_99 _ _ e22) (sk3 := []) rfl rfl ?_
  refine sx_aload_n (i := 0) k121_233 rfl rfl ?_
  refine cx_getR (k := 11) k121_234 ow_121 fl_6_54 (by decide) sk_57 ft_5_11 sr_57_11 ?_
  refine cx_ldc (v := 449838109) k121_237 ow_121 kl_6_148 (by decide) ?_
  obtain ⟨r23, e24, h⟩ := Option.bind_eq_some_iff.mp h
  refine cx_V (sk := []) (vs := [.int (449838109 : Int32)]) st_121_67 k121_239 ow_121 cl_6_84 (by decide) rfl (Nat.le_of_ble_eq_true rfl) sk_99 (ok67 99 (449838109 : Int32) sk_99 _ _ e24) (sk3 := []) rfl rfl ?_
  refine sx_aload_n (i := 0) k121_242 rfl rfl ?_
  refine cx_getR (k := 11) k121_243 ow_121 fl_6_54 (by decide) sk_57 ft_5_11 sr_57_11 ?_
  refine sx_aload_n (i := 0) k121_246 rfl rfl ?_
  refine cx_getR (k := 10) k121_247 ow_121 fl_6_51 (by decide) sk_57 ft_5_10 sr_57_10 ?_
  obtain ⟨r25, e26, h⟩ := Option.bind_eq_some_iff.mp h
  refine cx_V (sk := []) (vs := [.ref 97]) st_121_71 k121_250 ow_121 cl_6_149 (by decide) rfl (Nat.le_of_ble_eq_true rfl) sk_99 (ok71 99 97 sk_99 sk_97 _ _ e26) (sk3 := []) rfl rfl ?_
  refine sx_aload_n (i := 0) k121_253 rfl rfl ?_
  refine cx_getR (k := 0) k121_254 ow_121 fl_6_57 (by decide) sk_57 ft_5_0 sr_57_0 ?_
  refine sx_aload_n (i := 0) k121_257 rfl rfl ?_
  refine cx_getR (k := 11) k121_258 ow_121 fl_6_54 (by decide) sk_57 ft_5_11 sr_57_11 ?_
  obtain ⟨r27, e28, h⟩ := Option.bind_eq_some_iff.mp h
  refine cx_V (sk := []) (vs := [.ref 99]) st_121_110 k121_261 ow_121 cl_6_153 (by decide) rfl (Nat.le_of_ble_eq_true rfl) sk_7 (ok110 7 99 sk_7 sk_99 _ _ e28) (sk3 := [.int r27.2]) rfl rfl ?_
  refine sx_pop k121_264 rfl ?_
  exact cx_retv k121_265 rt_121 h
def c121_16 (v1 : Int32) (v2 : Int32) (v3 : Int32) (s1 : Int32) (μ : Mem) : Option (Mem) :=
  (pfZ 57 17 s1 μ).bind fun m1 =>
  (f64 97 m1).bind fun r3 =>
  (f66 97 ((2737 : Int32) ||| (jshl v3 (1 : Int32))) r3).bind fun r5 =>
  (f65 97 (r5.1 57 15) r5).bind fun r7 =>
  (ldA 96 (v3 &&& (7 : Int32)) r7).bind fun x9 =>
  (f65 97 x9 r7).bind fun r11 =>
  (f66 97 (0 : Int32) r11).bind fun r13 =>
  if v3 = (7 : Int32) then
    (f69 97 (85 : Int32) (52 : Int32) r13).bind fun r20 =>
    (pfI 57 16 (2046 : Int32) r20).bind fun m22 =>
    c121_114 v1 v2 v3 m22
  else
    (pfI 57 16 (2047 : Int32) r13).bind fun m16 =>
    (f125 v3 m16).bind fun r18 =>
    c121_114 v1 v2 v3 r18
theorem c121_16_ok {L : Nat} (v1 : Int32) (v2 : Int32) (v3 : Int32) (s1 : Int32) (μ : Mem) (res : Mem) (h : c121_16 v1 v2 v3 s1 μ = some res) : Sx 121 16 [(0, .ref 57), (1, .int v1), (2, .int v2), (3, .int v3)] [.int s1, .ref 57] 0 0 (mk L μ) (mk L res, none) := by
  unfold c121_16 at h
  obtain ⟨m1, e2, h⟩ := Option.bind_eq_some_iff.mp h
  refine cx_putZ (k := 17) k121_16 ow_121 fl_6_128 (by decide) sk_57 nf_5_17 fu_5_17 e2 ?_
  refine sx_aload_n (i := 0) k121_19 rfl rfl ?_
  refine cx_getR (k := 10) k121_20 ow_121 fl_6_51 (by decide) sk_57 ft_5_10 sr_57_10 ?_
  obtain ⟨r3, e4, h⟩ := Option.bind_eq_some_iff.mp h
  refine cx_V (sk := []) (vs := []) st_121_64 k121_23 ow_121 cl_6_65 (by decide) rfl (Nat.le_of_ble_eq_true rfl) sk_97 (ok64 97 sk_97 _ _ e4) (sk3 := []) rfl rfl ?_
  refine sx_aload_n (i := 0) k121_26 rfl rfl ?_
  refine cx_getR (k := 10) k121_27 ow_121 fl_6_51 (by decide) sk_57 ft_5_10 sr_57_10 ?_
  refine sx_sipush (v := 2737) k121_30 (by decide) ?_
  refine sx_iload_n (i := 3) k121_33 rfl rfl ?_
  refine sx_iconst (v := 1) k121_34 (by decide) ?_
  refine sx_ishl k121_35 ?_
  refine sx_ior k121_36 ?_
  obtain ⟨r5, e6, h⟩ := Option.bind_eq_some_iff.mp h
  refine cx_V (sk := []) (vs := [.int ((2737 : Int32) ||| (jshl v3 (1 : Int32)))]) st_121_66 k121_37 ow_121 cl_6_68 (by decide) rfl (Nat.le_of_ble_eq_true rfl) sk_97 (ok66 97 ((2737 : Int32) ||| (jshl v3 (1 : Int32))) sk_97 _ _ e6) (sk3 := []) rfl rfl ?_
  refine sx_aload_n (i := 0) k121_40 rfl rfl ?_
  refine cx_getR (k := 10) k121_41 ow_121 fl_6_51 (by decide) sk_57 ft_5_10 sr_57_10 ?_
  refine sx_aload_n (i := 0) k121_44 rfl rfl ?_
  refine cx_getI (k := 15) k121_45 ow_121 fl_6_132 (by decide) sk_57 ft_5_15 ?_
  obtain ⟨r7, e8, h⟩ := Option.bind_eq_some_iff.mp h
  refine cx_V (sk := []) (vs := [.int (r5.1 57 15)]) st_121_65 k121_48 ow_121 cl_6_78 (by decide) rfl (Nat.le_of_ble_eq_true rfl) sk_97 (ok65 97 (r5.1 57 15) sk_97 _ _ e8) (sk3 := []) rfl rfl ?_
  refine sx_aload_n (i := 0) k121_51 rfl rfl ?_
  refine cx_getR (k := 10) k121_52 ow_121 fl_6_51 (by decide) sk_57 ft_5_10 sr_57_10 ?_
  refine sx_aload_n (i := 0) k121_55 rfl rfl ?_
  refine cx_getR (k := 9) k121_56 ow_121 fl_6_48 (by decide) sk_57 ft_5_9 sr_57_9 ?_
  refine sx_iload_n (i := 3) k121_59 rfl rfl ?_
  refine sx_bipush (v := 7) k121_60 (by decide) ?_
  refine sx_iand k121_62 ?_
  obtain ⟨x9, e10, h⟩ := Option.bind_eq_some_iff.mp h
  refine cx_iald k121_63 sk_96 e10 ?_
  obtain ⟨r11, e12, h⟩ := Option.bind_eq_some_iff.mp h
  refine cx_V (sk := []) (vs := [.int x9]) st_121_65 k121_64 ow_121 cl_6_78 (by decide) rfl (Nat.le_of_ble_eq_true rfl) sk_97 (ok65 97 x9 sk_97 _ _ e12) (sk3 := []) rfl rfl ?_
  refine sx_aload_n (i := 0) k121_67 rfl rfl ?_
  refine cx_getR (k := 10) k121_68 ow_121 fl_6_51 (by decide) sk_57 ft_5_10 sr_57_10 ?_
  refine sx_iconst (v := 0) k121_71 (by decide) ?_
  obtain ⟨r13, e14, h⟩ := Option.bind_eq_some_iff.mp h
  refine cx_V (sk := []) (vs := [.int (0 : Int32)]) st_121_66 k121_72 ow_121 cl_6_68 (by decide) rfl (Nat.le_of_ble_eq_true rfl) sk_97 (ok66 97 (0 : Int32) sk_97 _ _ e14) (sk3 := []) rfl rfl ?_
  refine sx_iload_n (i := 3) k121_75 rfl rfl ?_
  refine sx_bipush (v := 7) k121_76 (by decide) ?_
  by_cases hb15 : v3 = (7 : Int32)
  · rw [if_pos hb15] at h
    refine sx_icmp_ne (tgt := 102) k121_78 (by decide) (fun q => absurd hb15 q) (fun _ => ?_)
    refine sx_aload_n (i := 0) k121_81 rfl rfl ?_
    refine cx_getR (k := 10) k121_82 ow_121 fl_6_51 (by decide) sk_57 ft_5_10 sr_57_10 ?_
    refine sx_bipush (v := 85) k121_85 (by decide) ?_
    refine sx_bipush (v := 52) k121_87 (by decide) ?_
    obtain ⟨r20, e21, h⟩ := Option.bind_eq_some_iff.mp h
    refine cx_V (sk := []) (vs := [.int (85 : Int32), .int (52 : Int32)]) st_121_69 k121_89 ow_121 cl_6_135 (by decide) rfl (Nat.le_of_ble_eq_true rfl) sk_97 (ok69 97 (85 : Int32) (52 : Int32) sk_97 _ _ e21) (sk3 := []) rfl rfl ?_
    refine sx_aload_n (i := 0) k121_92 rfl rfl ?_
    refine sx_sipush (v := 2046) k121_93 (by decide) ?_
    obtain ⟨m22, e23, h⟩ := Option.bind_eq_some_iff.mp h
    refine cx_putI (k := 16) k121_96 ow_121 fl_6_138 (by decide) sk_57 nf_5_16 fu_5_16 e23 ?_
    refine sx_goto (tgt := 114) k121_99 (by decide) ?_
    refine sx_pick (lo2 := [(0, .ref 57), (1, .int v1), (2, .int v2), (3, .int v3)]) [0, 1, 2, 3] rfl ?_
    exact c121_114_ok v1 v2 v3 _ _ h
  · rw [if_neg hb15] at h
    refine sx_icmp_ne (tgt := 102) k121_78 (by decide) (fun _ => ?_) (fun q => absurd q hb15)
    refine sx_aload_n (i := 0) k121_102 rfl rfl ?_
    refine sx_sipush (v := 2047) k121_103 (by decide) ?_
    obtain ⟨m16, e17, h⟩ := Option.bind_eq_some_iff.mp h
    refine cx_putI (k := 16) k121_106 ow_121 fl_6_138 (by decide) sk_57 nf_5_16 fu_5_16 e17 ?_
    refine sx_aload_n (i := 0) k121_109 rfl rfl ?_
    refine sx_iload_n (i := 3) k121_110 rfl rfl ?_
    obtain ⟨r18, e19, h⟩ := Option.bind_eq_some_iff.mp h
    refine cx_V (sk := []) (vs := [.int v3]) st_121_125 k121_111 ow_121 cl_6_141 (by decide) rfl (Nat.le_of_ble_eq_true rfl) sk_57 (ok125 v3 _ _ e19) (sk3 := []) rfl rfl ?_
    refine sx_pick (lo2 := [(0, .ref 57), (1, .int v1), (2, .int v2), (3, .int v3)]) [0, 1, 2, 3] rfl ?_
    exact c121_114_ok v1 v2 v3 _ _ h
/-- Maker.sendFrame(II)V -/
def f121 (p1 : Int32) (p2 : Int32) (μ : Mem) : Option (Mem) :=
  (f122 μ).bind fun r1 =>
  if r1.2 = (1 : Int32) then
    c121_16 p1 p2 r1.2 (1 : Int32) r1.1
  else
    c121_16 p1 p2 r1.2 (0 : Int32) r1.1
theorem ok121 {L : Nat} (p1 : Int32) (p2 : Int32) (μ : Mem) (res : Mem) (h : f121 p1 p2 μ = some res) : Mx 121 [.ref 57, .int p1, .int p2] (mk L μ) (mk L res, none) := by
  refine Mx_of ml_121 (by rw [mx_121]; exact Nat.le_of_ble_eq_true rfl) ?_
  show Sx 121 0 [(0, .ref 57), (1, .int p1), (2, .int p2)] [] 0 0 (mk L μ) _
  unfold f121 at h
  refine sx_aload_n (i := 0) k121_0 rfl rfl ?_
  obtain ⟨r1, e2, h⟩ := Option.bind_eq_some_iff.mp h
  refine cx_V (sk := []) (vs := []) st_121_122 k121_1 ow_121 cl_6_124 (by decide) rfl (Nat.le_of_ble_eq_true rfl) sk_57 (ok122 _ _ e2) (sk3 := [.int r1.2]) rfl rfl ?_
  refine cx_istore_n (lo2 := [(3, .int r1.2), (0, .ref 57), (1, .int p1), (2, .int p2)]) k121_4 rfl (by rw [mx_121]; decide) rfl ?_
  refine sx_aload_n (i := 0) k121_5 rfl rfl ?_
  refine sx_iload_n (i := 3) k121_6 rfl rfl ?_
  refine sx_iconst (v := 1) k121_7 (by decide) ?_
  by_cases hb3 : r1.2 = (1 : Int32)
  · rw [if_pos hb3] at h
    refine sx_icmp_ne (tgt := 15) k121_8 (by decide) (fun q => absurd hb3 q) (fun _ => ?_)
    refine sx_iconst (v := 1) k121_11 (by decide) ?_
    refine sx_goto (tgt := 16) k121_12 (by decide) ?_
    refine sx_pick (lo2 := [(0, .ref 57), (1, .int p1), (2, .int p2), (3, .int r1.2)]) [1, 2, 3, 0] rfl ?_
    exact c121_16_ok p1 p2 r1.2 (1 : Int32) _ _ h
  · rw [if_neg hb3] at h
    refine sx_icmp_ne (tgt := 15) k121_8 (by decide) (fun _ => ?_) (fun q => absurd q hb3)
    refine sx_iconst (v := 0) k121_15 (by decide) ?_
    refine sx_pick (lo2 := [(0, .ref 57), (1, .int p1), (2, .int p2), (3, .int r1.2)]) [1, 2, 3, 0] rfl ?_
    exact c121_16_ok p1 p2 r1.2 (0 : Int32) _ _ h
