theorem k272_0 : decode (gb 272) 0 = .ok (.aload_n 0, 1) := by decide +kernel
theorem k272_1 : decode (gb 272) 1 = .ok (.getfield 176, 3) := by decide +kernel
theorem k272_4 : decode (gb 272) 4 = .ok (.iconst 0, 1) := by decide +kernel
theorem k272_5 : decode (gb 272) 5 = .ok (.aload_n 0, 1) := by decide +kernel
theorem k272_6 : decode (gb 272) 6 = .ok (.getfield 179, 3) := by decide +kernel
theorem k272_9 : decode (gb 272) 9 = .ok (.iconst 2, 1) := by decide +kernel
theorem k272_10 : decode (gb 272) 10 = .ok (.if_icmp .ne 7, 3) := by decide +kernel
theorem k272_13 : decode (gb 272) 13 = .ok (.iconst 0, 1) := by decide +kernel
theorem k272_14 : decode (gb 272) 14 = .ok (.goto 6, 3) := by decide +kernel
theorem k272_17 : decode (gb 272) 17 = .ok (.sipush 130, 3) := by decide +kernel
theorem k272_20 : decode (gb 272) 20 = .ok (.iastore, 1) := by decide +kernel
theorem k272_21 : decode (gb 272) 21 = .ok (.aload_n 0, 1) := by decide +kernel
theorem k272_22 : decode (gb 272) 22 = .ok (.getfield 176, 3) := by decide +kernel
theorem k272_25 : decode (gb 272) 25 = .ok (.iconst 1, 1) := by decide +kernel
theorem k272_26 : decode (gb 272) 26 = .ok (.iconst 0, 1) := by decide +kernel
theorem k272_27 : decode (gb 272) 27 = .ok (.iastore, 1) := by decide +kernel
theorem k272_28 : decode (gb 272) 28 = .ok (.aload_n 0, 1) := by decide +kernel
theorem k272_29 : decode (gb 272) 29 = .ok (.getfield 176, 3) := by decide +kernel
theorem k272_32 : decode (gb 272) 32 = .ok (.iconst 2, 1) := by decide +kernel
theorem k272_33 : decode (gb 272) 33 = .ok (.aload_n 0, 1) := by decide +kernel
theorem k272_34 : decode (gb 272) 34 = .ok (.getfield 182, 3) := by decide +kernel
theorem k272_37 : decode (gb 272) 37 = .ok (.iastore, 1) := by decide +kernel
theorem k272_38 : decode (gb 272) 38 = .ok (.aload_n 0, 1) := by decide +kernel
theorem k272_39 : decode (gb 272) 39 = .ok (.bipush 48, 2) := by decide +kernel
theorem k272_41 : decode (gb 272) 41 = .ok (.iconst 0, 1) := by decide +kernel
theorem k272_42 : decode (gb 272) 42 = .ok (.aload_n 0, 1) := by decide +kernel
theorem k272_43 : decode (gb 272) 43 = .ok (.getfield 176, 3) := by decide +kernel
theorem k272_46 : decode (gb 272) 46 = .ok (.iconst 0, 1) := by decide +kernel
theorem k272_47 : decode (gb 272) 47 = .ok (.aload_n 0, 1) := by decide +kernel
theorem k272_48 : decode (gb 272) 48 = .ok (.getfield 179, 3) := by decide +kernel
theorem k272_51 : decode (gb 272) 51 = .ok (.iconst 2, 1) := by decide +kernel
theorem k272_52 : decode (gb 272) 52 = .ok (.if_icmp .ne 7, 3) := by decide +kernel
theorem k272_55 : decode (gb 272) 55 = .ok (.iconst 1, 1) := by decide +kernel
theorem k272_56 : decode (gb 272) 56 = .ok (.goto 4, 3) := by decide +kernel
theorem k272_59 : decode (gb 272) 59 = .ok (.iconst 3, 1) := by decide +kernel
theorem k272_60 : decode (gb 272) 60 = .ok (.invokevirtual 185, 3) := by decide +kernel
theorem k272_63 : decode (gb 272) 63 = .ok (.return_, 1) := by decide +kernel
def c272_60 (s1 : Int32) (s2 : Int32) (s4 : Int32) (s5 : Int32) (μ : Mem) : Option (Mem) :=
  (f271 s1 s2 149 s4 s5 μ).bind fun r1 =>
  some r1
theorem c272_60_ok {L : Nat} (s1 : Int32) (s2 : Int32) (s4 : Int32) (s5 : Int32) (μ : Mem) (res : Mem) (h : c272_60 s1 s2 s4 s5 μ = some res) : Sx 272 60 [] [.int s5, .int s4, .ref 149, .int s2, .int s1, .ref 129] 0 0 (mk L μ) (mk L res, none) := by
  unfold c272_60 at h
  obtain ⟨r1, e2, h⟩ := Option.bind_eq_some_iff.mp h
  refine cx_V (sk := []) (vs := [.int s1, .int s2, .ref 149, .int s4, .int s5]) st_272_271 k272_60 ow_272 cl_12_185 (by decide) rfl (Nat.le_of_ble_eq_true rfl) sk_129 (ok271 s1 s2 149 s4 s5 sk_149 _ _ e2) (sk3 := []) rfl rfl ?_
  exact cx_retv k272_63 rt_272 h
def c272_20 (s1 : Int32) (s2 : Int32) (μ : Mem) : Option (Mem) :=
  (stA 149 s1 s2 μ).bind fun m1 =>
  (stA 149 (1 : Int32) (0 : Int32) m1).bind fun m3 =>
  (stA 149 (2 : Int32) (m3.1 129 49) m3).bind fun m5 =>
  if (m5.1 129 48) = (2 : Int32) then
    c272_60 (48 : Int32) (0 : Int32) (0 : Int32) (1 : Int32) m5
  else
    c272_60 (48 : Int32) (0 : Int32) (0 : Int32) (3 : Int32) m5
theorem c272_20_ok {L : Nat} (s1 : Int32) (s2 : Int32) (μ : Mem) (res : Mem) (h : c272_20 s1 s2 μ = some res) : Sx 272 20 [(0, .ref 129)] [.int s2, .int s1, .ref 149] 0 0 (mk L μ) (mk L res, none) := by
  unfold c272_20 at h
  obtain ⟨m1, e2, h⟩ := Option.bind_eq_some_iff.mp h
  refine cx_iast k272_20 sk_149 e2 ?_
  refine sx_aload_n (i := 0) k272_21 rfl rfl ?_
  refine cx_getR (k := 51) k272_22 ow_272 fl_12_176 (by decide) sk_129 ft_11_51 sr_129_51 ?_
  refine sx_iconst (v := 1) k272_25 (by decide) ?_
  refine sx_iconst (v := 0) k272_26 (by decide) ?_
  obtain ⟨m3, e4, h⟩ := Option.bind_eq_some_iff.mp h
  refine cx_iast k272_27 sk_149 e4 ?_
  refine sx_aload_n (i := 0) k272_28 rfl rfl ?_
  refine cx_getR (k := 51) k272_29 ow_272 fl_12_176 (by decide) sk_129 ft_11_51 sr_129_51 ?_
  refine sx_iconst (v := 2) k272_32 (by decide) ?_
  refine sx_aload_n (i := 0) k272_33 rfl rfl ?_
  refine cx_getI (k := 49) k272_34 ow_272 fl_12_182 (by decide) sk_129 ft_11_49 ?_
  obtain ⟨m5, e6, h⟩ := Option.bind_eq_some_iff.mp h
  refine cx_iast k272_37 sk_149 e6 ?_
  refine sx_aload_n (i := 0) k272_38 rfl rfl ?_
  refine sx_bipush (v := 48) k272_39 (by decide) ?_
  refine sx_iconst (v := 0) k272_41 (by decide) ?_
  refine sx_aload_n (i := 0) k272_42 rfl rfl ?_
  refine cx_getR (k := 51) k272_43 ow_272 fl_12_176 (by decide) sk_129 ft_11_51 sr_129_51 ?_
  refine sx_iconst (v := 0) k272_46 (by decide) ?_
  refine sx_aload_n (i := 0) k272_47 rfl rfl ?_
  refine cx_getI (k := 48) k272_48 ow_272 fl_12_179 (by decide) sk_129 ft_11_48 ?_
  refine sx_iconst (v := 2) k272_51 (by decide) ?_
  by_cases hb7 : (m5.1 129 48) = (2 : Int32)
  · rw [if_pos hb7] at h
    refine sx_icmp_ne (tgt := 59) k272_52 (by decide) (fun q => absurd hb7 q) (fun _ => ?_)
    refine sx_iconst (v := 1) k272_55 (by decide) ?_
    refine sx_goto (tgt := 60) k272_56 (by decide) ?_
    refine sx_pick (lo2 := []) [] rfl ?_
    exact c272_60_ok (48 : Int32) (0 : Int32) (0 : Int32) (1 : Int32) _ _ h
  · rw [if_neg hb7] at h
    refine sx_icmp_ne (tgt := 59) k272_52 (by decide) (fun _ => ?_) (fun q => absurd q hb7)
    refine sx_iconst (v := 3) k272_59 (by decide) ?_
    refine sx_pick (lo2 := []) [] rfl ?_
    exact c272_60_ok (48 : Int32) (0 : Int32) (0 : Int32) (3 : Int32) _ _ h
/-- CraftHouseModel.sendControl()V -/
def f272 (μ : Mem) : Option (Mem) :=
  if (μ.1 129 48) = (2 : Int32) then
    c272_20 (0 : Int32) (0 : Int32) μ
  else
    c272_20 (0 : Int32) (130 : Int32) μ
theorem ok272 {L : Nat} (μ : Mem) (res : Mem) (h : f272 μ = some res) : Mx 272 [.ref 129] (mk L μ) (mk L res, none) := by
  refine Mx_of ml_272 (by rw [mx_272]; exact Nat.le_of_ble_eq_true rfl) ?_
  show Sx 272 0 [(0, .ref 129)] [] 0 0 (mk L μ) _
  unfold f272 at h
  refine sx_aload_n (i := 0) k272_0 rfl rfl ?_
  refine cx_getR (k := 51) k272_1 ow_272 fl_12_176 (by decide) sk_129 ft_11_51 sr_129_51 ?_
  refine sx_iconst (v := 0) k272_4 (by decide) ?_
  refine sx_aload_n (i := 0) k272_5 rfl rfl ?_
  refine cx_getI (k := 48) k272_6 ow_272 fl_12_179 (by decide) sk_129 ft_11_48 ?_
  refine sx_iconst (v := 2) k272_9 (by decide) ?_
  by_cases hb1 : (μ.1 129 48) = (2 : Int32)
  · rw [if_pos hb1] at h
    refine sx_icmp_ne (tgt := 17) k272_10 (by decide) (fun q => absurd hb1 q) (fun _ => ?_)
    refine sx_iconst (v := 0) k272_13 (by decide) ?_
    refine sx_goto (tgt := 20) k272_14 (by decide) ?_
    refine sx_pick (lo2 := [(0, .ref 129)]) [0] rfl ?_
    exact c272_20_ok (0 : Int32) (0 : Int32) _ _ h
  · rw [if_neg hb1] at h
    refine sx_icmp_ne (tgt := 17) k272_10 (by decide) (fun _ => ?_) (fun q => absurd q hb1)
    refine sx_sipush (v := 130) k272_17 (by decide) ?_
    refine sx_pick (lo2 := [(0, .ref 129)]) [0] rfl ?_
    exact c272_20_ok (0 : Int32) (130 : Int32) _ _ h
theorem k284_0 : decode (gb 284) 0 = .ok (.aload_n 0, 1) := by decide +kernel
theorem k284_1 : decode (gb 284) 1 = .ok (.aload_n 0, 1) := by decide +kernel
theorem k284_2 : decode (gb 284) 2 = .ok (.getfield 195, 3) := by decide +kernel
theorem k284_5 : decode (gb 284) 5 = .ok (.putfield 250, 3) := by decide +kernel
theorem k284_8 : decode (gb 284) 8 = .ok (.aload_n 0, 1) := by decide +kernel
theorem k284_9 : decode (gb 284) 9 = .ok (.bipush 6, 2) := by decide +kernel
theorem k284_11 : decode (gb 284) 11 = .ok (.putfield 195, 3) := by decide +kernel
theorem k284_14 : decode (gb 284) 14 = .ok (.return_, 1) := by decide +kernel
/-- CraftHouseModel.held()V -/
def f284 (μ : Mem) : Option (Mem) :=
  (pfI 129 37 (μ.1 129 28) μ).bind fun m1 =>
  (pfI 129 28 (6 : Int32) m1).bind fun m3 =>
  some m3
theorem ok284 {L : Nat} (μ : Mem) (res : Mem) (h : f284 μ = some res) : Mx 284 [.ref 129] (mk L μ) (mk L res, none) := by
  refine Mx_of ml_284 (by rw [mx_284]; exact Nat.le_of_ble_eq_true rfl) ?_
  show Sx 284 0 [(0, .ref 129)] [] 0 0 (mk L μ) _
  unfold f284 at h
  refine sx_aload_n (i := 0) k284_0 rfl rfl ?_
  refine sx_aload_n (i := 0) k284_1 rfl rfl ?_
  refine cx_getI (k := 28) k284_2 ow_284 fl_12_195 (by decide) sk_129 ft_11_28 ?_
  obtain ⟨m1, e2, h⟩ := Option.bind_eq_some_iff.mp h
  refine cx_putI (k := 37) k284_5 ow_284 fl_12_250 (by decide) sk_129 nf_11_37 fu_11_37 e2 ?_
  refine sx_aload_n (i := 0) k284_8 rfl rfl ?_
  refine sx_bipush (v := 6) k284_9 (by decide) ?_
  obtain ⟨m3, e4, h⟩ := Option.bind_eq_some_iff.mp h
  refine cx_putI (k := 28) k284_11 ow_284 fl_12_195 (by decide) sk_129 nf_11_28 fu_11_28 e4 ?_
  exact cx_retv k284_14 rt_284 h
theorem k283_0 : decode (gb 283) 0 = .ok (.aload_n 0, 1) := by decide +kernel
theorem k283_1 : decode (gb 283) 1 = .ok (.iconst 0, 1) := by decide +kernel
theorem k283_2 : decode (gb 283) 2 = .ok (.putfield 192, 3) := by decide +kernel
theorem k283_5 : decode (gb 283) 5 = .ok (.aload_n 0, 1) := by decide +kernel
theorem k283_6 : decode (gb 283) 6 = .ok (.getfield 232, 3) := by decide +kernel
theorem k283_9 : decode (gb 283) 9 = .ok (.aload_n 0, 1) := by decide +kernel
theorem k283_10 : decode (gb 283) 10 = .ok (.getfield 275, 3) := by decide +kernel
theorem k283_13 : decode (gb 283) 13 = .ok (.if_icmp .ge 90, 3) := by decide +kernel
theorem k283_16 : decode (gb 283) 16 = .ok (.aload_n 0, 1) := by decide +kernel
theorem k283_17 : decode (gb 283) 17 = .ok (.getfield 195, 3) := by decide +kernel
theorem k283_20 : decode (gb 283) 20 = .ok (.iconst 1, 1) := by decide +kernel
theorem k283_21 : decode (gb 283) 21 = .ok (.if_icmp .eq 11, 3) := by decide +kernel
theorem k283_24 : decode (gb 283) 24 = .ok (.aload_n 0, 1) := by decide +kernel
theorem k283_25 : decode (gb 283) 25 = .ok (.getfield 195, 3) := by decide +kernel
theorem k283_28 : decode (gb 283) 28 = .ok (.iconst 2, 1) := by decide +kernel
theorem k283_29 : decode (gb 283) 29 = .ok (.if_icmp .ne 14, 3) := by decide +kernel
theorem k283_32 : decode (gb 283) 32 = .ok (.aload_n 0, 1) := by decide +kernel
theorem k283_33 : decode (gb 283) 33 = .ok (.invokevirtual 278, 3) := by decide +kernel
theorem k283_36 : decode (gb 283) 36 = .ok (.aload_n 0, 1) := by decide +kernel
theorem k283_37 : decode (gb 283) 37 = .ok (.invokevirtual 268, 3) := by decide +kernel
theorem k283_40 : decode (gb 283) 40 = .ok (.goto 91, 3) := by decide +kernel
theorem k283_43 : decode (gb 283) 43 = .ok (.aload_n 0, 1) := by decide +kernel
theorem k283_44 : decode (gb 283) 44 = .ok (.getfield 195, 3) := by decide +kernel
theorem k283_47 : decode (gb 283) 47 = .ok (.iconst 4, 1) := by decide +kernel
theorem k283_48 : decode (gb 283) 48 = .ok (.if_icmp .ne 26, 3) := by decide +kernel
theorem k283_51 : decode (gb 283) 51 = .ok (.aload_n 0, 1) := by decide +kernel
theorem k283_52 : decode (gb 283) 52 = .ok (.getfield 281, 3) := by decide +kernel
theorem k283_55 : decode (gb 283) 55 = .ok (.ifCond .ne 12, 3) := by decide +kernel
theorem k283_58 : decode (gb 283) 58 = .ok (.aload_n 0, 1) := by decide +kernel
theorem k283_59 : decode (gb 283) 59 = .ok (.bipush 6, 2) := by decide +kernel
theorem k283_61 : decode (gb 283) 61 = .ok (.invokevirtual 259, 3) := by decide +kernel
theorem k283_64 : decode (gb 283) 64 = .ok (.goto 67, 3) := by decide +kernel
theorem k283_67 : decode (gb 283) 67 = .ok (.aload_n 0, 1) := by decide +kernel
theorem k283_68 : decode (gb 283) 68 = .ok (.invokevirtual 284, 3) := by decide +kernel
theorem k283_71 : decode (gb 283) 71 = .ok (.goto 60, 3) := by decide +kernel
theorem k283_74 : decode (gb 283) 74 = .ok (.aload_n 0, 1) := by decide +kernel
theorem k283_75 : decode (gb 283) 75 = .ok (.getfield 195, 3) := by decide +kernel
theorem k283_78 : decode (gb 283) 78 = .ok (.iconst 5, 1) := by decide +kernel
theorem k283_79 : decode (gb 283) 79 = .ok (.if_icmp .ne 52, 3) := by decide +kernel
theorem k283_82 : decode (gb 283) 82 = .ok (.aload_n 0, 1) := by decide +kernel
theorem k283_83 : decode (gb 283) 83 = .ok (.invokevirtual 287, 3) := by decide +kernel
theorem k283_86 : decode (gb 283) 86 = .ok (.aload_n 0, 1) := by decide +kernel
theorem k283_87 : decode (gb 283) 87 = .ok (.dup, 1) := by decide +kernel
theorem k283_88 : decode (gb 283) 88 = .ok (.getfield 232, 3) := by decide +kernel
theorem k283_91 : decode (gb 283) 91 = .ok (.iconst 1, 1) := by decide +kernel
theorem k283_92 : decode (gb 283) 92 = .ok (.iadd, 1) := by decide +kernel
theorem k283_93 : decode (gb 283) 93 = .ok (.putfield 232, 3) := by decide +kernel
theorem k283_96 : decode (gb 283) 96 = .ok (.aload_n 0, 1) := by decide +kernel
theorem k283_97 : decode (gb 283) 97 = .ok (.invokevirtual 244, 3) := by decide +kernel
theorem k283_100 : decode (gb 283) 100 = .ok (.goto 31, 3) := by decide +kernel
theorem k283_103 : decode (gb 283) 103 = .ok (.aload_n 0, 1) := by decide +kernel
theorem k283_104 : decode (gb 283) 104 = .ok (.getfield 281, 3) := by decide +kernel
theorem k283_107 : decode (gb 283) 107 = .ok (.ifCond .eq 11, 3) := by decide +kernel
theorem k283_110 : decode (gb 283) 110 = .ok (.aload_n 0, 1) := by decide +kernel
theorem k283_111 : decode (gb 283) 111 = .ok (.getfield 195, 3) := by decide +kernel
theorem k283_114 : decode (gb 283) 114 = .ok (.iconst 5, 1) := by decide +kernel
theorem k283_115 : decode (gb 283) 115 = .ok (.if_icmp .ne 12, 3) := by decide +kernel
theorem k283_118 : decode (gb 283) 118 = .ok (.aload_n 0, 1) := by decide +kernel
theorem k283_119 : decode (gb 283) 119 = .ok (.bipush 6, 2) := by decide +kernel
theorem k283_121 : decode (gb 283) 121 = .ok (.invokevirtual 259, 3) := by decide +kernel
theorem k283_124 : decode (gb 283) 124 = .ok (.goto 7, 3) := by decide +kernel
theorem k283_127 : decode (gb 283) 127 = .ok (.aload_n 0, 1) := by decide +kernel
theorem k283_128 : decode (gb 283) 128 = .ok (.invokevirtual 284, 3) := by decide +kernel
theorem k283_131 : decode (gb 283) 131 = .ok (.return_, 1) := by decide +kernel
def c283_32 (μ : Mem) : Option (Mem) :=
  (f276 μ).bind fun r1 =>
  (f275 r1).bind fun r3 =>
  some r3
theorem c283_32_ok {L : Nat} (μ : Mem) (res : Mem) (h : c283_32 μ = some res) : Sx 283 32 [(0, .ref 129)] [] 0 0 (mk L μ) (mk L res, none) := by
  unfold c283_32 at h
  refine sx_aload_n (i := 0) k283_32 rfl rfl ?_
  obtain ⟨r1, e2, h⟩ := Option.bind_eq_some_iff.mp h
  refine cx_V (sk := []) (vs := []) st_283_276 k283_33 ow_283 cl_12_278 (by decide) rfl (Nat.le_of_ble_eq_true rfl) sk_129 (ok276 _ _ e2) (sk3 := []) rfl rfl ?_
  refine sx_aload_n (i := 0) k283_36 rfl rfl ?_
  obtain ⟨r3, e4, h⟩ := Option.bind_eq_some_iff.mp h
  refine cx_V (sk := []) (vs := []) st_283_275 k283_37 ow_283 cl_12_268 (by decide) rfl (Nat.le_of_ble_eq_true rfl) sk_129 (ok275 _ _ e4) (sk3 := []) rfl rfl ?_
  refine sx_goto (tgt := 131) k283_40 (by decide) ?_
  exact cx_retv k283_131 rt_283 h
def c283_118 (μ : Mem) : Option (Mem) :=
  (f279 (6 : Int32) μ).bind fun r1 =>
  some r1
theorem c283_118_ok {L : Nat} (μ : Mem) (res : Mem) (h : c283_118 μ = some res) : Sx 283 118 [(0, .ref 129)] [] 0 0 (mk L μ) (mk L res, none) := by
  unfold c283_118 at h
  refine sx_aload_n (i := 0) k283_118 rfl rfl ?_
  refine sx_bipush (v := 6) k283_119 (by decide) ?_
  obtain ⟨r1, e2, h⟩ := Option.bind_eq_some_iff.mp h
  refine cx_V (sk := []) (vs := [.int (6 : Int32)]) st_283_279 k283_121 ow_283 cl_12_259 (by decide) rfl (Nat.le_of_ble_eq_true rfl) sk_129 (ok279 (6 : Int32) _ _ e2) (sk3 := []) rfl rfl ?_
  refine sx_goto (tgt := 131) k283_124 (by decide) ?_
  exact cx_retv k283_131 rt_283 h
/-- CraftHouseModel.timerEnds()V -/
def f283 (μ : Mem) : Option (Mem) :=
  (pfI 129 34 (0 : Int32) μ).bind fun m1 =>
  if (m1.1 129 32) ≤ (m1.1 129 31) then
    if (m1.1 129 36) = 0 then
      c283_118 m1
    else
      if (m1.1 129 28) = (5 : Int32) then
        c283_118 m1
      else
        (f284 m1).bind fun r6 =>
        some r6
  else
    if (m1.1 129 28) = (1 : Int32) then
      c283_32 m1
    else
      if (m1.1 129 28) = (2 : Int32) then
        c283_32 m1
      else
        if (m1.1 129 28) = (4 : Int32) then
          if (m1.1 129 36) = 0 then
            (f279 (6 : Int32) m1).bind fun r21 =>
            some r21
          else
            (f284 m1).bind fun r19 =>
            some r19
        else
          if (m1.1 129 28) = (5 : Int32) then
            (f272 m1).bind fun r12 =>
            (pfI 129 31 ((r12.1 129 31) + (1 : Int32)) r12).bind fun m14 =>
            (f274 m14).bind fun r16 =>
            some r16
          else
            some m1
theorem ok283 {L : Nat} (μ : Mem) (res : Mem) (h : f283 μ = some res) : Mx 283 [.ref 129] (mk L μ) (mk L res, none) := by
  refine Mx_of ml_283 (by rw [mx_283]; exact Nat.le_of_ble_eq_true rfl) ?_
  show Sx 283 0 [(0, .ref 129)] [] 0 0 (mk L μ) _
  unfold f283 at h
  refine sx_aload_n (i := 0) k283_0 rfl rfl ?_
  refine sx_iconst (v := 0) k283_1 (by decide) ?_
  obtain ⟨m1, e2, h⟩ := Option.bind_eq_some_iff.mp h
  refine cx_putI (k := 34) k283_2 ow_283 fl_12_192 (by decide) sk_129 nf_11_34 fu_11_34 e2 ?_
  refine sx_aload_n (i := 0) k283_5 rfl rfl ?_
  refine cx_getI (k := 31) k283_6 ow_283 fl_12_232 (by decide) sk_129 ft_11_31 ?_
  refine sx_aload_n (i := 0) k283_9 rfl rfl ?_
  refine cx_getI (k := 32) k283_10 ow_283 fl_12_275 (by decide) sk_129 ft_11_32 ?_
  by_cases hb3 : (m1.1 129 32) ≤ (m1.1 129 31)
  · rw [if_pos hb3] at h
    refine sx_icmp_ge (tgt := 103) k283_13 (by decide) (fun _ => ?_) (fun q => absurd hb3 q)
    refine sx_aload_n (i := 0) k283_103 rfl rfl ?_
    refine cx_getI (k := 36) k283_104 ow_283 fl_12_281 (by decide) sk_129 ft_11_36 ?_
    by_cases hb4 : (m1.1 129 36) = 0
    · rw [if_pos hb4] at h
      refine sx_if_eq (tgt := 118) k283_107 (by decide) (fun _ => ?_) (fun q => absurd hb4 q)
      refine sx_pick (lo2 := [(0, .ref 129)]) [0] rfl ?_
      exact c283_118_ok _ _ h
    · rw [if_neg hb4] at h
      refine sx_if_eq (tgt := 118) k283_107 (by decide) (fun q => absurd q hb4) (fun _ => ?_)
      refine sx_aload_n (i := 0) k283_110 rfl rfl ?_
      refine cx_getI (k := 28) k283_111 ow_283 fl_12_195 (by decide) sk_129 ft_11_28 ?_
      refine sx_iconst (v := 5) k283_114 (by decide) ?_
      by_cases hb5 : (m1.1 129 28) = (5 : Int32)
      · rw [if_pos hb5] at h
        refine sx_icmp_ne (tgt := 127) k283_115 (by decide) (fun q => absurd hb5 q) (fun _ => ?_)
        refine sx_pick (lo2 := [(0, .ref 129)]) [0] rfl ?_
        exact c283_118_ok _ _ h
      · rw [if_neg hb5] at h
        refine sx_icmp_ne (tgt := 127) k283_115 (by decide) (fun _ => ?_) (fun q => absurd q hb5)
        refine sx_aload_n (i := 0) k283_127 rfl rfl ?_
        obtain ⟨r6, e7, h⟩ := Option.bind_eq_some_iff.mp h
        refine cx_V (sk := []) (vs := []) st_283_284 k283_128 ow_283 cl_12_284 (by decide) rfl (Nat.le_of_ble_eq_true rfl) sk_129 (ok284 _ _ e7) (sk3 := []) rfl rfl ?_
        exact cx_retv k283_131 rt_283 h
  · rw [if_neg hb3] at h
    refine sx_icmp_ge (tgt := 103) k283_13 (by decide) (fun q => absurd q hb3) (fun _ => ?_)
    refine sx_aload_n (i := 0) k283_16 rfl rfl ?_
    refine cx_getI (k := 28) k283_17 ow_283 fl_12_195 (by decide) sk_129 ft_11_28 ?_
    refine sx_iconst (v := 1) k283_20 (by decide) ?_
    by_cases hb8 : (m1.1 129 28) = (1 : Int32)
    · rw [if_pos hb8] at h
      refine sx_icmp_eq (tgt := 32) k283_21 (by decide) (fun _ => ?_) (fun q => absurd hb8 q)
      refine sx_pick (lo2 := [(0, .ref 129)]) [0] rfl ?_
      exact c283_32_ok _ _ h
    · rw [if_neg hb8] at h
      refine sx_icmp_eq (tgt := 32) k283_21 (by decide) (fun q => absurd q hb8) (fun _ => ?_)
      refine sx_aload_n (i := 0) k283_24 rfl rfl ?_
      refine cx_getI (k := 28) k283_25 ow_283 fl_12_195 (by decide) sk_129 ft_11_28 ?_
      refine sx_iconst (v := 2) k283_28 (by decide) ?_
      by_cases hb9 : (m1.1 129 28) = (2 : Int32)
      · rw [if_pos hb9] at h
        refine sx_icmp_ne (tgt := 43) k283_29 (by decide) (fun q => absurd hb9 q) (fun _ => ?_)
        refine sx_pick (lo2 := [(0, .ref 129)]) [0] rfl ?_
        exact c283_32_ok _ _ h
      · rw [if_neg hb9] at h
        refine sx_icmp_ne (tgt := 43) k283_29 (by decide) (fun _ => ?_) (fun q => absurd q hb9)
        refine sx_aload_n (i := 0) k283_43 rfl rfl ?_
        refine cx_getI (k := 28) k283_44 ow_283 fl_12_195 (by decide) sk_129 ft_11_28 ?_
        refine sx_iconst (v := 4) k283_47 (by decide) ?_
        by_cases hb10 : (m1.1 129 28) = (4 : Int32)
        · rw [if_pos hb10] at h
          refine sx_icmp_ne (tgt := 74) k283_48 (by decide) (fun q => absurd hb10 q) (fun _ => ?_)
          refine sx_aload_n (i := 0) k283_51 rfl rfl ?_
          refine cx_getI (k := 36) k283_52 ow_283 fl_12_281 (by decide) sk_129 ft_11_36 ?_
          by_cases hb18 : (m1.1 129 36) = 0
          · rw [if_pos hb18] at h
            refine sx_if_ne (tgt := 67) k283_55 (by decide) (fun q => absurd hb18 q) (fun _ => ?_)
            refine sx_aload_n (i := 0) k283_58 rfl rfl ?_
            refine sx_bipush (v := 6) k283_59 (by decide) ?_
            obtain ⟨r21, e22, h⟩ := Option.bind_eq_some_iff.mp h
            refine cx_V (sk := []) (vs := [.int (6 : Int32)]) st_283_279 k283_61 ow_283 cl_12_259 (by decide) rfl (Nat.le_of_ble_eq_true rfl) sk_129 (ok279 (6 : Int32) _ _ e22) (sk3 := []) rfl rfl ?_
            refine sx_goto (tgt := 131) k283_64 (by decide) ?_
            exact cx_retv k283_131 rt_283 h
          · rw [if_neg hb18] at h
            refine sx_if_ne (tgt := 67) k283_55 (by decide) (fun _ => ?_) (fun q => absurd q hb18)
            refine sx_aload_n (i := 0) k283_67 rfl rfl ?_
            obtain ⟨r19, e20, h⟩ := Option.bind_eq_some_iff.mp h
            refine cx_V (sk := []) (vs := []) st_283_284 k283_68 ow_283 cl_12_284 (by decide) rfl (Nat.le_of_ble_eq_true rfl) sk_129 (ok284 _ _ e20) (sk3 := []) rfl rfl ?_
            refine sx_goto (tgt := 131) k283_71 (by decide) ?_
            exact cx_retv k283_131 rt_283 h
        · rw [if_neg hb10] at h
          refine sx_icmp_ne (tgt := 74) k283_48 (by decide) (fun _ => ?_) (fun q => absurd q hb10)
          refine sx_aload_n (i := 0) k283_74 rfl rfl ?_
          refine cx_getI (k := 28) k283_75 ow_283 fl_12_195 (by decide) sk_129 ft_11_28 ?_
          refine sx_iconst (v := 5) k283_78 (by decide) ?_
          by_cases hb11 : (m1.1 129 28) = (5 : Int32)
          · rw [if_pos hb11] at h
            refine sx_icmp_ne (tgt := 131) k283_79 (by decide) (fun q => absurd hb11 q) (fun _ => ?_)
            refine sx_aload_n (i := 0) k283_82 rfl rfl ?_
            obtain ⟨r12, e13, h⟩ := Option.bind_eq_some_iff.mp h
            refine cx_V (sk := []) (vs := []) st_283_272 k283_83 ow_283 cl_12_287 (by decide) rfl (Nat.le_of_ble_eq_true rfl) sk_129 (ok272 _ _ e13) (sk3 := []) rfl rfl ?_
            refine sx_aload_n (i := 0) k283_86 rfl rfl ?_
            refine sx_dup k283_87 rfl ?_
            refine cx_getI (k := 31) k283_88 ow_283 fl_12_232 (by decide) sk_129 ft_11_31 ?_
            refine sx_iconst (v := 1) k283_91 (by decide) ?_
            refine sx_iadd k283_92 ?_
            obtain ⟨m14, e15, h⟩ := Option.bind_eq_some_iff.mp h
            refine cx_putI (k := 31) k283_93 ow_283 fl_12_232 (by decide) sk_129 nf_11_31 fu_11_31 e15 ?_
            refine sx_aload_n (i := 0) k283_96 rfl rfl ?_
            obtain ⟨r16, e17, h⟩ := Option.bind_eq_some_iff.mp h
            refine cx_V (sk := []) (vs := []) st_283_274 k283_97 ow_283 cl_12_244 (by decide) rfl (Nat.le_of_ble_eq_true rfl) sk_129 (ok274 _ _ e17) (sk3 := []) rfl rfl ?_
            refine sx_goto (tgt := 131) k283_100 (by decide) ?_
            exact cx_retv k283_131 rt_283 h
          · rw [if_neg hb11] at h
            refine sx_icmp_ne (tgt := 131) k283_79 (by decide) (fun _ => ?_) (fun q => absurd q hb11)
            exact cx_retv k283_131 rt_283 h
theorem k285_0 : decode (gb 285) 0 = .ok (.iload_n 0, 1) := by decide +kernel
theorem k285_1 : decode (gb 285) 1 = .ok (.iload_n 1, 1) := by decide +kernel
theorem k285_2 : decode (gb 285) 2 = .ok (.if_icmp .lt 12, 3) := by decide +kernel
theorem k285_5 : decode (gb 285) 5 = .ok (.iload_n 0, 1) := by decide +kernel
theorem k285_6 : decode (gb 285) 6 = .ok (.iload_n 2, 1) := by decide +kernel
theorem k285_7 : decode (gb 285) 7 = .ok (.if_icmp .gt 7, 3) := by decide +kernel
theorem k285_10 : decode (gb 285) 10 = .ok (.iconst 1, 1) := by decide +kernel
theorem k285_11 : decode (gb 285) 11 = .ok (.goto 4, 3) := by decide +kernel
theorem k285_14 : decode (gb 285) 14 = .ok (.iconst 0, 1) := by decide +kernel
theorem k285_15 : decode (gb 285) 15 = .ok (.ireturn, 1) := by decide +kernel
/-- CraftHouseModel.isIn(III)Z -/
def f285 (p1 : Int32) (p2 : Int32) (p3 : Int32) (μ : Mem) : Option (Mem × Int32) :=
  if p1 < p2 then
    rtZ (0 : Int32) μ
  else
    if p3 < p1 then
      rtZ (0 : Int32) μ
    else
      rtZ (1 : Int32) μ
theorem ok285 {L : Nat} (p1 : Int32) (p2 : Int32) (p3 : Int32) (μ : Mem) (res : Mem × Int32) (h : f285 p1 p2 p3 μ = some res) : Mx 285 [.int p1, .int p2, .int p3] (mk L μ) (mk L res.1, some (.int res.2)) := by
  refine Mx_of ml_285 (by rw [mx_285]; exact Nat.le_of_ble_eq_true rfl) ?_
  show Sx 285 0 [(0, .int p1), (1, .int p2), (2, .int p3)] [] 0 0 (mk L μ) _
  unfold f285 at h
  refine sx_iload_n (i := 0) k285_0 rfl rfl ?_
  refine sx_iload_n (i := 1) k285_1 rfl rfl ?_
  by_cases hb1 : p1 < p2
  · rw [if_pos hb1] at h
    refine sx_icmp_lt (tgt := 14) k285_2 (by decide) (fun _ => ?_) (fun q => absurd hb1 q)
    refine sx_iconst (v := 0) k285_14 (by decide) ?_
    exact cx_retz k285_15 rt_285 h
  · rw [if_neg hb1] at h
    refine sx_icmp_lt (tgt := 14) k285_2 (by decide) (fun q => absurd q hb1) (fun _ => ?_)
    refine sx_iload_n (i := 0) k285_5 rfl rfl ?_
    refine sx_iload_n (i := 2) k285_6 rfl rfl ?_
    by_cases hb2 : p3 < p1
    · rw [if_pos hb2] at h
      refine sx_icmp_gt (tgt := 14) k285_7 (by decide) (fun _ => ?_) (fun q => absurd hb2 q)
      refine sx_iconst (v := 0) k285_14 (by decide) ?_
      exact cx_retz k285_15 rt_285 h
    · rw [if_neg hb2] at h
      refine sx_icmp_gt (tgt := 14) k285_7 (by decide) (fun q => absurd q hb2) (fun _ => ?_)
      refine sx_iconst (v := 1) k285_10 (by decide) ?_
      refine sx_goto (tgt := 15) k285_11 (by decide) ?_
      exact cx_retz k285_15 rt_285 h
theorem k286_0 : decode (gb 286) 0 = .ok (.iload_n 1, 1) := by decide +kernel
theorem k286_1 : decode (gb 286) 1 = .ok (.iconst 0, 1) := by decide +kernel
theorem k286_2 : decode (gb 286) 2 = .ok (.bipush 11, 2) := by decide +kernel
theorem k286_4 : decode (gb 286) 4 = .ok (.invokestatic 290, 3) := by decide +kernel
theorem k286_7 : decode (gb 286) 7 = .ok (.istore_n 3, 1) := by decide +kernel
theorem k286_8 : decode (gb 286) 8 = .ok (.iload_n 3, 1) := by decide +kernel
theorem k286_9 : decode (gb 286) 9 = .ok (.ifCond .eq 116, 3) := by decide +kernel
theorem k286_12 : decode (gb 286) 12 = .ok (.iload_n 1, 1) := by decide +kernel
theorem k286_13 : decode (gb 286) 13 = .ok (.iconst 3, 1) := by decide +kernel
theorem k286_14 : decode (gb 286) 14 = .ok (.if_icmp .eq 9, 3) := by decide +kernel
theorem k286_17 : decode (gb 286) 17 = .ok (.iload_n 1, 1) := by decide +kernel
theorem k286_18 : decode (gb 286) 18 = .ok (.bipush 6, 2) := by decide +kernel
theorem k286_20 : decode (gb 286) 20 = .ok (.if_icmp .ne 14, 3) := by decide +kernel
theorem k286_23 : decode (gb 286) 23 = .ok (.iload_n 2, 1) := by decide +kernel
theorem k286_24 : decode (gb 286) 24 = .ok (.iconst 0, 1) := by decide +kernel
theorem k286_25 : decode (gb 286) 25 = .ok (.sipush 255, 3) := by decide +kernel
theorem k286_28 : decode (gb 286) 28 = .ok (.invokestatic 290, 3) := by decide +kernel
theorem k286_31 : decode (gb 286) 31 = .ok (.ifCond .eq 94, 3) := by decide +kernel
theorem k286_34 : decode (gb 286) 34 = .ok (.iload_n 1, 1) := by decide +kernel
theorem k286_35 : decode (gb 286) 35 = .ok (.bipush 7, 2) := by decide +kernel
theorem k286_37 : decode (gb 286) 37 = .ok (.if_icmp .ne 13, 3) := by decide +kernel
theorem k286_40 : decode (gb 286) 40 = .ok (.iload_n 2, 1) := by decide +kernel
theorem k286_41 : decode (gb 286) 41 = .ok (.iconst 1, 1) := by decide +kernel
theorem k286_42 : decode (gb 286) 42 = .ok (.bipush 32, 2) := by decide +kernel
theorem k286_44 : decode (gb 286) 44 = .ok (.invokestatic 290, 3) := by decide +kernel
theorem k286_47 : decode (gb 286) 47 = .ok (.ifCond .eq 78, 3) := by decide +kernel
theorem k286_50 : decode (gb 286) 50 = .ok (.iload_n 1, 1) := by decide +kernel
theorem k286_51 : decode (gb 286) 51 = .ok (.bipush 8, 2) := by decide +kernel
theorem k286_53 : decode (gb 286) 53 = .ok (.if_icmp .ne 14, 3) := by decide +kernel
theorem k286_56 : decode (gb 286) 56 = .ok (.iload_n 2, 1) := by decide +kernel
theorem k286_57 : decode (gb 286) 57 = .ok (.iconst 1, 1) := by decide +kernel
theorem k286_58 : decode (gb 286) 58 = .ok (.sipush 1000, 3) := by decide +kernel
theorem k286_61 : decode (gb 286) 61 = .ok (.invokestatic 290, 3) := by decide +kernel
theorem k286_64 : decode (gb 286) 64 = .ok (.ifCond .eq 61, 3) := by decide +kernel
theorem k286_67 : decode (gb 286) 67 = .ok (.iload_n 1, 1) := by decide +kernel
theorem k286_68 : decode (gb 286) 68 = .ok (.bipush 9, 2) := by decide +kernel
theorem k286_70 : decode (gb 286) 70 = .ok (.if_icmp .ne 13, 3) := by decide +kernel
theorem k286_73 : decode (gb 286) 73 = .ok (.iload_n 2, 1) := by decide +kernel
theorem k286_74 : decode (gb 286) 74 = .ok (.iconst 1, 1) := by decide +kernel
theorem k286_75 : decode (gb 286) 75 = .ok (.bipush 15, 2) := by decide +kernel
theorem k286_77 : decode (gb 286) 77 = .ok (.invokestatic 290, 3) := by decide +kernel
theorem k286_80 : decode (gb 286) 80 = .ok (.ifCond .eq 45, 3) := by decide +kernel
theorem k286_83 : decode (gb 286) 83 = .ok (.iload_n 1, 1) := by decide +kernel
theorem k286_84 : decode (gb 286) 84 = .ok (.bipush 10, 2) := by decide +kernel
theorem k286_86 : decode (gb 286) 86 = .ok (.if_icmp .ne 12, 3) := by decide +kernel
theorem k286_89 : decode (gb 286) 89 = .ok (.iload_n 2, 1) := by decide +kernel
theorem k286_90 : decode (gb 286) 90 = .ok (.iconst 0, 1) := by decide +kernel
theorem k286_91 : decode (gb 286) 91 = .ok (.iconst 1, 1) := by decide +kernel
theorem k286_92 : decode (gb 286) 92 = .ok (.invokestatic 290, 3) := by decide +kernel
theorem k286_95 : decode (gb 286) 95 = .ok (.ifCond .eq 30, 3) := by decide +kernel
theorem k286_98 : decode (gb 286) 98 = .ok (.iload_n 1, 1) := by decide +kernel
theorem k286_99 : decode (gb 286) 99 = .ok (.bipush 11, 2) := by decide +kernel
theorem k286_101 : decode (gb 286) 101 = .ok (.if_icmp .ne 20, 3) := by decide +kernel
theorem k286_104 : decode (gb 286) 104 = .ok (.iload_n 2, 1) := by decide +kernel
theorem k286_105 : decode (gb 286) 105 = .ok (.iconst 2, 1) := by decide +kernel
theorem k286_106 : decode (gb 286) 106 = .ok (.sipush 254, 3) := by decide +kernel
theorem k286_109 : decode (gb 286) 109 = .ok (.invokestatic 290, 3) := by decide +kernel
theorem k286_112 : decode (gb 286) 112 = .ok (.ifCond .eq 13, 3) := by decide +kernel
theorem k286_115 : decode (gb 286) 115 = .ok (.iload_n 2, 1) := by decide +kernel
theorem k286_116 : decode (gb 286) 116 = .ok (.iconst 2, 1) := by decide +kernel
theorem k286_117 : decode (gb 286) 117 = .ok (.irem, 1) := by decide +kernel
theorem k286_118 : decode (gb 286) 118 = .ok (.ifCond .ne 7, 3) := by decide +kernel
theorem k286_121 : decode (gb 286) 121 = .ok (.iconst 1, 1) := by decide +kernel
theorem k286_122 : decode (gb 286) 122 = .ok (.goto 4, 3) := by decide +kernel
theorem k286_125 : decode (gb 286) 125 = .ok (.iconst 0, 1) := by decide +kernel
theorem k286_126 : decode (gb 286) 126 = .ok (.istore_n 3, 1) := by decide +kernel
theorem k286_127 : decode (gb 286) 127 = .ok (.iload_n 3, 1) := by decide +kernel
theorem k286_128 : decode (gb 286) 128 = .ok (.ifCond .ne 5, 3) := by decide +kernel
theorem k286_131 : decode (gb 286) 131 = .ok (.iconst (-1), 1) := by decide +kernel
theorem k286_132 : decode (gb 286) 132 = .ok (.ireturn, 1) := by decide +kernel
theorem k286_133 : decode (gb 286) 133 = .ok (.iload_n 1, 1) := by decide +kernel
theorem k286_134 : decode (gb 286) 134 = .ok (.iconst 3, 1) := by decide +kernel
theorem k286_135 : decode (gb 286) 135 = .ok (.if_icmp .gt 12, 3) := by decide +kernel
theorem k286_138 : decode (gb 286) 138 = .ok (.aload_n 0, 1) := by decide +kernel
theorem k286_139 : decode (gb 286) 139 = .ok (.getfield 195, 3) := by decide +kernel
theorem k286_142 : decode (gb 286) 142 = .ok (.bipush 6, 2) := by decide +kernel
theorem k286_144 : decode (gb 286) 144 = .ok (.if_icmp .ne 46, 3) := by decide +kernel
theorem k286_147 : decode (gb 286) 147 = .ok (.iload_n 1, 1) := by decide +kernel
theorem k286_148 : decode (gb 286) 148 = .ok (.iconst 5, 1) := by decide +kernel
theorem k286_149 : decode (gb 286) 149 = .ok (.if_icmp .ne 19, 3) := by decide +kernel
theorem k286_152 : decode (gb 286) 152 = .ok (.aload_n 0, 1) := by decide +kernel
theorem k286_153 : decode (gb 286) 153 = .ok (.getfield 195, 3) := by decide +kernel
theorem k286_156 : decode (gb 286) 156 = .ok (.bipush 6, 2) := by decide +kernel
theorem k286_158 : decode (gb 286) 158 = .ok (.if_icmp .ne 32, 3) := by decide +kernel
theorem k286_161 : decode (gb 286) 161 = .ok (.aload_n 0, 1) := by decide +kernel
theorem k286_162 : decode (gb 286) 162 = .ok (.getfield 250, 3) := by decide +kernel
theorem k286_165 : decode (gb 286) 165 = .ok (.ifCond .eq 25, 3) := by decide +kernel
theorem k286_168 : decode (gb 286) 168 = .ok (.iload_n 1, 1) := by decide +kernel
theorem k286_169 : decode (gb 286) 169 = .ok (.bipush 6, 2) := by decide +kernel
theorem k286_171 : decode (gb 286) 171 = .ok (.if_icmp .ne 22, 3) := by decide +kernel
theorem k286_174 : decode (gb 286) 174 = .ok (.aload_n 0, 1) := by decide +kernel
theorem k286_175 : decode (gb 286) 175 = .ok (.getfield 195, 3) := by decide +kernel
theorem k286_178 : decode (gb 286) 178 = .ok (.bipush 6, 2) := by decide +kernel
theorem k286_180 : decode (gb 286) 180 = .ok (.if_icmp .ne 10, 3) := by decide +kernel
theorem k286_183 : decode (gb 286) 183 = .ok (.aload_n 0, 1) := by decide +kernel
theorem k286_184 : decode (gb 286) 184 = .ok (.getfield 250, 3) := by decide +kernel
theorem k286_187 : decode (gb 286) 187 = .ok (.ifCond .eq 6, 3) := by decide +kernel
theorem k286_190 : decode (gb 286) 190 = .ok (.bipush (-2), 2) := by decide +kernel
theorem k286_192 : decode (gb 286) 192 = .ok (.ireturn, 1) := by decide +kernel
theorem k286_193 : decode (gb 286) 193 = .ok (.iload_n 1, 1) := by decide +kernel
theorem k286_194 : decode (gb 286) 194 = .ok (.iconst 3, 1) := by decide +kernel
theorem k286_195 : decode (gb 286) 195 = .ok (.if_icmp .gt 89, 3) := by decide +kernel
theorem k286_198 : decode (gb 286) 198 = .ok (.aload_n 0, 1) := by decide +kernel
theorem k286_199 : decode (gb 286) 199 = .ok (.invokevirtual 256, 3) := by decide +kernel
theorem k286_202 : decode (gb 286) 202 = .ok (.aload_n 0, 1) := by decide +kernel
theorem k286_203 : decode (gb 286) 203 = .ok (.iconst 1, 1) := by decide +kernel
theorem k286_204 : decode (gb 286) 204 = .ok (.putfield 232, 3) := by decide +kernel
theorem k286_207 : decode (gb 286) 207 = .ok (.aload_n 0, 1) := by decide +kernel
theorem k286_208 : decode (gb 286) 208 = .ok (.iload_n 1, 1) := by decide +kernel
theorem k286_209 : decode (gb 286) 209 = .ok (.ifCond .ne 7, 3) := by decide +kernel
theorem k286_212 : decode (gb 286) 212 = .ok (.iconst 1, 1) := by decide +kernel
theorem k286_213 : decode (gb 286) 213 = .ok (.goto 13, 3) := by decide +kernel
theorem k286_216 : decode (gb 286) 216 = .ok (.iload_n 1, 1) := by decide +kernel
theorem k286_217 : decode (gb 286) 217 = .ok (.iconst 1, 1) := by decide +kernel
theorem k286_218 : decode (gb 286) 218 = .ok (.if_icmp .ne 7, 3) := by decide +kernel
theorem k286_221 : decode (gb 286) 221 = .ok (.iconst 4, 1) := by decide +kernel
theorem k286_222 : decode (gb 286) 222 = .ok (.goto 4, 3) := by decide +kernel
theorem k286_225 : decode (gb 286) 225 = .ok (.iconst 5, 1) := by decide +kernel
theorem k286_226 : decode (gb 286) 226 = .ok (.putfield 195, 3) := by decide +kernel
theorem k286_229 : decode (gb 286) 229 = .ok (.aload_n 0, 1) := by decide +kernel
theorem k286_230 : decode (gb 286) 230 = .ok (.iload_n 1, 1) := by decide +kernel
theorem k286_231 : decode (gb 286) 231 = .ok (.iconst 3, 1) := by decide +kernel
theorem k286_232 : decode (gb 286) 232 = .ok (.if_icmp .ne 7, 3) := by decide +kernel
theorem k286_235 : decode (gb 286) 235 = .ok (.iload_n 2, 1) := by decide +kernel
theorem k286_236 : decode (gb 286) 236 = .ok (.goto 7, 3) := by decide +kernel
theorem k286_239 : decode (gb 286) 239 = .ok (.aload_n 0, 1) := by decide +kernel
theorem k286_240 : decode (gb 286) 240 = .ok (.getfield 235, 3) := by decide +kernel
theorem k286_243 : decode (gb 286) 243 = .ok (.putfield 235, 3) := by decide +kernel
theorem k286_246 : decode (gb 286) 246 = .ok (.aload_n 0, 1) := by decide +kernel
theorem k286_247 : decode (gb 286) 247 = .ok (.aload_n 0, 1) := by decide +kernel
theorem k286_248 : decode (gb 286) 248 = .ok (.getfield 235, 3) := by decide +kernel
theorem k286_251 : decode (gb 286) 251 = .ok (.putfield 204, 3) := by decide +kernel
theorem k286_254 : decode (gb 286) 254 = .ok (.iload_n 1, 1) := by decide +kernel
theorem k286_255 : decode (gb 286) 255 = .ok (.iconst 2, 1) := by decide +kernel
theorem k286_256 : decode (gb 286) 256 = .ok (.if_icmp .lt 17, 3) := by decide +kernel
theorem k286_259 : decode (gb 286) 259 = .ok (.aload_n 0, 1) := by decide +kernel
theorem k286_260 : decode (gb 286) 260 = .ok (.iload_n 1, 1) := by decide +kernel
theorem k286_261 : decode (gb 286) 261 = .ok (.putfield 179, 3) := by decide +kernel
theorem k286_264 : decode (gb 286) 264 = .ok (.aload_n 0, 1) := by decide +kernel
theorem k286_265 : decode (gb 286) 265 = .ok (.iload_n 2, 1) := by decide +kernel
theorem k286_266 : decode (gb 286) 266 = .ok (.putfield 182, 3) := by decide +kernel
theorem k286_269 : decode (gb 286) 269 = .ok (.aload_n 0, 1) := by decide +kernel
theorem k286_270 : decode (gb 286) 270 = .ok (.invokevirtual 287, 3) := by decide +kernel
theorem k286_273 : decode (gb 286) 273 = .ok (.iload_n 1, 1) := by decide +kernel
theorem k286_274 : decode (gb 286) 274 = .ok (.iconst 1, 1) := by decide +kernel
theorem k286_275 : decode (gb 286) 275 = .ok (.if_icmp .lt 7, 3) := by decide +kernel
theorem k286_278 : decode (gb 286) 278 = .ok (.aload_n 0, 1) := by decide +kernel
theorem k286_279 : decode (gb 286) 279 = .ok (.invokevirtual 244, 3) := by decide +kernel
theorem k286_282 : decode (gb 286) 282 = .ok (.iconst 1, 1) := by decide +kernel
theorem k286_283 : decode (gb 286) 283 = .ok (.ireturn, 1) := by decide +kernel
theorem k286_284 : decode (gb 286) 284 = .ok (.iload_n 1, 1) := by decide +kernel
theorem k286_285 : decode (gb 286) 285 = .ok (.tableswitch 121 4 10 #[43, 52, 76, 89, 97, 105, 113], 43) := by decide +kernel
theorem k286_328 : decode (gb 286) 328 = .ok (.aload_n 0, 1) := by decide +kernel
theorem k286_329 : decode (gb 286) 329 = .ok (.bipush 7, 2) := by decide +kernel
theorem k286_331 : decode (gb 286) 331 = .ok (.invokevirtual 259, 3) := by decide +kernel
theorem k286_334 : decode (gb 286) 334 = .ok (.goto 77, 3) := by decide +kernel
theorem k286_337 : decode (gb 286) 337 = .ok (.aload_n 0, 1) := by decide +kernel
theorem k286_338 : decode (gb 286) 338 = .ok (.aload_n 0, 1) := by decide +kernel
theorem k286_339 : decode (gb 286) 339 = .ok (.getfield 250, 3) := by decide +kernel
theorem k286_342 : decode (gb 286) 342 = .ok (.putfield 195, 3) := by decide +kernel
theorem k286_345 : decode (gb 286) 345 = .ok (.aload_n 0, 1) := by decide +kernel
theorem k286_346 : decode (gb 286) 346 = .ok (.iconst 0, 1) := by decide +kernel
theorem k286_347 : decode (gb 286) 347 = .ok (.putfield 250, 3) := by decide +kernel
theorem k286_350 : decode (gb 286) 350 = .ok (.aload_n 0, 1) := by decide +kernel
theorem k286_351 : decode (gb 286) 351 = .ok (.invokevirtual 244, 3) := by decide +kernel
theorem k286_354 : decode (gb 286) 354 = .ok (.aload_n 0, 1) := by decide +kernel
theorem k286_355 : decode (gb 286) 355 = .ok (.invokevirtual 268, 3) := by decide +kernel
theorem k286_358 : decode (gb 286) 358 = .ok (.goto 53, 3) := by decide +kernel
theorem k286_361 : decode (gb 286) 361 = .ok (.aload_n 0, 1) := by decide +kernel
theorem k286_362 : decode (gb 286) 362 = .ok (.iload_n 2, 1) := by decide +kernel
theorem k286_363 : decode (gb 286) 363 = .ok (.putfield 235, 3) := by decide +kernel
theorem k286_366 : decode (gb 286) 366 = .ok (.aload_n 0, 1) := by decide +kernel
theorem k286_367 : decode (gb 286) 367 = .ok (.iload_n 2, 1) := by decide +kernel
theorem k286_368 : decode (gb 286) 368 = .ok (.putfield 204, 3) := by decide +kernel
theorem k286_371 : decode (gb 286) 371 = .ok (.goto 40, 3) := by decide +kernel
theorem k286_374 : decode (gb 286) 374 = .ok (.aload_n 0, 1) := by decide +kernel
theorem k286_375 : decode (gb 286) 375 = .ok (.iload_n 2, 1) := by decide +kernel
theorem k286_376 : decode (gb 286) 376 = .ok (.putfield 216, 3) := by decide +kernel
theorem k286_379 : decode (gb 286) 379 = .ok (.goto 32, 3) := by decide +kernel
theorem k286_382 : decode (gb 286) 382 = .ok (.aload_n 0, 1) := by decide +kernel
theorem k286_383 : decode (gb 286) 383 = .ok (.iload_n 2, 1) := by decide +kernel
theorem k286_384 : decode (gb 286) 384 = .ok (.putfield 189, 3) := by decide +kernel
theorem k286_387 : decode (gb 286) 387 = .ok (.goto 24, 3) := by decide +kernel
theorem k286_390 : decode (gb 286) 390 = .ok (.aload_n 0, 1) := by decide +kernel
theorem k286_391 : decode (gb 286) 391 = .ok (.iload_n 2, 1) := by decide +kernel
theorem k286_392 : decode (gb 286) 392 = .ok (.putfield 275, 3) := by decide +kernel
theorem k286_395 : decode (gb 286) 395 = .ok (.goto 16, 3) := by decide +kernel
theorem k286_398 : decode (gb 286) 398 = .ok (.aload_n 0, 1) := by decide +kernel
theorem k286_399 : decode (gb 286) 399 = .ok (.iload_n 2, 1) := by decide +kernel
theorem k286_400 : decode (gb 286) 400 = .ok (.putfield 281, 3) := by decide +kernel
theorem k286_403 : decode (gb 286) 403 = .ok (.goto 8, 3) := by decide +kernel
theorem k286_406 : decode (gb 286) 406 = .ok (.aload_n 0, 1) := by decide +kernel
theorem k286_407 : decode (gb 286) 407 = .ok (.iload_n 2, 1) := by decide +kernel
theorem k286_408 : decode (gb 286) 408 = .ok (.putfield 161, 3) := by decide +kernel
theorem k286_411 : decode (gb 286) 411 = .ok (.iconst 1, 1) := by decide +kernel
theorem k286_412 : decode (gb 286) 412 = .ok (.ireturn, 1) := by decide +kernel
def c286_273 (v1 : Int32) (μ : Mem) : Option (Mem × Int32) :=
  if v1 < (1 : Int32) then
    some (μ, (1 : Int32))
  else
    (f274 μ).bind fun r2 =>
    some (r2, (1 : Int32))
theorem c286_273_ok {L : Nat} (v1 : Int32) (μ : Mem) (res : Mem × Int32) (h : c286_273 v1 μ = some res) : Sx 286 273 [(0, .ref 129), (1, .int v1)] [] 0 0 (mk L μ) (mk L res.1, some (.int res.2)) := by
  unfold c286_273 at h
  refine sx_iload_n (i := 1) k286_273 rfl rfl ?_
  refine sx_iconst (v := 1) k286_274 (by decide) ?_
  by_cases hb1 : v1 < (1 : Int32)
  · rw [if_pos hb1] at h
    refine sx_icmp_lt (tgt := 282) k286_275 (by decide) (fun _ => ?_) (fun q => absurd hb1 q)
    refine sx_iconst (v := 1) k286_282 (by decide) ?_
    exact cx_reti k286_283 rt_286 h
  · rw [if_neg hb1] at h
    refine sx_icmp_lt (tgt := 282) k286_275 (by decide) (fun q => absurd q hb1) (fun _ => ?_)
    refine sx_aload_n (i := 0) k286_278 rfl rfl ?_
    obtain ⟨r2, e3, h⟩ := Option.bind_eq_some_iff.mp h
    refine cx_V (sk := []) (vs := []) st_286_274 k286_279 ow_286 cl_12_244 (by decide) rfl (Nat.le_of_ble_eq_true rfl) sk_129 (ok274 _ _ e3) (sk3 := []) rfl rfl ?_
    refine sx_iconst (v := 1) k286_282 (by decide) ?_
    exact cx_reti k286_283 rt_286 h
def c286_243 (v1 : Int32) (v2 : Int32) (s1 : Int32) (μ : Mem) : Option (Mem × Int32) :=
  (pfI 129 29 s1 μ).bind fun m1 =>
  (pfI 129 30 (m1.1 129 29) m1).bind fun m3 =>
  if v1 < (2 : Int32) then
    c286_273 v1 m3
  else
    (pfI 129 48 v1 m3).bind fun m6 =>
    (pfI 129 49 v2 m6).bind fun m8 =>
    (f272 m8).bind fun r10 =>
    c286_273 v1 r10
theorem c286_243_ok {L : Nat} (v1 : Int32) (v2 : Int32) (s1 : Int32) (μ : Mem) (res : Mem × Int32) (h : c286_243 v1 v2 s1 μ = some res) : Sx 286 243 [(0, .ref 129), (1, .int v1), (2, .int v2)] [.int s1, .ref 129] 0 0 (mk L μ) (mk L res.1, some (.int res.2)) := by
  unfold c286_243 at h
  obtain ⟨m1, e2, h⟩ := Option.bind_eq_some_iff.mp h
  refine cx_putI (k := 29) k286_243 ow_286 fl_12_235 (by decide) sk_129 nf_11_29 fu_11_29 e2 ?_
  refine sx_aload_n (i := 0) k286_246 rfl rfl ?_
  refine sx_aload_n (i := 0) k286_247 rfl rfl ?_
  refine cx_getI (k := 29) k286_248 ow_286 fl_12_235 (by decide) sk_129 ft_11_29 ?_
  obtain ⟨m3, e4, h⟩ := Option.bind_eq_some_iff.mp h
  refine cx_putI (k := 30) k286_251 ow_286 fl_12_204 (by decide) sk_129 nf_11_30 fu_11_30 e4 ?_
  refine sx_iload_n (i := 1) k286_254 rfl rfl ?_
  refine sx_iconst (v := 2) k286_255 (by decide) ?_
  by_cases hb5 : v1 < (2 : Int32)
  · rw [if_pos hb5] at h
    refine sx_icmp_lt (tgt := 273) k286_256 (by decide) (fun _ => ?_) (fun q => absurd hb5 q)
    refine sx_pick (lo2 := [(0, .ref 129), (1, .int v1)]) [0, 1] rfl ?_
    exact c286_273_ok v1 _ _ h
  · rw [if_neg hb5] at h
    refine sx_icmp_lt (tgt := 273) k286_256 (by decide) (fun q => absurd q hb5) (fun _ => ?_)
    refine sx_aload_n (i := 0) k286_259 rfl rfl ?_
    refine sx_iload_n (i := 1) k286_260 rfl rfl ?_
    obtain ⟨m6, e7, h⟩ := Option.bind_eq_some_iff.mp h
    refine cx_putI (k := 48) k286_261 ow_286 fl_12_179 (by decide) sk_129 nf_11_48 fu_11_48 e7 ?_
    refine sx_aload_n (i := 0) k286_264 rfl rfl ?_
    refine sx_iload_n (i := 2) k286_265 rfl rfl ?_
    obtain ⟨m8, e9, h⟩ := Option.bind_eq_some_iff.mp h
    refine cx_putI (k := 49) k286_266 ow_286 fl_12_182 (by decide) sk_129 nf_11_49 fu_11_49 e9 ?_
    refine sx_aload_n (i := 0) k286_269 rfl rfl ?_
    obtain ⟨r10, e11, h⟩ := Option.bind_eq_some_iff.mp h
    refine cx_V (sk := []) (vs := []) st_286_272 k286_270 ow_286 cl_12_287 (by decide) rfl (Nat.le_of_ble_eq_true rfl) sk_129 (ok272 _ _ e11) (sk3 := []) rfl rfl ?_
    refine sx_pick (lo2 := [(0, .ref 129), (1, .int v1)]) [0, 1] rfl ?_
    exact c286_273_ok v1 _ _ h
def c286_226 (v1 : Int32) (v2 : Int32) (s1 : Int32) (μ : Mem) : Option (Mem × Int32) :=
  (pfI 129 28 s1 μ).bind fun m1 =>
  if v1 = (3 : Int32) then
    c286_243 v1 v2 v2 m1
  else
    c286_243 v1 v2 (m1.1 129 29) m1
theorem c286_226_ok {L : Nat} (v1 : Int32) (v2 : Int32) (s1 : Int32) (μ : Mem) (res : Mem × Int32) (h : c286_226 v1 v2 s1 μ = some res) : Sx 286 226 [(0, .ref 129), (1, .int v1), (2, .int v2)] [.int s1, .ref 129] 0 0 (mk L μ) (mk L res.1, some (.int res.2)) := by
  unfold c286_226 at h
  obtain ⟨m1, e2, h⟩ := Option.bind_eq_some_iff.mp h
  refine cx_putI (k := 28) k286_226 ow_286 fl_12_195 (by decide) sk_129 nf_11_28 fu_11_28 e2 ?_
  refine sx_aload_n (i := 0) k286_229 rfl rfl ?_
  refine sx_iload_n (i := 1) k286_230 rfl rfl ?_
  refine sx_iconst (v := 3) k286_231 (by decide) ?_
  by_cases hb3 : v1 = (3 : Int32)
  · rw [if_pos hb3] at h
    refine sx_icmp_ne (tgt := 239) k286_232 (by decide) (fun q => absurd hb3 q) (fun _ => ?_)
    refine sx_iload_n (i := 2) k286_235 rfl rfl ?_
    refine sx_goto (tgt := 243) k286_236 (by decide) ?_
    refine sx_pick (lo2 := [(0, .ref 129), (1, .int v1), (2, .int v2)]) [0, 1, 2] rfl ?_
    exact c286_243_ok v1 v2 v2 _ _ h
  · rw [if_neg hb3] at h
    refine sx_icmp_ne (tgt := 239) k286_232 (by decide) (fun _ => ?_) (fun q => absurd q hb3)
    refine sx_aload_n (i := 0) k286_239 rfl rfl ?_
    refine cx_getI (k := 29) k286_240 ow_286 fl_12_235 (by decide) sk_129 ft_11_29 ?_
    refine sx_pick (lo2 := [(0, .ref 129), (1, .int v1), (2, .int v2)]) [0, 1, 2] rfl ?_
    exact c286_243_ok v1 v2 (m1.1 129 29) _ _ h
def c286_193 (v1 : Int32) (v2 : Int32) (μ : Mem) : Option (Mem × Int32) :=
  if (3 : Int32) < v1 then
    if v1 = (4 : Int32) then
      (f279 (7 : Int32) μ).bind fun r2 =>
      some (r2, (1 : Int32))
    else if v1 = (5 : Int32) then
      (pfI 129 28 (μ.1 129 37) μ).bind fun m5 =>
      (pfI 129 37 (0 : Int32) m5).bind fun m7 =>
      (f274 m7).bind fun r9 =>
      (f275 r9).bind fun r11 =>
      some (r11, (1 : Int32))
    else if v1 = (6 : Int32) then
      (pfI 129 29 v2 μ).bind fun m14 =>
      (pfI 129 30 v2 m14).bind fun m16 =>
      some (m16, (1 : Int32))
    else if v1 = (7 : Int32) then
      (pfI 129 33 v2 μ).bind fun m19 =>
      some (m19, (1 : Int32))
    else if v1 = (8 : Int32) then
      (pfI 129 35 v2 μ).bind fun m22 =>
      some (m22, (1 : Int32))
    else if v1 = (9 : Int32) then
      (pfI 129 32 v2 μ).bind fun m25 =>
      some (m25, (1 : Int32))
    else if v1 = (10 : Int32) then
      (pfI 129 36 v2 μ).bind fun m28 =>
      some (m28, (1 : Int32))
    else 
      (pfI 129 24 v2 μ).bind fun m31 =>
      some (m31, (1 : Int32))
  else
    (f278 μ).bind fun r33 =>
    (pfI 129 31 (1 : Int32) r33).bind fun m35 =>
    if v1 = 0 then
      c286_226 v1 v2 (1 : Int32) m35
    else
      if v1 = (1 : Int32) then
        c286_226 v1 v2 (4 : Int32) m35
      else
        c286_226 v1 v2 (5 : Int32) m35
theorem c286_193_ok {L : Nat} (v1 : Int32) (v2 : Int32) (μ : Mem) (res : Mem × Int32) (h : c286_193 v1 v2 μ = some res) : Sx 286 193 [(0, .ref 129), (1, .int v1), (2, .int v2)] [] 0 0 (mk L μ) (mk L res.1, some (.int res.2)) := by
  unfold c286_193 at h
  refine sx_iload_n (i := 1) k286_193 rfl rfl ?_
  refine sx_iconst (v := 3) k286_194 (by decide) ?_
  by_cases hb1 : (3 : Int32) < v1
  · rw [if_pos hb1] at h
    refine sx_icmp_gt (tgt := 284) k286_195 (by decide) (fun _ => ?_) (fun q => absurd hb1 q)
    refine sx_iload_n (i := 1) k286_284 rfl rfl ?_
    by_cases hb4 : v1 = (4 : Int32)
    · rw [if_pos hb4] at h
      refine sx_tableIn (off := 43) (tgt := 328) k286_285 (by rw [hb4]; decide) (by rw [hb4]; decide) (by rw [hb4]; rfl) (by decide) ?_
      refine sx_aload_n (i := 0) k286_328 rfl rfl ?_
      refine sx_bipush (v := 7) k286_329 (by decide) ?_
      obtain ⟨r2, e3, h⟩ := Option.bind_eq_some_iff.mp h
      refine cx_V (sk := []) (vs := [.int (7 : Int32)]) st_286_279 k286_331 ow_286 cl_12_259 (by decide) rfl (Nat.le_of_ble_eq_true rfl) sk_129 (ok279 (7 : Int32) _ _ e3) (sk3 := []) rfl rfl ?_
      refine sx_goto (tgt := 411) k286_334 (by decide) ?_
      refine sx_iconst (v := 1) k286_411 (by decide) ?_
      exact cx_reti k286_412 rt_286 h
    · rw [if_neg hb4] at h
      by_cases hb13 : v1 = (5 : Int32)
      · rw [if_pos hb13] at h
        refine sx_tableIn (off := 52) (tgt := 337) k286_285 (by rw [hb13]; decide) (by rw [hb13]; decide) (by rw [hb13]; rfl) (by decide) ?_
        refine sx_aload_n (i := 0) k286_337 rfl rfl ?_
        refine sx_aload_n (i := 0) k286_338 rfl rfl ?_
        refine cx_getI (k := 37) k286_339 ow_286 fl_12_250 (by decide) sk_129 ft_11_37 ?_
        obtain ⟨m5, e6, h⟩ := Option.bind_eq_some_iff.mp h
        refine cx_putI (k := 28) k286_342 ow_286 fl_12_195 (by decide) sk_129 nf_11_28 fu_11_28 e6 ?_
        refine sx_aload_n (i := 0) k286_345 rfl rfl ?_
        refine sx_iconst (v := 0) k286_346 (by decide) ?_
        obtain ⟨m7, e8, h⟩ := Option.bind_eq_some_iff.mp h
        refine cx_putI (k := 37) k286_347 ow_286 fl_12_250 (by decide) sk_129 nf_11_37 fu_11_37 e8 ?_
        refine sx_aload_n (i := 0) k286_350 rfl rfl ?_
        obtain ⟨r9, e10, h⟩ := Option.bind_eq_some_iff.mp h
        refine cx_V (sk := []) (vs := []) st_286_274 k286_351 ow_286 cl_12_244 (by decide) rfl (Nat.le_of_ble_eq_true rfl) sk_129 (ok274 _ _ e10) (sk3 := []) rfl rfl ?_
        refine sx_aload_n (i := 0) k286_354 rfl rfl ?_
        obtain ⟨r11, e12, h⟩ := Option.bind_eq_some_iff.mp h
        refine cx_V (sk := []) (vs := []) st_286_275 k286_355 ow_286 cl_12_268 (by decide) rfl (Nat.le_of_ble_eq_true rfl) sk_129 (ok275 _ _ e12) (sk3 := []) rfl rfl ?_
        refine sx_goto (tgt := 411) k286_358 (by decide) ?_
        refine sx_iconst (v := 1) k286_411 (by decide) ?_
        exact cx_reti k286_412 rt_286 h
      · rw [if_neg hb13] at h
        by_cases hb18 : v1 = (6 : Int32)
        · rw [if_pos hb18] at h
          refine sx_tableIn (off := 76) (tgt := 361) k286_285 (by rw [hb18]; decide) (by rw [hb18]; decide) (by rw [hb18]; rfl) (by decide) ?_
          refine sx_aload_n (i := 0) k286_361 rfl rfl ?_
          refine sx_iload_n (i := 2) k286_362 rfl rfl ?_
          obtain ⟨m14, e15, h⟩ := Option.bind_eq_some_iff.mp h
          refine cx_putI (k := 29) k286_363 ow_286 fl_12_235 (by decide) sk_129 nf_11_29 fu_11_29 e15 ?_
          refine sx_aload_n (i := 0) k286_366 rfl rfl ?_
          refine sx_iload_n (i := 2) k286_367 rfl rfl ?_
          obtain ⟨m16, e17, h⟩ := Option.bind_eq_some_iff.mp h
          refine cx_putI (k := 30) k286_368 ow_286 fl_12_204 (by decide) sk_129 nf_11_30 fu_11_30 e17 ?_
          refine sx_goto (tgt := 411) k286_371 (by decide) ?_
          refine sx_iconst (v := 1) k286_411 (by decide) ?_
          exact cx_reti k286_412 rt_286 h
        · rw [if_neg hb18] at h
          by_cases hb21 : v1 = (7 : Int32)
          · rw [if_pos hb21] at h
            refine sx_tableIn (off := 89) (tgt := 374) k286_285 (by rw [hb21]; decide) (by rw [hb21]; decide) (by rw [hb21]; rfl) (by decide) ?_
            refine sx_aload_n (i := 0) k286_374 rfl rfl ?_
            refine sx_iload_n (i := 2) k286_375 rfl rfl ?_
            obtain ⟨m19, e20, h⟩ := Option.bind_eq_some_iff.mp h
            refine cx_putI (k := 33) k286_376 ow_286 fl_12_216 (by decide) sk_129 nf_11_33 fu_11_33 e20 ?_
            refine sx_goto (tgt := 411) k286_379 (by decide) ?_
            refine sx_iconst (v := 1) k286_411 (by decide) ?_
            exact cx_reti k286_412 rt_286 h
          · rw [if_neg hb21] at h
            by_cases hb24 : v1 = (8 : Int32)
            · rw [if_pos hb24] at h
              refine sx_tableIn (off := 97) (tgt := 382) k286_285 (by rw [hb24]; decide) (by rw [hb24]; decide) (by rw [hb24]; rfl) (by decide) ?_
              refine sx_aload_n (i := 0) k286_382 rfl rfl ?_
              refine sx_iload_n (i := 2) k286_383 rfl rfl ?_
              obtain ⟨m22, e23, h⟩ := Option.bind_eq_some_iff.mp h
              refine cx_putI (k := 35) k286_384 ow_286 fl_12_189 (by decide) sk_129 nf_11_35 fu_11_35 e23 ?_
              refine sx_goto (tgt := 411) k286_387 (by decide) ?_
              refine sx_iconst (v := 1) k286_411 (by decide) ?_
              exact cx_reti k286_412 rt_286 h
            · rw [if_neg hb24] at h
              by_cases hb27 : v1 = (9 : Int32)
              · rw [if_pos hb27] at h
                refine sx_tableIn (off := 105) (tgt := 390) k286_285 (by rw [hb27]; decide) (by rw [hb27]; decide) (by rw [hb27]; rfl) (by decide) ?_
                refine sx_aload_n (i := 0) k286_390 rfl rfl ?_
                refine sx_iload_n (i := 2) k286_391 rfl rfl ?_
                obtain ⟨m25, e26, h⟩ := Option.bind_eq_some_iff.mp h
                refine cx_putI (k := 32) k286_392 ow_286 fl_12_275 (by decide) sk_129 nf_11_32 fu_11_32 e26 ?_
                refine sx_goto (tgt := 411) k286_395 (by decide) ?_
                refine sx_iconst (v := 1) k286_411 (by decide) ?_
                exact cx_reti k286_412 rt_286 h
              · rw [if_neg hb27] at h
                by_cases hb30 : v1 = (10 : Int32)
                · rw [if_pos hb30] at h
                  refine sx_tableIn (off := 113) (tgt := 398) k286_285 (by rw [hb30]; decide) (by rw [hb30]; decide) (by rw [hb30]; rfl) (by decide) ?_
                  refine sx_aload_n (i := 0) k286_398 rfl rfl ?_
                  refine sx_iload_n (i := 2) k286_399 rfl rfl ?_
                  obtain ⟨m28, e29, h⟩ := Option.bind_eq_some_iff.mp h
                  refine cx_putI (k := 36) k286_400 ow_286 fl_12_281 (by decide) sk_129 nf_11_36 fu_11_36 e29 ?_
                  refine sx_goto (tgt := 411) k286_403 (by decide) ?_
                  refine sx_iconst (v := 1) k286_411 (by decide) ?_
                  exact cx_reti k286_412 rt_286 h
                · rw [if_neg hb30] at h
                  refine sx_tableOut (tgt := 406) k286_285 (sw_out (n := 7) (fun j hj => ?_)) (by decide) ?_
                  · intro hj2
                    exact sw_no [(4 : Int32), (5 : Int32), (6 : Int32), (7 : Int32), (8 : Int32), (9 : Int32), (10 : Int32)] (by decide) hj hj2 ⟨hb4, hb13, hb18, hb21, hb24, hb27, hb30, trivial⟩
                  ·
                    refine sx_aload_n (i := 0) k286_406 rfl rfl ?_
                    refine sx_iload_n (i := 2) k286_407 rfl rfl ?_
                    obtain ⟨m31, e32, h⟩ := Option.bind_eq_some_iff.mp h
                    refine cx_putI (k := 24) k286_408 ow_286 fl_12_161 (by decide) sk_129 nf_11_24 fu_11_24 e32 ?_
                    refine sx_iconst (v := 1) k286_411 (by decide) ?_
                    exact cx_reti k286_412 rt_286 h
  · rw [if_neg hb1] at h
    refine sx_icmp_gt (tgt := 284) k286_195 (by decide) (fun q => absurd q hb1) (fun _ => ?_)
    refine sx_aload_n (i := 0) k286_198 rfl rfl ?_
    obtain ⟨r33, e34, h⟩ := Option.bind_eq_some_iff.mp h
    refine cx_V (sk := []) (vs := []) st_286_278 k286_199 ow_286 cl_12_256 (by decide) rfl (Nat.le_of_ble_eq_true rfl) sk_129 (ok278 _ _ e34) (sk3 := []) rfl rfl ?_
    refine sx_aload_n (i := 0) k286_202 rfl rfl ?_
    refine sx_iconst (v := 1) k286_203 (by decide) ?_
    obtain ⟨m35, e36, h⟩ := Option.bind_eq_some_iff.mp h
    refine cx_putI (k := 31) k286_204 ow_286 fl_12_232 (by decide) sk_129 nf_11_31 fu_11_31 e36 ?_
    refine sx_aload_n (i := 0) k286_207 rfl rfl ?_
    refine sx_iload_n (i := 1) k286_208 rfl rfl ?_
    by_cases hb37 : v1 = 0
    · rw [if_pos hb37] at h
      refine sx_if_ne (tgt := 216) k286_209 (by decide) (fun q => absurd hb37 q) (fun _ => ?_)
      refine sx_iconst (v := 1) k286_212 (by decide) ?_
      refine sx_goto (tgt := 226) k286_213 (by decide) ?_
      refine sx_pick (lo2 := [(0, .ref 129), (1, .int v1), (2, .int v2)]) [0, 1, 2] rfl ?_
      exact c286_226_ok v1 v2 (1 : Int32) _ _ h
    · rw [if_neg hb37] at h
      refine sx_if_ne (tgt := 216) k286_209 (by decide) (fun _ => ?_) (fun q => absurd q hb37)
      refine sx_iload_n (i := 1) k286_216 rfl rfl ?_
      refine sx_iconst (v := 1) k286_217 (by decide) ?_
      by_cases hb38 : v1 = (1 : Int32)
      · rw [if_pos hb38] at h
        refine sx_icmp_ne (tgt := 225) k286_218 (by decide) (fun q => absurd hb38 q) (fun _ => ?_)
        refine sx_iconst (v := 4) k286_221 (by decide) ?_
        refine sx_goto (tgt := 226) k286_222 (by decide) ?_
        refine sx_pick (lo2 := [(0, .ref 129), (1, .int v1), (2, .int v2)]) [0, 1, 2] rfl ?_
        exact c286_226_ok v1 v2 (4 : Int32) _ _ h
      · rw [if_neg hb38] at h
        refine sx_icmp_ne (tgt := 225) k286_218 (by decide) (fun _ => ?_) (fun q => absurd q hb38)
        refine sx_iconst (v := 5) k286_225 (by decide) ?_
        refine sx_pick (lo2 := [(0, .ref 129), (1, .int v1), (2, .int v2)]) [0, 1, 2] rfl ?_
        exact c286_226_ok v1 v2 (5 : Int32) _ _ h
def c286_168 (v1 : Int32) (v2 : Int32) (μ : Mem) : Option (Mem × Int32) :=
  if v1 = (6 : Int32) then
    if (μ.1 129 28) = (6 : Int32) then
      if (μ.1 129 37) = 0 then
        c286_193 v1 v2 μ
      else
        some (μ, (-2 : Int32))
    else
      some (μ, (-2 : Int32))
  else
    c286_193 v1 v2 μ
theorem c286_168_ok {L : Nat} (v1 : Int32) (v2 : Int32) (μ : Mem) (res : Mem × Int32) (h : c286_168 v1 v2 μ = some res) : Sx 286 168 [(0, .ref 129), (1, .int v1), (2, .int v2)] [] 0 0 (mk L μ) (mk L res.1, some (.int res.2)) := by
  unfold c286_168 at h
  refine sx_iload_n (i := 1) k286_168 rfl rfl ?_
  refine sx_bipush (v := 6) k286_169 (by decide) ?_
  by_cases hb1 : v1 = (6 : Int32)
  · rw [if_pos hb1] at h
    refine sx_icmp_ne (tgt := 193) k286_171 (by decide) (fun q => absurd hb1 q) (fun _ => ?_)
    refine sx_aload_n (i := 0) k286_174 rfl rfl ?_
    refine cx_getI (k := 28) k286_175 ow_286 fl_12_195 (by decide) sk_129 ft_11_28 ?_
    refine sx_bipush (v := 6) k286_178 (by decide) ?_
    by_cases hb2 : (μ.1 129 28) = (6 : Int32)
    · rw [if_pos hb2] at h
      refine sx_icmp_ne (tgt := 190) k286_180 (by decide) (fun q => absurd hb2 q) (fun _ => ?_)
      refine sx_aload_n (i := 0) k286_183 rfl rfl ?_
      refine cx_getI (k := 37) k286_184 ow_286 fl_12_250 (by decide) sk_129 ft_11_37 ?_
      by_cases hb3 : (μ.1 129 37) = 0
      · rw [if_pos hb3] at h
        refine sx_if_eq (tgt := 193) k286_187 (by decide) (fun _ => ?_) (fun q => absurd hb3 q)
        refine sx_pick (lo2 := [(0, .ref 129), (1, .int v1), (2, .int v2)]) [0, 1, 2] rfl ?_
        exact c286_193_ok v1 v2 _ _ h
      · rw [if_neg hb3] at h
        refine sx_if_eq (tgt := 193) k286_187 (by decide) (fun q => absurd q hb3) (fun _ => ?_)
        refine sx_bipush (v := -2) k286_190 (by decide) ?_
        exact cx_reti k286_192 rt_286 h
    · rw [if_neg hb2] at h
      refine sx_icmp_ne (tgt := 190) k286_180 (by decide) (fun _ => ?_) (fun q => absurd q hb2)
      refine sx_bipush (v := -2) k286_190 (by decide) ?_
      exact cx_reti k286_192 rt_286 h
  · rw [if_neg hb1] at h
    refine sx_icmp_ne (tgt := 193) k286_171 (by decide) (fun _ => ?_) (fun q => absurd q hb1)
    refine sx_pick (lo2 := [(0, .ref 129), (1, .int v1), (2, .int v2)]) [0, 1, 2] rfl ?_
    exact c286_193_ok v1 v2 _ _ h
def c286_147 (v1 : Int32) (v2 : Int32) (μ : Mem) : Option (Mem × Int32) :=
  if v1 = (5 : Int32) then
    if (μ.1 129 28) = (6 : Int32) then
      if (μ.1 129 37) = 0 then
        some (μ, (-2 : Int32))
      else
        c286_168 v1 v2 μ
    else
      some (μ, (-2 : Int32))
  else
    c286_168 v1 v2 μ
theorem c286_147_ok {L : Nat} (v1 : Int32) (v2 : Int32) (μ : Mem) (res : Mem × Int32) (h : c286_147 v1 v2 μ = some res) : Sx 286 147 [(0, .ref 129), (1, .int v1), (2, .int v2)] [] 0 0 (mk L μ) (mk L res.1, some (.int res.2)) := by
  unfold c286_147 at h
  refine sx_iload_n (i := 1) k286_147 rfl rfl ?_
  refine sx_iconst (v := 5) k286_148 (by decide) ?_
  by_cases hb1 : v1 = (5 : Int32)
  · rw [if_pos hb1] at h
    refine sx_icmp_ne (tgt := 168) k286_149 (by decide) (fun q => absurd hb1 q) (fun _ => ?_)
    refine sx_aload_n (i := 0) k286_152 rfl rfl ?_
    refine cx_getI (k := 28) k286_153 ow_286 fl_12_195 (by decide) sk_129 ft_11_28 ?_
    refine sx_bipush (v := 6) k286_156 (by decide) ?_
    by_cases hb2 : (μ.1 129 28) = (6 : Int32)
    · rw [if_pos hb2] at h
      refine sx_icmp_ne (tgt := 190) k286_158 (by decide) (fun q => absurd hb2 q) (fun _ => ?_)
      refine sx_aload_n (i := 0) k286_161 rfl rfl ?_
      refine cx_getI (k := 37) k286_162 ow_286 fl_12_250 (by decide) sk_129 ft_11_37 ?_
      by_cases hb3 : (μ.1 129 37) = 0
      · rw [if_pos hb3] at h
        refine sx_if_eq (tgt := 190) k286_165 (by decide) (fun _ => ?_) (fun q => absurd hb3 q)
        refine sx_bipush (v := -2) k286_190 (by decide) ?_
        exact cx_reti k286_192 rt_286 h
      · rw [if_neg hb3] at h
        refine sx_if_eq (tgt := 190) k286_165 (by decide) (fun q => absurd q hb3) (fun _ => ?_)
        refine sx_pick (lo2 := [(0, .ref 129), (1, .int v1), (2, .int v2)]) [0, 1, 2] rfl ?_
        exact c286_168_ok v1 v2 _ _ h
    · rw [if_neg hb2] at h
      refine sx_icmp_ne (tgt := 190) k286_158 (by decide) (fun _ => ?_) (fun q => absurd q hb2)
      refine sx_bipush (v := -2) k286_190 (by decide) ?_
      exact cx_reti k286_192 rt_286 h
  · rw [if_neg hb1] at h
    refine sx_icmp_ne (tgt := 168) k286_149 (by decide) (fun _ => ?_) (fun q => absurd q hb1)
    refine sx_pick (lo2 := [(0, .ref 129), (1, .int v1), (2, .int v2)]) [0, 1, 2] rfl ?_
    exact c286_168_ok v1 v2 _ _ h
def c286_126 (v1 : Int32) (v2 : Int32) (s0 : Int32) (μ : Mem) : Option (Mem × Int32) :=
  if s0 = 0 then
    some (μ, (-1 : Int32))
  else
    if (3 : Int32) < v1 then
      c286_147 v1 v2 μ
    else
      if (μ.1 129 28) = (6 : Int32) then
        c286_147 v1 v2 μ
      else
        some (μ, (-2 : Int32))
theorem c286_126_ok {L : Nat} (v1 : Int32) (v2 : Int32) (s0 : Int32) (μ : Mem) (res : Mem × Int32) (h : c286_126 v1 v2 s0 μ = some res) : Sx 286 126 [(0, .ref 129), (1, .int v1), (2, .int v2)] [.int s0] 0 0 (mk L μ) (mk L res.1, some (.int res.2)) := by
  unfold c286_126 at h
  refine cx_istore_n (lo2 := [(3, .int s0), (0, .ref 129), (1, .int v1), (2, .int v2)]) k286_126 rfl (by rw [mx_286]; decide) rfl ?_
  refine sx_iload_n (i := 3) k286_127 rfl rfl ?_
  by_cases hb1 : s0 = 0
  · rw [if_pos hb1] at h
    refine sx_if_ne (tgt := 133) k286_128 (by decide) (fun q => absurd hb1 q) (fun _ => ?_)
    refine sx_iconst (v := -1) k286_131 (by decide) ?_
    exact cx_reti k286_132 rt_286 h
  · rw [if_neg hb1] at h
    refine sx_if_ne (tgt := 133) k286_128 (by decide) (fun _ => ?_) (fun q => absurd q hb1)
    refine sx_iload_n (i := 1) k286_133 rfl rfl ?_
    refine sx_iconst (v := 3) k286_134 (by decide) ?_
    by_cases hb2 : (3 : Int32) < v1
    · rw [if_pos hb2] at h
      refine sx_icmp_gt (tgt := 147) k286_135 (by decide) (fun _ => ?_) (fun q => absurd hb2 q)
      refine sx_pick (lo2 := [(0, .ref 129), (1, .int v1), (2, .int v2)]) [1, 2, 3] rfl ?_
      exact c286_147_ok v1 v2 _ _ h
    · rw [if_neg hb2] at h
      refine sx_icmp_gt (tgt := 147) k286_135 (by decide) (fun q => absurd q hb2) (fun _ => ?_)
      refine sx_aload_n (i := 0) k286_138 rfl rfl ?_
      refine cx_getI (k := 28) k286_139 ow_286 fl_12_195 (by decide) sk_129 ft_11_28 ?_
      refine sx_bipush (v := 6) k286_142 (by decide) ?_
      by_cases hb3 : (μ.1 129 28) = (6 : Int32)
      · rw [if_pos hb3] at h
        refine sx_icmp_ne (tgt := 190) k286_144 (by decide) (fun q => absurd hb3 q) (fun _ => ?_)
        refine sx_pick (lo2 := [(0, .ref 129), (1, .int v1), (2, .int v2)]) [1, 2, 3] rfl ?_
        exact c286_147_ok v1 v2 _ _ h
      · rw [if_neg hb3] at h
        refine sx_icmp_ne (tgt := 190) k286_144 (by decide) (fun _ => ?_) (fun q => absurd q hb3)
        refine sx_bipush (v := -2) k286_190 (by decide) ?_
        exact cx_reti k286_192 rt_286 h
def c286_121 (v1 : Int32) (v2 : Int32) (μ : Mem) : Option (Mem × Int32) :=
  c286_126 v1 v2 (1 : Int32) μ
theorem c286_121_ok {L : Nat} (v1 : Int32) (v2 : Int32) (μ : Mem) (res : Mem × Int32) (h : c286_121 v1 v2 μ = some res) : Sx 286 121 [(0, .ref 129), (1, .int v1), (2, .int v2)] [] 0 0 (mk L μ) (mk L res.1, some (.int res.2)) := by
  unfold c286_121 at h
  refine sx_iconst (v := 1) k286_121 (by decide) ?_
  refine sx_goto (tgt := 126) k286_122 (by decide) ?_
  refine sx_pick (lo2 := [(0, .ref 129), (1, .int v1), (2, .int v2)]) [0, 1, 2] rfl ?_
  exact c286_126_ok v1 v2 (1 : Int32) _ _ h
def c286_125 (v1 : Int32) (v2 : Int32) (μ : Mem) : Option (Mem × Int32) :=
  c286_126 v1 v2 (0 : Int32) μ
theorem c286_125_ok {L : Nat} (v1 : Int32) (v2 : Int32) (μ : Mem) (res : Mem × Int32) (h : c286_125 v1 v2 μ = some res) : Sx 286 125 [(0, .ref 129), (1, .int v1), (2, .int v2)] [] 0 0 (mk L μ) (mk L res.1, some (.int res.2)) := by
  unfold c286_125 at h
  refine sx_iconst (v := 0) k286_125 (by decide) ?_
  refine sx_pick (lo2 := [(0, .ref 129), (1, .int v1), (2, .int v2)]) [0, 1, 2] rfl ?_
  exact c286_126_ok v1 v2 (0 : Int32) _ _ h
def c286_98 (v1 : Int32) (v2 : Int32) (μ : Mem) : Option (Mem × Int32) :=
  if v1 = (11 : Int32) then
    (f285 v2 (2 : Int32) (254 : Int32) μ).bind fun r2 =>
    if r2.2 = 0 then
      c286_125 v1 v2 r2.1
    else
      if (jrem v2 (2 : Int32)) = 0 then
        c286_121 v1 v2 r2.1
      else
        c286_125 v1 v2 r2.1
  else
    c286_121 v1 v2 μ
theorem c286_98_ok {L : Nat} (v1 : Int32) (v2 : Int32) (μ : Mem) (res : Mem × Int32) (h : c286_98 v1 v2 μ = some res) : Sx 286 98 [(0, .ref 129), (1, .int v1), (2, .int v2)] [] 0 0 (mk L μ) (mk L res.1, some (.int res.2)) := by
  unfold c286_98 at h
  refine sx_iload_n (i := 1) k286_98 rfl rfl ?_
  refine sx_bipush (v := 11) k286_99 (by decide) ?_
  by_cases hb1 : v1 = (11 : Int32)
  · rw [if_pos hb1] at h
    refine sx_icmp_ne (tgt := 121) k286_101 (by decide) (fun q => absurd hb1 q) (fun _ => ?_)
    refine sx_iload_n (i := 2) k286_104 rfl rfl ?_
    refine sx_iconst (v := 2) k286_105 (by decide) ?_
    refine sx_sipush (v := 254) k286_106 (by decide) ?_
    obtain ⟨r2, e3, h⟩ := Option.bind_eq_some_iff.mp h
    refine cx_S (sk := []) (vs := [.int v2, .int (2 : Int32), .int (254 : Int32)]) st_286_285 k286_109 ow_286 cl_12_290 (by decide) rfl (Nat.le_of_ble_eq_true rfl) (ok285 v2 (2 : Int32) (254 : Int32) _ _ e3) (sk3 := [.int r2.2]) rfl rfl ?_
    by_cases hb4 : r2.2 = 0
    · rw [if_pos hb4] at h
      refine sx_if_eq (tgt := 125) k286_112 (by decide) (fun _ => ?_) (fun q => absurd hb4 q)
      refine sx_pick (lo2 := [(0, .ref 129), (1, .int v1), (2, .int v2)]) [0, 1, 2] rfl ?_
      exact c286_125_ok v1 v2 _ _ h
    · rw [if_neg hb4] at h
      refine sx_if_eq (tgt := 125) k286_112 (by decide) (fun q => absurd q hb4) (fun _ => ?_)
      refine sx_iload_n (i := 2) k286_115 rfl rfl ?_
      refine sx_iconst (v := 2) k286_116 (by decide) ?_
      refine sx_irem k286_117 (by decide) ?_
      by_cases hb5 : (jrem v2 (2 : Int32)) = 0
      · rw [if_pos hb5] at h
        refine sx_if_ne (tgt := 125) k286_118 (by decide) (fun q => absurd hb5 q) (fun _ => ?_)
        refine sx_pick (lo2 := [(0, .ref 129), (1, .int v1), (2, .int v2)]) [0, 1, 2] rfl ?_
        exact c286_121_ok v1 v2 _ _ h
      · rw [if_neg hb5] at h
        refine sx_if_ne (tgt := 125) k286_118 (by decide) (fun _ => ?_) (fun q => absurd q hb5)
        refine sx_pick (lo2 := [(0, .ref 129), (1, .int v1), (2, .int v2)]) [0, 1, 2] rfl ?_
        exact c286_125_ok v1 v2 _ _ h
  · rw [if_neg hb1] at h
    refine sx_icmp_ne (tgt := 121) k286_101 (by decide) (fun _ => ?_) (fun q => absurd q hb1)
    refine sx_pick (lo2 := [(0, .ref 129), (1, .int v1), (2, .int v2)]) [0, 1, 2] rfl ?_
    exact c286_121_ok v1 v2 _ _ h
def c286_83 (v1 : Int32) (v2 : Int32) (μ : Mem) : Option (Mem × Int32) :=
  if v1 = (10 : Int32) then
    (f285 v2 (0 : Int32) (1 : Int32) μ).bind fun r2 =>
    if r2.2 = 0 then
      c286_125 v1 v2 r2.1
    else
      c286_98 v1 v2 r2.1
  else
    c286_98 v1 v2 μ
theorem c286_83_ok {L : Nat} (v1 : Int32) (v2 : Int32) (μ : Mem) (res : Mem × Int32) (h : c286_83 v1 v2 μ = some res) : Sx 286 83 [(0, .ref 129), (1, .int v1), (2, .int v2)] [] 0 0 (mk L μ) (mk L res.1, some (.int res.2)) := by
  unfold c286_83 at h
  refine sx_iload_n (i := 1) k286_83 rfl rfl ?_
  refine sx_bipush (v := 10) k286_84 (by decide) ?_
  by_cases hb1 : v1 = (10 : Int32)
  · rw [if_pos hb1] at h
    refine sx_icmp_ne (tgt := 98) k286_86 (by decide) (fun q => absurd hb1 q) (fun _ => ?_)
    refine sx_iload_n (i := 2) k286_89 rfl rfl ?_
    refine sx_iconst (v := 0) k286_90 (by decide) ?_
    refine sx_iconst (v := 1) k286_91 (by decide) ?_
    obtain ⟨r2, e3, h⟩ := Option.bind_eq_some_iff.mp h
    refine cx_S (sk := []) (vs := [.int v2, .int (0 : Int32), .int (1 : Int32)]) st_286_285 k286_92 ow_286 cl_12_290 (by decide) rfl (Nat.le_of_ble_eq_true rfl) (ok285 v2 (0 : Int32) (1 : Int32) _ _ e3) (sk3 := [.int r2.2]) rfl rfl ?_
    by_cases hb4 : r2.2 = 0
    · rw [if_pos hb4] at h
      refine sx_if_eq (tgt := 125) k286_95 (by decide) (fun _ => ?_) (fun q => absurd hb4 q)
      refine sx_pick (lo2 := [(0, .ref 129), (1, .int v1), (2, .int v2)]) [0, 1, 2] rfl ?_
      exact c286_125_ok v1 v2 _ _ h
    · rw [if_neg hb4] at h
      refine sx_if_eq (tgt := 125) k286_95 (by decide) (fun q => absurd q hb4) (fun _ => ?_)
      refine sx_pick (lo2 := [(0, .ref 129), (1, .int v1), (2, .int v2)]) [0, 1, 2] rfl ?_
      exact c286_98_ok v1 v2 _ _ h
  · rw [if_neg hb1] at h
    refine sx_icmp_ne (tgt := 98) k286_86 (by decide) (fun _ => ?_) (fun q => absurd q hb1)
    refine sx_pick (lo2 := [(0, .ref 129), (1, .int v1), (2, .int v2)]) [0, 1, 2] rfl ?_
    exact c286_98_ok v1 v2 _ _ h
def c286_67 (v1 : Int32) (v2 : Int32) (μ : Mem) : Option (Mem × Int32) :=
  if v1 = (9 : Int32) then
    (f285 v2 (1 : Int32) (15 : Int32) μ).bind fun r2 =>
    if r2.2 = 0 then
      c286_125 v1 v2 r2.1
    else
      c286_83 v1 v2 r2.1
  else
    c286_83 v1 v2 μ
theorem c286_67_ok {L : Nat} (v1 : Int32) (v2 : Int32) (μ : Mem) (res : Mem × Int32) (h : c286_67 v1 v2 μ = some res) : Sx 286 67 [(0, .ref 129), (1, .int v1), (2, .int v2)] [] 0 0 (mk L μ) (mk L res.1, some (.int res.2)) := by
  unfold c286_67 at h
  refine sx_iload_n (i := 1) k286_67 rfl rfl ?_
  refine sx_bipush (v := 9) k286_68 (by decide) ?_
  by_cases hb1 : v1 = (9 : Int32)
  · rw [if_pos hb1] at h
    refine sx_icmp_ne (tgt := 83) k286_70 (by decide) (fun q => absurd hb1 q) (fun _ => ?_)
    refine sx_iload_n (i := 2) k286_73 rfl rfl ?_
    refine sx_iconst (v := 1) k286_74 (by decide) ?_
    refine sx_bipush (v := 15) k286_75 (by decide) ?_
    obtain ⟨r2, e3, h⟩ := Option.bind_eq_some_iff.mp h
    refine cx_S (sk := []) (vs := [.int v2, .int (1 : Int32), .int (15 : Int32)]) st_286_285 k286_77 ow_286 cl_12_290 (by decide) rfl (Nat.le_of_ble_eq_true rfl) (ok285 v2 (1 : Int32) (15 : Int32) _ _ e3) (sk3 := [.int r2.2]) rfl rfl ?_
    by_cases hb4 : r2.2 = 0
    · rw [if_pos hb4] at h
      refine sx_if_eq (tgt := 125) k286_80 (by decide) (fun _ => ?_) (fun q => absurd hb4 q)
      refine sx_pick (lo2 := [(0, .ref 129), (1, .int v1), (2, .int v2)]) [0, 1, 2] rfl ?_
      exact c286_125_ok v1 v2 _ _ h
    · rw [if_neg hb4] at h
      refine sx_if_eq (tgt := 125) k286_80 (by decide) (fun q => absurd q hb4) (fun _ => ?_)
      refine sx_pick (lo2 := [(0, .ref 129), (1, .int v1), (2, .int v2)]) [0, 1, 2] rfl ?_
      exact c286_83_ok v1 v2 _ _ h
  · rw [if_neg hb1] at h
    refine sx_icmp_ne (tgt := 83) k286_70 (by decide) (fun _ => ?_) (fun q => absurd q hb1)
    refine sx_pick (lo2 := [(0, .ref 129), (1, .int v1), (2, .int v2)]) [0, 1, 2] rfl ?_
    exact c286_83_ok v1 v2 _ _ h
def c286_50 (v1 : Int32) (v2 : Int32) (μ : Mem) : Option (Mem × Int32) :=
  if v1 = (8 : Int32) then
    (f285 v2 (1 : Int32) (1000 : Int32) μ).bind fun r2 =>
    if r2.2 = 0 then
      c286_125 v1 v2 r2.1
    else
      c286_67 v1 v2 r2.1
  else
    c286_67 v1 v2 μ
theorem c286_50_ok {L : Nat} (v1 : Int32) (v2 : Int32) (μ : Mem) (res : Mem × Int32) (h : c286_50 v1 v2 μ = some res) : Sx 286 50 [(0, .ref 129), (1, .int v1), (2, .int v2)] [] 0 0 (mk L μ) (mk L res.1, some (.int res.2)) := by
  unfold c286_50 at h
  refine sx_iload_n (i := 1) k286_50 rfl rfl ?_
  refine sx_bipush (v := 8) k286_51 (by decide) ?_
  by_cases hb1 : v1 = (8 : Int32)
  · rw [if_pos hb1] at h
    refine sx_icmp_ne (tgt := 67) k286_53 (by decide) (fun q => absurd hb1 q) (fun _ => ?_)
    refine sx_iload_n (i := 2) k286_56 rfl rfl ?_
    refine sx_iconst (v := 1) k286_57 (by decide) ?_
    refine sx_sipush (v := 1000) k286_58 (by decide) ?_
    obtain ⟨r2, e3, h⟩ := Option.bind_eq_some_iff.mp h
    refine cx_S (sk := []) (vs := [.int v2, .int (1 : Int32), .int (1000 : Int32)]) st_286_285 k286_61 ow_286 cl_12_290 (by decide) rfl (Nat.le_of_ble_eq_true rfl) (ok285 v2 (1 : Int32) (1000 : Int32) _ _ e3) (sk3 := [.int r2.2]) rfl rfl ?_
    by_cases hb4 : r2.2 = 0
    · rw [if_pos hb4] at h
      refine sx_if_eq (tgt := 125) k286_64 (by decide) (fun _ => ?_) (fun q => absurd hb4 q)
      refine sx_pick (lo2 := [(0, .ref 129), (1, .int v1), (2, .int v2)]) [0, 1, 2] rfl ?_
      exact c286_125_ok v1 v2 _ _ h
    · rw [if_neg hb4] at h
      refine sx_if_eq (tgt := 125) k286_64 (by decide) (fun q => absurd q hb4) (fun _ => ?_)
      refine sx_pick (lo2 := [(0, .ref 129), (1, .int v1), (2, .int v2)]) [0, 1, 2] rfl ?_
      exact c286_67_ok v1 v2 _ _ h
  · rw [if_neg hb1] at h
    refine sx_icmp_ne (tgt := 67) k286_53 (by decide) (fun _ => ?_) (fun q => absurd q hb1)
    refine sx_pick (lo2 := [(0, .ref 129), (1, .int v1), (2, .int v2)]) [0, 1, 2] rfl ?_
    exact c286_67_ok v1 v2 _ _ h
def c286_34 (v1 : Int32) (v2 : Int32) (μ : Mem) : Option (Mem × Int32) :=
  if v1 = (7 : Int32) then
    (f285 v2 (1 : Int32) (32 : Int32) μ).bind fun r2 =>
    if r2.2 = 0 then
      c286_125 v1 v2 r2.1
    else
      c286_50 v1 v2 r2.1
  else
    c286_50 v1 v2 μ
theorem c286_34_ok {L : Nat} (v1 : Int32) (v2 : Int32) (μ : Mem) (res : Mem × Int32) (h : c286_34 v1 v2 μ = some res) : Sx 286 34 [(0, .ref 129), (1, .int v1), (2, .int v2)] [] 0 0 (mk L μ) (mk L res.1, some (.int res.2)) := by
  unfold c286_34 at h
  refine sx_iload_n (i := 1) k286_34 rfl rfl ?_
  refine sx_bipush (v := 7) k286_35 (by decide) ?_
  by_cases hb1 : v1 = (7 : Int32)
  · rw [if_pos hb1] at h
    refine sx_icmp_ne (tgt := 50) k286_37 (by decide) (fun q => absurd hb1 q) (fun _ => ?_)
    refine sx_iload_n (i := 2) k286_40 rfl rfl ?_
    refine sx_iconst (v := 1) k286_41 (by decide) ?_
    refine sx_bipush (v := 32) k286_42 (by decide) ?_
    obtain ⟨r2, e3, h⟩ := Option.bind_eq_some_iff.mp h
    refine cx_S (sk := []) (vs := [.int v2, .int (1 : Int32), .int (32 : Int32)]) st_286_285 k286_44 ow_286 cl_12_290 (by decide) rfl (Nat.le_of_ble_eq_true rfl) (ok285 v2 (1 : Int32) (32 : Int32) _ _ e3) (sk3 := [.int r2.2]) rfl rfl ?_
    by_cases hb4 : r2.2 = 0
    · rw [if_pos hb4] at h
      refine sx_if_eq (tgt := 125) k286_47 (by decide) (fun _ => ?_) (fun q => absurd hb4 q)
      refine sx_pick (lo2 := [(0, .ref 129), (1, .int v1), (2, .int v2)]) [0, 1, 2] rfl ?_
      exact c286_125_ok v1 v2 _ _ h
    · rw [if_neg hb4] at h
      refine sx_if_eq (tgt := 125) k286_47 (by decide) (fun q => absurd q hb4) (fun _ => ?_)
      refine sx_pick (lo2 := [(0, .ref 129), (1, .int v1), (2, .int v2)]) [0, 1, 2] rfl ?_
      exact c286_50_ok v1 v2 _ _ h
  · rw [if_neg hb1] at h
    refine sx_icmp_ne (tgt := 50) k286_37 (by decide) (fun _ => ?_) (fun q => absurd q hb1)
    refine sx_pick (lo2 := [(0, .ref 129), (1, .int v1), (2, .int v2)]) [0, 1, 2] rfl ?_
    exact c286_50_ok v1 v2 _ _ h
def c286_23 (v1 : Int32) (v2 : Int32) (μ : Mem) : Option (Mem × Int32) :=
  (f285 v2 (0 : Int32) (255 : Int32) μ).bind fun r1 =>
  if r1.2 = 0 then
    c286_125 v1 v2 r1.1
  else
    c286_34 v1 v2 r1.1
theorem c286_23_ok {L : Nat} (v1 : Int32) (v2 : Int32) (μ : Mem) (res : Mem × Int32) (h : c286_23 v1 v2 μ = some res) : Sx 286 23 [(0, .ref 129), (1, .int v1), (2, .int v2)] [] 0 0 (mk L μ) (mk L res.1, some (.int res.2)) := by
  unfold c286_23 at h
  refine sx_iload_n (i := 2) k286_23 rfl rfl ?_
  refine sx_iconst (v := 0) k286_24 (by decide) ?_
  refine sx_sipush (v := 255) k286_25 (by decide) ?_
  obtain ⟨r1, e2, h⟩ := Option.bind_eq_some_iff.mp h
  refine cx_S (sk := []) (vs := [.int v2, .int (0 : Int32), .int (255 : Int32)]) st_286_285 k286_28 ow_286 cl_12_290 (by decide) rfl (Nat.le_of_ble_eq_true rfl) (ok285 v2 (0 : Int32) (255 : Int32) _ _ e2) (sk3 := [.int r1.2]) rfl rfl ?_
  by_cases hb3 : r1.2 = 0
  · rw [if_pos hb3] at h
    refine sx_if_eq (tgt := 125) k286_31 (by decide) (fun _ => ?_) (fun q => absurd hb3 q)
    refine sx_pick (lo2 := [(0, .ref 129), (1, .int v1), (2, .int v2)]) [0, 1, 2] rfl ?_
    exact c286_125_ok v1 v2 _ _ h
  · rw [if_neg hb3] at h
    refine sx_if_eq (tgt := 125) k286_31 (by decide) (fun q => absurd q hb3) (fun _ => ?_)
    refine sx_pick (lo2 := [(0, .ref 129), (1, .int v1), (2, .int v2)]) [0, 1, 2] rfl ?_
    exact c286_34_ok v1 v2 _ _ h
/-- CraftHouseModel.direct(II)I -/
def f286 (p1 : Int32) (p2 : Int32) (μ : Mem) : Option (Mem × Int32) :=
  (f285 p1 (0 : Int32) (11 : Int32) μ).bind fun r1 =>
  if r1.2 = 0 then
    c286_125 p1 p2 r1.1
  else
    if p1 = (3 : Int32) then
      c286_23 p1 p2 r1.1
    else
      if p1 = (6 : Int32) then
        c286_23 p1 p2 r1.1
      else
        c286_34 p1 p2 r1.1
theorem ok286 {L : Nat} (p1 : Int32) (p2 : Int32) (μ : Mem) (res : Mem × Int32) (h : f286 p1 p2 μ = some res) : Mx 286 [.ref 129, .int p1, .int p2] (mk L μ) (mk L res.1, some (.int res.2)) := by
  refine Mx_of ml_286 (by rw [mx_286]; exact Nat.le_of_ble_eq_true rfl) ?_
  show Sx 286 0 [(0, .ref 129), (1, .int p1), (2, .int p2)] [] 0 0 (mk L μ) _
  unfold f286 at h
  refine sx_iload_n (i := 1) k286_0 rfl rfl ?_
  refine sx_iconst (v := 0) k286_1 (by decide) ?_
  refine sx_bipush (v := 11) k286_2 (by decide) ?_
  obtain ⟨r1, e2, h⟩ := Option.bind_eq_some_iff.mp h
  refine cx_S (sk := []) (vs := [.int p1, .int (0 : Int32), .int (11 : Int32)]) st_286_285 k286_4 ow_286 cl_12_290 (by decide) rfl (Nat.le_of_ble_eq_true rfl) (ok285 p1 (0 : Int32) (11 : Int32) _ _ e2) (sk3 := [.int r1.2]) rfl rfl ?_
  refine cx_istore_n (lo2 := [(3, .int r1.2), (0, .ref 129), (1, .int p1), (2, .int p2)]) k286_7 rfl (by rw [mx_286]; decide) rfl ?_
  refine sx_iload_n (i := 3) k286_8 rfl rfl ?_
  by_cases hb3 : r1.2 = 0
  · rw [if_pos hb3] at h
    refine sx_if_eq (tgt := 125) k286_9 (by decide) (fun _ => ?_) (fun q => absurd hb3 q)
    refine sx_pick (lo2 := [(0, .ref 129), (1, .int p1), (2, .int p2)]) [1, 2, 3] rfl ?_
    exact c286_125_ok p1 p2 _ _ h
  · rw [if_neg hb3] at h
    refine sx_if_eq (tgt := 125) k286_9 (by decide) (fun q => absurd q hb3) (fun _ => ?_)
    refine sx_iload_n (i := 1) k286_12 rfl rfl ?_
    refine sx_iconst (v := 3) k286_13 (by decide) ?_
    by_cases hb4 : p1 = (3 : Int32)
    · rw [if_pos hb4] at h
      refine sx_icmp_eq (tgt := 23) k286_14 (by decide) (fun _ => ?_) (fun q => absurd hb4 q)
      refine sx_pick (lo2 := [(0, .ref 129), (1, .int p1), (2, .int p2)]) [1, 2, 3] rfl ?_
      exact c286_23_ok p1 p2 _ _ h
    · rw [if_neg hb4] at h
      refine sx_icmp_eq (tgt := 23) k286_14 (by decide) (fun q => absurd q hb4) (fun _ => ?_)
      refine sx_iload_n (i := 1) k286_17 rfl rfl ?_
      refine sx_bipush (v := 6) k286_18 (by decide) ?_
      by_cases hb5 : p1 = (6 : Int32)
      · rw [if_pos hb5] at h
        refine sx_icmp_ne (tgt := 34) k286_20 (by decide) (fun q => absurd hb5 q) (fun _ => ?_)
        refine sx_pick (lo2 := [(0, .ref 129), (1, .int p1), (2, .int p2)]) [1, 2, 3] rfl ?_
        exact c286_23_ok p1 p2 _ _ h
      · rw [if_neg hb5] at h
        refine sx_icmp_ne (tgt := 34) k286_20 (by decide) (fun _ => ?_) (fun q => absurd q hb5)
        refine sx_pick (lo2 := [(0, .ref 129), (1, .int p1), (2, .int p2)]) [1, 2, 3] rfl ?_
        exact c286_34_ok p1 p2 _ _ h
theorem k287_0 : decode (gb 287) 0 = .ok (.iconst 0, 1) := by decide +kernel
theorem k287_1 : decode (gb 287) 1 = .ok (.istore_n 2, 1) := by decide +kernel
theorem k287_2 : decode (gb 287) 2 = .ok (.iconst 0, 1) := by decide +kernel
theorem k287_3 : decode (gb 287) 3 = .ok (.istore_n 3, 1) := by decide +kernel
theorem k287_4 : decode (gb 287) 4 = .ok (.iload_n 3, 1) := by decide +kernel
theorem k287_5 : decode (gb 287) 5 = .ok (.aload_n 0, 1) := by decide +kernel
theorem k287_6 : decode (gb 287) 6 = .ok (.getfield 198, 3) := by decide +kernel
theorem k287_9 : decode (gb 287) 9 = .ok (.if_icmp .ge 26, 3) := by decide +kernel
theorem k287_12 : decode (gb 287) 12 = .ok (.iload_n 2, 1) := by decide +kernel
theorem k287_13 : decode (gb 287) 13 = .ok (.aload_n 0, 1) := by decide +kernel
theorem k287_14 : decode (gb 287) 14 = .ok (.getfield 201, 3) := by decide +kernel
theorem k287_17 : decode (gb 287) 17 = .ok (.iload_n 3, 1) := by decide +kernel
theorem k287_18 : decode (gb 287) 18 = .ok (.baload, 1) := by decide +kernel
theorem k287_19 : decode (gb 287) 19 = .ok (.ifCond .eq 7, 3) := by decide +kernel
theorem k287_22 : decode (gb 287) 22 = .ok (.iconst 1, 1) := by decide +kernel
theorem k287_23 : decode (gb 287) 23 = .ok (.goto 4, 3) := by decide +kernel
theorem k287_26 : decode (gb 287) 26 = .ok (.iconst 0, 1) := by decide +kernel
theorem k287_27 : decode (gb 287) 27 = .ok (.iadd, 1) := by decide +kernel
theorem k287_28 : decode (gb 287) 28 = .ok (.istore_n 2, 1) := by decide +kernel
theorem k287_29 : decode (gb 287) 29 = .ok (.iinc 3 1, 3) := by decide +kernel
theorem k287_32 : decode (gb 287) 32 = .ok (.goto (-28), 3) := by decide +kernel
theorem k287_35 : decode (gb 287) 35 = .ok (.iload_n 1, 1) := by decide +kernel
theorem k287_36 : decode (gb 287) 36 = .ok (.tableswitch 139 0 13 #[72, 77, 82, 87, 92, 97, 102, 107, 112, 117, 119, 124, 129, 134], 72) := by decide +kernel
theorem k287_108 : decode (gb 287) 108 = .ok (.aload_n 0, 1) := by decide +kernel
theorem k287_109 : decode (gb 287) 109 = .ok (.getfield 195, 3) := by decide +kernel
theorem k287_112 : decode (gb 287) 112 = .ok (.ireturn, 1) := by decide +kernel
theorem k287_113 : decode (gb 287) 113 = .ok (.aload_n 0, 1) := by decide +kernel
theorem k287_114 : decode (gb 287) 114 = .ok (.getfield 235, 3) := by decide +kernel
theorem k287_117 : decode (gb 287) 117 = .ok (.ireturn, 1) := by decide +kernel
theorem k287_118 : decode (gb 287) 118 = .ok (.aload_n 0, 1) := by decide +kernel
theorem k287_119 : decode (gb 287) 119 = .ok (.getfield 204, 3) := by decide +kernel
theorem k287_122 : decode (gb 287) 122 = .ok (.ireturn, 1) := by decide +kernel
theorem k287_123 : decode (gb 287) 123 = .ok (.aload_n 0, 1) := by decide +kernel
theorem k287_124 : decode (gb 287) 124 = .ok (.getfield 232, 3) := by decide +kernel
theorem k287_127 : decode (gb 287) 127 = .ok (.ireturn, 1) := by decide +kernel
theorem k287_128 : decode (gb 287) 128 = .ok (.aload_n 0, 1) := by decide +kernel
theorem k287_129 : decode (gb 287) 129 = .ok (.getfield 192, 3) := by decide +kernel
theorem k287_132 : decode (gb 287) 132 = .ok (.ireturn, 1) := by decide +kernel
theorem k287_133 : decode (gb 287) 133 = .ok (.aload_n 0, 1) := by decide +kernel
theorem k287_134 : decode (gb 287) 134 = .ok (.getfield 250, 3) := by decide +kernel
theorem k287_137 : decode (gb 287) 137 = .ok (.ireturn, 1) := by decide +kernel
theorem k287_138 : decode (gb 287) 138 = .ok (.aload_n 0, 1) := by decide +kernel
theorem k287_139 : decode (gb 287) 139 = .ok (.getfield 253, 3) := by decide +kernel
theorem k287_142 : decode (gb 287) 142 = .ok (.ireturn, 1) := by decide +kernel
theorem k287_143 : decode (gb 287) 143 = .ok (.aload_n 0, 1) := by decide +kernel
theorem k287_144 : decode (gb 287) 144 = .ok (.getfield 198, 3) := by decide +kernel
theorem k287_147 : decode (gb 287) 147 = .ok (.ireturn, 1) := by decide +kernel
theorem k287_148 : decode (gb 287) 148 = .ok (.aload_n 0, 1) := by decide +kernel
theorem k287_149 : decode (gb 287) 149 = .ok (.getfield 213, 3) := by decide +kernel
theorem k287_152 : decode (gb 287) 152 = .ok (.ireturn, 1) := by decide +kernel
theorem k287_153 : decode (gb 287) 153 = .ok (.iload_n 2, 1) := by decide +kernel
theorem k287_154 : decode (gb 287) 154 = .ok (.ireturn, 1) := by decide +kernel
theorem k287_155 : decode (gb 287) 155 = .ok (.aload_n 0, 1) := by decide +kernel
theorem k287_156 : decode (gb 287) 156 = .ok (.getfield 275, 3) := by decide +kernel
theorem k287_159 : decode (gb 287) 159 = .ok (.ireturn, 1) := by decide +kernel
theorem k287_160 : decode (gb 287) 160 = .ok (.aload_n 0, 1) := by decide +kernel
theorem k287_161 : decode (gb 287) 161 = .ok (.getfield 216, 3) := by decide +kernel
theorem k287_164 : decode (gb 287) 164 = .ok (.ireturn, 1) := by decide +kernel
theorem k287_165 : decode (gb 287) 165 = .ok (.aload_n 0, 1) := by decide +kernel
theorem k287_166 : decode (gb 287) 166 = .ok (.getfield 189, 3) := by decide +kernel
theorem k287_169 : decode (gb 287) 169 = .ok (.ireturn, 1) := by decide +kernel
theorem k287_170 : decode (gb 287) 170 = .ok (.aload_n 0, 1) := by decide +kernel
theorem k287_171 : decode (gb 287) 171 = .ok (.getfield 281, 3) := by decide +kernel
theorem k287_174 : decode (gb 287) 174 = .ok (.ireturn, 1) := by decide +kernel
theorem k287_175 : decode (gb 287) 175 = .ok (.iconst (-1), 1) := by decide +kernel
theorem k287_176 : decode (gb 287) 176 = .ok (.ireturn, 1) := by decide +kernel
def c287_27 (kl4 : Int32 → Int32 → Int32 → Mem → Option (Mem × Int32)) (v1 : Int32) (v3 : Int32) (s0 : Int32) (s1 : Int32) (μ : Mem) : Option (Mem × Int32) :=
  nm (s0 + s1) fun x1 =>
  nm (v3 + (1 : Int32)) fun x2 =>
  kl4 v1 x1 x2 μ
theorem c287_27_ok {L : Nat} (kl4 : Int32 → Int32 → Int32 → Mem → Option (Mem × Int32)) (hk4 : (∀ (v1 : Int32) (v2 : Int32) (v3 : Int32) (μ : Mem) (res : Mem × Int32), kl4 v1 v2 v3 μ = some res → Sx 287 4 [(0, .ref 129), (1, .int v1), (2, .int v2), (3, .int v3)] [] 0 0 (mk L μ) (mk L res.1, some (.int res.2)))) (v1 : Int32) (v3 : Int32) (s0 : Int32) (s1 : Int32) (μ : Mem) (res : Mem × Int32) (h : c287_27 kl4 v1 v3 s0 s1 μ = some res) : Sx 287 27 [(0, .ref 129), (1, .int v1), (3, .int v3)] [.int s1, .int s0] 0 0 (mk L μ) (mk L res.1, some (.int res.2)) := by
  unfold c287_27 at h
  refine sx_iadd k287_27 ?_
  refine cx_nm h (fun x1 h => ?_)
  refine cx_istore_n (lo2 := [(2, .int x1), (0, .ref 129), (1, .int v1), (3, .int v3)]) k287_28 rfl (by rw [mx_287]; decide) rfl ?_
  refine cx_iinc (c := 1) (lo2 := fun x2 => [(3, .int x2), (2, .int x1), (0, .ref 129), (1, .int v1)]) k287_29 rfl (by decide) (by rw [mx_287]; decide) (fun _ => rfl) h (fun x2 h => ?_)
  refine sx_goto (tgt := 4) k287_32 (by decide) ?_
  refine sx_pick (lo2 := [(0, .ref 129), (1, .int v1), (2, .int x1), (3, .int x2)]) [2, 3, 1, 0] rfl ?_
  exact hk4 v1 x1 x2 _ _ h
def b287_4 (kl4 : Int32 → Int32 → Int32 → Mem → Option (Mem × Int32)) (v1 : Int32) (v2 : Int32) (v3 : Int32) (μ : Mem) : Option (Mem × Int32) :=
  if (μ.1 129 41) ≤ v3 then
    if v1 = (0 : Int32) then
      some (μ, (μ.1 129 28))
    else if v1 = (1 : Int32) then
      some (μ, (μ.1 129 29))
    else if v1 = (2 : Int32) then
      some (μ, (μ.1 129 30))
    else if v1 = (3 : Int32) then
      some (μ, (μ.1 129 31))
    else if v1 = (4 : Int32) then
      some (μ, (μ.1 129 34))
    else if v1 = (5 : Int32) then
      some (μ, (μ.1 129 37))
    else if v1 = (6 : Int32) then
      some (μ, (μ.1 129 38))
    else if v1 = (7 : Int32) then
      some (μ, (μ.1 129 41))
    else if v1 = (8 : Int32) then
      some (μ, (μ.1 129 43))
    else if v1 = (9 : Int32) then
      some (μ, v2)
    else if v1 = (10 : Int32) then
      some (μ, (μ.1 129 32))
    else if v1 = (11 : Int32) then
      some (μ, (μ.1 129 33))
    else if v1 = (12 : Int32) then
      some (μ, (μ.1 129 35))
    else if v1 = (13 : Int32) then
      some (μ, (μ.1 129 36))
    else 
      some (μ, (-1 : Int32))
  else
    (ldA 142 v3 μ).bind fun x16 =>
    if x16 = 0 then
      c287_27 kl4 v1 v3 v2 (0 : Int32) μ
    else
      c287_27 kl4 v1 v3 v2 (1 : Int32) μ
theorem b287_4_ok {L : Nat} (kl4 : Int32 → Int32 → Int32 → Mem → Option (Mem × Int32)) (hk4 : (∀ (v1 : Int32) (v2 : Int32) (v3 : Int32) (μ : Mem) (res : Mem × Int32), kl4 v1 v2 v3 μ = some res → Sx 287 4 [(0, .ref 129), (1, .int v1), (2, .int v2), (3, .int v3)] [] 0 0 (mk L μ) (mk L res.1, some (.int res.2)))) (v1 : Int32) (v2 : Int32) (v3 : Int32) (μ : Mem) (res : Mem × Int32) (h : b287_4 kl4 v1 v2 v3 μ = some res) : Sx 287 4 [(0, .ref 129), (1, .int v1), (2, .int v2), (3, .int v3)] [] 0 0 (mk L μ) (mk L res.1, some (.int res.2)) := by
  unfold b287_4 at h
  refine sx_iload_n (i := 3) k287_4 rfl rfl ?_
  refine sx_aload_n (i := 0) k287_5 rfl rfl ?_
  refine cx_getI (k := 41) k287_6 ow_287 fl_12_198 (by decide) sk_129 ft_11_41 ?_
  by_cases hb1 : (μ.1 129 41) ≤ v3
  · rw [if_pos hb1] at h
    refine sx_icmp_ge (tgt := 35) k287_9 (by decide) (fun _ => ?_) (fun q => absurd hb1 q)
    refine sx_iload_n (i := 1) k287_35 rfl rfl ?_
    by_cases hb2 : v1 = (0 : Int32)
    · rw [if_pos hb2] at h
      refine sx_tableIn (off := 72) (tgt := 108) k287_36 (by rw [hb2]; decide) (by rw [hb2]; decide) (by rw [hb2]; rfl) (by decide) ?_
      refine sx_aload_n (i := 0) k287_108 rfl rfl ?_
      refine cx_getI (k := 28) k287_109 ow_287 fl_12_195 (by decide) sk_129 ft_11_28 ?_
      exact cx_reti k287_112 rt_287 h
    · rw [if_neg hb2] at h
      by_cases hb3 : v1 = (1 : Int32)
      · rw [if_pos hb3] at h
        refine sx_tableIn (off := 77) (tgt := 113) k287_36 (by rw [hb3]; decide) (by rw [hb3]; decide) (by rw [hb3]; rfl) (by decide) ?_
        refine sx_aload_n (i := 0) k287_113 rfl rfl ?_
        refine cx_getI (k := 29) k287_114 ow_287 fl_12_235 (by decide) sk_129 ft_11_29 ?_
        exact cx_reti k287_117 rt_287 h
      · rw [if_neg hb3] at h
        by_cases hb4 : v1 = (2 : Int32)
        · rw [if_pos hb4] at h
          refine sx_tableIn (off := 82) (tgt := 118) k287_36 (by rw [hb4]; decide) (by rw [hb4]; decide) (by rw [hb4]; rfl) (by decide) ?_
          refine sx_aload_n (i := 0) k287_118 rfl rfl ?_
          refine cx_getI (k := 30) k287_119 ow_287 fl_12_204 (by decide) sk_129 ft_11_30 ?_
          exact cx_reti k287_122 rt_287 h
        · rw [if_neg hb4] at h
          by_cases hb5 : v1 = (3 : Int32)
          · rw [if_pos hb5] at h
            refine sx_tableIn (off := 87) (tgt := 123) k287_36 (by rw [hb5]; decide) (by rw [hb5]; decide) (by rw [hb5]; rfl) (by decide) ?_
            refine sx_aload_n (i := 0) k287_123 rfl rfl ?_
            refine cx_getI (k := 31) k287_124 ow_287 fl_12_232 (by decide) sk_129 ft_11_31 ?_
            exact cx_reti k287_127 rt_287 h
          · rw [if_neg hb5] at h
            by_cases hb6 : v1 = (4 : Int32)
            · rw [if_pos hb6] at h
              refine sx_tableIn (off := 92) (tgt := 128) k287_36 (by rw [hb6]; decide) (by rw [hb6]; decide) (by rw [hb6]; rfl) (by decide) ?_
              refine sx_aload_n (i := 0) k287_128 rfl rfl ?_
              refine cx_getI (k := 34) k287_129 ow_287 fl_12_192 (by decide) sk_129 ft_11_34 ?_
              exact cx_reti k287_132 rt_287 h
            · rw [if_neg hb6] at h
              by_cases hb7 : v1 = (5 : Int32)
              · rw [if_pos hb7] at h
                refine sx_tableIn (off := 97) (tgt := 133) k287_36 (by rw [hb7]; decide) (by rw [hb7]; decide) (by rw [hb7]; rfl) (by decide) ?_
                refine sx_aload_n (i := 0) k287_133 rfl rfl ?_
                refine cx_getI (k := 37) k287_134 ow_287 fl_12_250 (by decide) sk_129 ft_11_37 ?_
                exact cx_reti k287_137 rt_287 h
              · rw [if_neg hb7] at h
                by_cases hb8 : v1 = (6 : Int32)
                · rw [if_pos hb8] at h
                  refine sx_tableIn (off := 102) (tgt := 138) k287_36 (by rw [hb8]; decide) (by rw [hb8]; decide) (by rw [hb8]; rfl) (by decide) ?_
                  refine sx_aload_n (i := 0) k287_138 rfl rfl ?_
                  refine cx_getI (k := 38) k287_139 ow_287 fl_12_253 (by decide) sk_129 ft_11_38 ?_
                  exact cx_reti k287_142 rt_287 h
                · rw [if_neg hb8] at h
                  by_cases hb9 : v1 = (7 : Int32)
                  · rw [if_pos hb9] at h
                    refine sx_tableIn (off := 107) (tgt := 143) k287_36 (by rw [hb9]; decide) (by rw [hb9]; decide) (by rw [hb9]; rfl) (by decide) ?_
                    refine sx_aload_n (i := 0) k287_143 rfl rfl ?_
                    refine cx_getI (k := 41) k287_144 ow_287 fl_12_198 (by decide) sk_129 ft_11_41 ?_
                    exact cx_reti k287_147 rt_287 h
                  · rw [if_neg hb9] at h
                    by_cases hb10 : v1 = (8 : Int32)
                    · rw [if_pos hb10] at h
                      refine sx_tableIn (off := 112) (tgt := 148) k287_36 (by rw [hb10]; decide) (by rw [hb10]; decide) (by rw [hb10]; rfl) (by decide) ?_
                      refine sx_aload_n (i := 0) k287_148 rfl rfl ?_
                      refine cx_getI (k := 43) k287_149 ow_287 fl_12_213 (by decide) sk_129 ft_11_43 ?_
                      exact cx_reti k287_152 rt_287 h
                    · rw [if_neg hb10] at h
                      by_cases hb11 : v1 = (9 : Int32)
                      · rw [if_pos hb11] at h
                        refine sx_tableIn (off := 117) (tgt := 153) k287_36 (by rw [hb11]; decide) (by rw [hb11]; decide) (by rw [hb11]; rfl) (by decide) ?_
                        refine sx_iload_n (i := 2) k287_153 rfl rfl ?_
                        exact cx_reti k287_154 rt_287 h
                      · rw [if_neg hb11] at h
                        by_cases hb12 : v1 = (10 : Int32)
                        · rw [if_pos hb12] at h
                          refine sx_tableIn (off := 119) (tgt := 155) k287_36 (by rw [hb12]; decide) (by rw [hb12]; decide) (by rw [hb12]; rfl) (by decide) ?_
                          refine sx_aload_n (i := 0) k287_155 rfl rfl ?_
                          refine cx_getI (k := 32) k287_156 ow_287 fl_12_275 (by decide) sk_129 ft_11_32 ?_
                          exact cx_reti k287_159 rt_287 h
                        · rw [if_neg hb12] at h
                          by_cases hb13 : v1 = (11 : Int32)
                          · rw [if_pos hb13] at h
                            refine sx_tableIn (off := 124) (tgt := 160) k287_36 (by rw [hb13]; decide) (by rw [hb13]; decide) (by rw [hb13]; rfl) (by decide) ?_
                            refine sx_aload_n (i := 0) k287_160 rfl rfl ?_
                            refine cx_getI (k := 33) k287_161 ow_287 fl_12_216 (by decide) sk_129 ft_11_33 ?_
                            exact cx_reti k287_164 rt_287 h
                          · rw [if_neg hb13] at h
                            by_cases hb14 : v1 = (12 : Int32)
                            · rw [if_pos hb14] at h
                              refine sx_tableIn (off := 129) (tgt := 165) k287_36 (by rw [hb14]; decide) (by rw [hb14]; decide) (by rw [hb14]; rfl) (by decide) ?_
                              refine sx_aload_n (i := 0) k287_165 rfl rfl ?_
                              refine cx_getI (k := 35) k287_166 ow_287 fl_12_189 (by decide) sk_129 ft_11_35 ?_
                              exact cx_reti k287_169 rt_287 h
                            · rw [if_neg hb14] at h
                              by_cases hb15 : v1 = (13 : Int32)
                              · rw [if_pos hb15] at h
                                refine sx_tableIn (off := 134) (tgt := 170) k287_36 (by rw [hb15]; decide) (by rw [hb15]; decide) (by rw [hb15]; rfl) (by decide) ?_
                                refine sx_aload_n (i := 0) k287_170 rfl rfl ?_
                                refine cx_getI (k := 36) k287_171 ow_287 fl_12_281 (by decide) sk_129 ft_11_36 ?_
                                exact cx_reti k287_174 rt_287 h
                              · rw [if_neg hb15] at h
                                refine sx_tableOut (tgt := 175) k287_36 (sw_out (n := 14) (fun j hj => ?_)) (by decide) ?_
                                · intro hj2
                                  exact sw_no [(0 : Int32), (1 : Int32), (2 : Int32), (3 : Int32), (4 : Int32), (5 : Int32), (6 : Int32), (7 : Int32), (8 : Int32), (9 : Int32), (10 : Int32), (11 : Int32), (12 : Int32), (13 : Int32)] (by decide) hj hj2 ⟨hb2, hb3, hb4, hb5, hb6, hb7, hb8, hb9, hb10, hb11, hb12, hb13, hb14, hb15, trivial⟩
                                ·
                                  refine sx_iconst (v := -1) k287_175 (by decide) ?_
                                  exact cx_reti k287_176 rt_287 h
  · rw [if_neg hb1] at h
    refine sx_icmp_ge (tgt := 35) k287_9 (by decide) (fun q => absurd q hb1) (fun _ => ?_)
    refine sx_iload_n (i := 2) k287_12 rfl rfl ?_
    refine sx_aload_n (i := 0) k287_13 rfl rfl ?_
    refine cx_getR (k := 40) k287_14 ow_287 fl_12_201 (by decide) sk_129 ft_11_40 sr_129_40 ?_
    refine sx_iload_n (i := 3) k287_17 rfl rfl ?_
    obtain ⟨x16, e17, h⟩ := Option.bind_eq_some_iff.mp h
    refine cx_bald k287_18 (Or.inr sk_142) e17 ?_
    by_cases hb18 : x16 = 0
    · rw [if_pos hb18] at h
      refine sx_if_eq (tgt := 26) k287_19 (by decide) (fun _ => ?_) (fun q => absurd hb18 q)
      refine sx_iconst (v := 0) k287_26 (by decide) ?_
      refine sx_pick (lo2 := [(0, .ref 129), (1, .int v1), (3, .int v3)]) [0, 1, 3] rfl ?_
      exact c287_27_ok kl4 hk4 v1 v3 v2 (0 : Int32) _ _ h
    · rw [if_neg hb18] at h
      refine sx_if_eq (tgt := 26) k287_19 (by decide) (fun q => absurd q hb18) (fun _ => ?_)
      refine sx_iconst (v := 1) k287_22 (by decide) ?_
      refine sx_goto (tgt := 27) k287_23 (by decide) ?_
      refine sx_pick (lo2 := [(0, .ref 129), (1, .int v1), (3, .int v3)]) [0, 1, 3] rfl ?_
      exact c287_27_ok kl4 hk4 v1 v3 v2 (1 : Int32) _ _ h
def l287_4 : Nat → Int32 × Int32 × Int32 × Mem → Option (Mem × Int32) :=
  fixN (fun self x => b287_4 (fun v1 v2 v3 μ => self (v1, v2, v3, μ)) (x.1) (x.2.1) (x.2.2.1) (x.2.2.2))
theorem l287_4_ok {L : Nat} (n : Nat) (v1 : Int32) (v2 : Int32) (v3 : Int32) (μ : Mem) (res : Mem × Int32) (h : l287_4 n (v1, v2, v3, μ) = some res) : Sx 287 4 [(0, .ref 129), (1, .int v1), (2, .int v2), (3, .int v3)] [] 0 0 (mk L μ) (mk L res.1, some (.int res.2)) := by
  have key := fixN_ind (P := fun x res => Sx 287 4 [(0, .ref 129), (1, .int (x.1)), (2, .int (x.2.1)), (3, .int (x.2.2.1))] [] 0 0 (mk L (x.2.2.2)) (mk L res.1, some (.int res.2))) (F := fun self x => b287_4 (fun v1 v2 v3 μ => self (v1, v2, v3, μ)) (x.1) (x.2.1) (x.2.2.1) (x.2.2.2)) (fun self hself x res h => b287_4_ok (fun v1 v2 v3 μ => self (v1, v2, v3, μ)) (fun v1 v2 v3 μ res hh => hself (v1, v2, v3, μ) res hh) (x.1) (x.2.1) (x.2.2.1) (x.2.2.2) res h) n (v1, v2, v3, μ) res h
  exact key
/-- CraftHouseModel.machine(I)I -/
def f287 (p1 : Int32) (μ : Mem) : Option (Mem × Int32) :=
  l287_4 gF (p1, (0 : Int32), (0 : Int32), μ)
theorem ok287 {L : Nat} (p1 : Int32) (μ : Mem) (res : Mem × Int32) (h : f287 p1 μ = some res) : Mx 287 [.ref 129, .int p1] (mk L μ) (mk L res.1, some (.int res.2)) := by
  refine Mx_of ml_287 (by rw [mx_287]; exact Nat.le_of_ble_eq_true rfl) ?_
  show Sx 287 0 [(0, .ref 129), (1, .int p1)] [] 0 0 (mk L μ) _
  unfold f287 at h
  refine sx_iconst (v := 0) k287_0 (by decide) ?_
  refine cx_istore_n (lo2 := [(2, .int (0 : Int32)), (0, .ref 129), (1, .int p1)]) k287_1 rfl (by rw [mx_287]; decide) rfl ?_
  refine sx_iconst (v := 0) k287_2 (by decide) ?_
  refine cx_istore_n (lo2 := [(3, .int (0 : Int32)), (2, .int (0 : Int32)), (0, .ref 129), (1, .int p1)]) k287_3 rfl (by rw [mx_287]; decide) rfl ?_
  refine sx_pick (lo2 := [(0, .ref 129), (1, .int p1), (2, .int (0 : Int32)), (3, .int (0 : Int32))]) [2, 3, 1, 0] rfl ?_
  exact l287_4_ok gF p1 (0 : Int32) (0 : Int32) _ _ h
theorem k291_0 : decode (gb 291) 0 = .ok (.iload_n 0, 1) := by decide +kernel
theorem k291_1 : decode (gb 291) 1 = .ok (.ifCond .lt 14, 3) := by decide +kernel
theorem k291_4 : decode (gb 291) 4 = .ok (.iload_n 0, 1) := by decide +kernel
theorem k291_5 : decode (gb 291) 5 = .ok (.sipush 255, 3) := by decide +kernel
theorem k291_8 : decode (gb 291) 8 = .ok (.if_icmp .gt 7, 3) := by decide +kernel
theorem k291_11 : decode (gb 291) 11 = .ok (.iconst 1, 1) := by decide +kernel
theorem k291_12 : decode (gb 291) 12 = .ok (.goto 4, 3) := by decide +kernel
theorem k291_15 : decode (gb 291) 15 = .ok (.iconst 0, 1) := by decide +kernel
theorem k291_16 : decode (gb 291) 16 = .ok (.ireturn, 1) := by decide +kernel
/-- CraftHouseModel.isByte(I)Z -/
def f291 (p1 : Int32) (μ : Mem) : Option (Mem × Int32) :=
  if p1 < 0 then
    rtZ (0 : Int32) μ
  else
    if (255 : Int32) < p1 then
      rtZ (0 : Int32) μ
    else
      rtZ (1 : Int32) μ
theorem ok291 {L : Nat} (p1 : Int32) (μ : Mem) (res : Mem × Int32) (h : f291 p1 μ = some res) : Mx 291 [.int p1] (mk L μ) (mk L res.1, some (.int res.2)) := by
  refine Mx_of ml_291 (by rw [mx_291]; exact Nat.le_of_ble_eq_true rfl) ?_
  show Sx 291 0 [(0, .int p1)] [] 0 0 (mk L μ) _
  unfold f291 at h
  refine sx_iload_n (i := 0) k291_0 rfl rfl ?_
  by_cases hb1 : p1 < 0
  · rw [if_pos hb1] at h
    refine sx_if_lt (tgt := 15) k291_1 (by decide) (fun _ => ?_) (fun q => absurd hb1 q)
    refine sx_iconst (v := 0) k291_15 (by decide) ?_
    exact cx_retz k291_16 rt_291 h
  · rw [if_neg hb1] at h
    refine sx_if_lt (tgt := 15) k291_1 (by decide) (fun q => absurd q hb1) (fun _ => ?_)
    refine sx_iload_n (i := 0) k291_4 rfl rfl ?_
    refine sx_sipush (v := 255) k291_5 (by decide) ?_
    by_cases hb2 : (255 : Int32) < p1
    · rw [if_pos hb2] at h
      refine sx_icmp_gt (tgt := 15) k291_8 (by decide) (fun _ => ?_) (fun q => absurd hb2 q)
      refine sx_iconst (v := 0) k291_15 (by decide) ?_
      exact cx_retz k291_16 rt_291 h
    · rw [if_neg hb2] at h
      refine sx_icmp_gt (tgt := 15) k291_8 (by decide) (fun q => absurd q hb2) (fun _ => ?_)
      refine sx_iconst (v := 1) k291_11 (by decide) ?_
      refine sx_goto (tgt := 16) k291_12 (by decide) ?_
      exact cx_retz k291_16 rt_291 h
theorem k292_0 : decode (gb 292) 0 = .ok (.aload_n 0, 1) := by decide +kernel
theorem k292_1 : decode (gb 292) 1 = .ok (.getfield 3, 3) := by decide +kernel
theorem k292_4 : decode (gb 292) 4 = .ok (.istore 4, 2) := by decide +kernel
theorem k292_6 : decode (gb 292) 6 = .ok (.iload 4, 2) := by decide +kernel
theorem k292_8 : decode (gb 292) 8 = .ok (.bipush 13, 2) := by decide +kernel
theorem k292_10 : decode (gb 292) 10 = .ok (.iadd, 1) := by decide +kernel
theorem k292_11 : decode (gb 292) 11 = .ok (.istore 5, 2) := by decide +kernel
theorem k292_13 : decode (gb 292) 13 = .ok (.iload 4, 2) := by decide +kernel
theorem k292_15 : decode (gb 292) 15 = .ok (.iconst 1, 1) := by decide +kernel
theorem k292_16 : decode (gb 292) 16 = .ok (.isub, 1) := by decide +kernel
theorem k292_17 : decode (gb 292) 17 = .ok (.istore 6, 2) := by decide +kernel
theorem k292_19 : decode (gb 292) 19 = .ok (.iload 6, 2) := by decide +kernel
theorem k292_21 : decode (gb 292) 21 = .ok (.ifCond .lt 26, 3) := by decide +kernel
theorem k292_24 : decode (gb 292) 24 = .ok (.aload_n 0, 1) := by decide +kernel
theorem k292_25 : decode (gb 292) 25 = .ok (.getfield 7, 3) := by decide +kernel
theorem k292_28 : decode (gb 292) 28 = .ok (.iload 6, 2) := by decide +kernel
theorem k292_30 : decode (gb 292) 30 = .ok (.bipush 11, 2) := by decide +kernel
theorem k292_32 : decode (gb 292) 32 = .ok (.iadd, 1) := by decide +kernel
theorem k292_33 : decode (gb 292) 33 = .ok (.aload_n 0, 1) := by decide +kernel
theorem k292_34 : decode (gb 292) 34 = .ok (.getfield 7, 3) := by decide +kernel
theorem k292_37 : decode (gb 292) 37 = .ok (.iload 6, 2) := by decide +kernel
theorem k292_39 : decode (gb 292) 39 = .ok (.iaload, 1) := by decide +kernel
theorem k292_40 : decode (gb 292) 40 = .ok (.iastore, 1) := by decide +kernel
theorem k292_41 : decode (gb 292) 41 = .ok (.iinc 6 (-1), 3) := by decide +kernel
theorem k292_44 : decode (gb 292) 44 = .ok (.goto (-25), 3) := by decide +kernel
theorem k292_47 : decode (gb 292) 47 = .ok (.aload_n 0, 1) := by decide +kernel
theorem k292_48 : decode (gb 292) 48 = .ok (.getfield 7, 3) := by decide +kernel
theorem k292_51 : decode (gb 292) 51 = .ok (.iconst 0, 1) := by decide +kernel
theorem k292_52 : decode (gb 292) 52 = .ok (.bipush 24, 2) := by decide +kernel
theorem k292_54 : decode (gb 292) 54 = .ok (.iastore, 1) := by decide +kernel
theorem k292_55 : decode (gb 292) 55 = .ok (.aload_n 0, 1) := by decide +kernel
theorem k292_56 : decode (gb 292) 56 = .ok (.getfield 7, 3) := by decide +kernel
theorem k292_59 : decode (gb 292) 59 = .ok (.iconst 1, 1) := by decide +kernel
theorem k292_60 : decode (gb 292) 60 = .ok (.bipush 12, 2) := by decide +kernel
theorem k292_62 : decode (gb 292) 62 = .ok (.iastore, 1) := by decide +kernel
theorem k292_63 : decode (gb 292) 63 = .ok (.aload_n 0, 1) := by decide +kernel
theorem k292_64 : decode (gb 292) 64 = .ok (.getfield 7, 3) := by decide +kernel
theorem k292_67 : decode (gb 292) 67 = .ok (.iconst 2, 1) := by decide +kernel
theorem k292_68 : decode (gb 292) 68 = .ok (.sipush 192, 3) := by decide +kernel
theorem k292_71 : decode (gb 292) 71 = .ok (.aload_n 0, 1) := by decide +kernel
theorem k292_72 : decode (gb 292) 72 = .ok (.getfield 294, 3) := by decide +kernel
theorem k292_75 : decode (gb 292) 75 = .ok (.bipush 8, 2) := by decide +kernel
theorem k292_77 : decode (gb 292) 77 = .ok (.ishr, 1) := by decide +kernel
theorem k292_78 : decode (gb 292) 78 = .ok (.bipush 63, 2) := by decide +kernel
theorem k292_80 : decode (gb 292) 80 = .ok (.iand, 1) := by decide +kernel
theorem k292_81 : decode (gb 292) 81 = .ok (.ior, 1) := by decide +kernel
theorem k292_82 : decode (gb 292) 82 = .ok (.iastore, 1) := by decide +kernel
theorem k292_83 : decode (gb 292) 83 = .ok (.aload_n 0, 1) := by decide +kernel
theorem k292_84 : decode (gb 292) 84 = .ok (.getfield 7, 3) := by decide +kernel
theorem k292_87 : decode (gb 292) 87 = .ok (.iconst 3, 1) := by decide +kernel
theorem k292_88 : decode (gb 292) 88 = .ok (.aload_n 0, 1) := by decide +kernel
theorem k292_89 : decode (gb 292) 89 = .ok (.getfield 294, 3) := by decide +kernel
theorem k292_92 : decode (gb 292) 92 = .ok (.sipush 255, 3) := by decide +kernel
theorem k292_95 : decode (gb 292) 95 = .ok (.iand, 1) := by decide +kernel
theorem k292_96 : decode (gb 292) 96 = .ok (.iastore, 1) := by decide +kernel
theorem k292_97 : decode (gb 292) 97 = .ok (.aload_n 0, 1) := by decide +kernel
theorem k292_98 : decode (gb 292) 98 = .ok (.getfield 7, 3) := by decide +kernel
theorem k292_101 : decode (gb 292) 101 = .ok (.iconst 4, 1) := by decide +kernel
theorem k292_102 : decode (gb 292) 102 = .ok (.iload 5, 2) := by decide +kernel
theorem k292_104 : decode (gb 292) 104 = .ok (.bipush 7, 2) := by decide +kernel
theorem k292_106 : decode (gb 292) 106 = .ok (.isub, 1) := by decide +kernel
theorem k292_107 : decode (gb 292) 107 = .ok (.bipush 8, 2) := by decide +kernel
theorem k292_109 : decode (gb 292) 109 = .ok (.ishr, 1) := by decide +kernel
theorem k292_110 : decode (gb 292) 110 = .ok (.iastore, 1) := by decide +kernel
theorem k292_111 : decode (gb 292) 111 = .ok (.aload_n 0, 1) := by decide +kernel
theorem k292_112 : decode (gb 292) 112 = .ok (.getfield 7, 3) := by decide +kernel
theorem k292_115 : decode (gb 292) 115 = .ok (.iconst 5, 1) := by decide +kernel
theorem k292_116 : decode (gb 292) 116 = .ok (.iload 5, 2) := by decide +kernel
theorem k292_118 : decode (gb 292) 118 = .ok (.bipush 7, 2) := by decide +kernel
theorem k292_120 : decode (gb 292) 120 = .ok (.isub, 1) := by decide +kernel
theorem k292_121 : decode (gb 292) 121 = .ok (.sipush 255, 3) := by decide +kernel
theorem k292_124 : decode (gb 292) 124 = .ok (.iand, 1) := by decide +kernel
theorem k292_125 : decode (gb 292) 125 = .ok (.iastore, 1) := by decide +kernel
theorem k292_126 : decode (gb 292) 126 = .ok (.aload_n 0, 1) := by decide +kernel
theorem k292_127 : decode (gb 292) 127 = .ok (.getfield 7, 3) := by decide +kernel
theorem k292_130 : decode (gb 292) 130 = .ok (.bipush 6, 2) := by decide +kernel
theorem k292_132 : decode (gb 292) 132 = .ok (.bipush 32, 2) := by decide +kernel
theorem k292_134 : decode (gb 292) 134 = .ok (.iload_n 3, 1) := by decide +kernel
theorem k292_135 : decode (gb 292) 135 = .ok (.ior, 1) := by decide +kernel
theorem k292_136 : decode (gb 292) 136 = .ok (.iastore, 1) := by decide +kernel
theorem k292_137 : decode (gb 292) 137 = .ok (.aload_n 0, 1) := by decide +kernel
theorem k292_138 : decode (gb 292) 138 = .ok (.getfield 7, 3) := by decide +kernel
theorem k292_141 : decode (gb 292) 141 = .ok (.bipush 7, 2) := by decide +kernel
theorem k292_143 : decode (gb 292) 143 = .ok (.iload_n 1, 1) := by decide +kernel
theorem k292_144 : decode (gb 292) 144 = .ok (.iastore, 1) := by decide +kernel
theorem k292_145 : decode (gb 292) 145 = .ok (.aload_n 0, 1) := by decide +kernel
theorem k292_146 : decode (gb 292) 146 = .ok (.getfield 7, 3) := by decide +kernel
theorem k292_149 : decode (gb 292) 149 = .ok (.bipush 8, 2) := by decide +kernel
theorem k292_151 : decode (gb 292) 151 = .ok (.iload_n 2, 1) := by decide +kernel
theorem k292_152 : decode (gb 292) 152 = .ok (.iastore, 1) := by decide +kernel
theorem k292_153 : decode (gb 292) 153 = .ok (.aload_n 0, 1) := by decide +kernel
theorem k292_154 : decode (gb 292) 154 = .ok (.getfield 7, 3) := by decide +kernel
theorem k292_157 : decode (gb 292) 157 = .ok (.bipush 9, 2) := by decide +kernel
theorem k292_159 : decode (gb 292) 159 = .ok (.iconst 0, 1) := by decide +kernel
theorem k292_160 : decode (gb 292) 160 = .ok (.iastore, 1) := by decide +kernel
theorem k292_161 : decode (gb 292) 161 = .ok (.aload_n 0, 1) := by decide +kernel
theorem k292_162 : decode (gb 292) 162 = .ok (.getfield 7, 3) := by decide +kernel
theorem k292_165 : decode (gb 292) 165 = .ok (.bipush 10, 2) := by decide +kernel
theorem k292_167 : decode (gb 292) 167 = .ok (.iconst 0, 1) := by decide +kernel
theorem k292_168 : decode (gb 292) 168 = .ok (.iastore, 1) := by decide +kernel
theorem k292_169 : decode (gb 292) 169 = .ok (.aload_n 0, 1) := by decide +kernel
theorem k292_170 : decode (gb 292) 170 = .ok (.getfield 7, 3) := by decide +kernel
theorem k292_173 : decode (gb 292) 173 = .ok (.iconst 0, 1) := by decide +kernel
theorem k292_174 : decode (gb 292) 174 = .ok (.bipush 11, 2) := by decide +kernel
theorem k292_176 : decode (gb 292) 176 = .ok (.iload 4, 2) := by decide +kernel
theorem k292_178 : decode (gb 292) 178 = .ok (.iadd, 1) := by decide +kernel
theorem k292_179 : decode (gb 292) 179 = .ok (.invokestatic 11, 3) := by decide +kernel
theorem k292_182 : decode (gb 292) 182 = .ok (.istore 6, 2) := by decide +kernel
theorem k292_184 : decode (gb 292) 184 = .ok (.aload_n 0, 1) := by decide +kernel
theorem k292_185 : decode (gb 292) 185 = .ok (.getfield 7, 3) := by decide +kernel
theorem k292_188 : decode (gb 292) 188 = .ok (.bipush 11, 2) := by decide +kernel
theorem k292_190 : decode (gb 292) 190 = .ok (.iload 4, 2) := by decide +kernel
theorem k292_192 : decode (gb 292) 192 = .ok (.iadd, 1) := by decide +kernel
theorem k292_193 : decode (gb 292) 193 = .ok (.iload 6, 2) := by decide +kernel
theorem k292_195 : decode (gb 292) 195 = .ok (.bipush 8, 2) := by decide +kernel
theorem k292_197 : decode (gb 292) 197 = .ok (.ishr, 1) := by decide +kernel
theorem k292_198 : decode (gb 292) 198 = .ok (.iastore, 1) := by decide +kernel
theorem k292_199 : decode (gb 292) 199 = .ok (.aload_n 0, 1) := by decide +kernel
theorem k292_200 : decode (gb 292) 200 = .ok (.getfield 7, 3) := by decide +kernel
theorem k292_203 : decode (gb 292) 203 = .ok (.bipush 12, 2) := by decide +kernel
theorem k292_205 : decode (gb 292) 205 = .ok (.iload 4, 2) := by decide +kernel
theorem k292_207 : decode (gb 292) 207 = .ok (.iadd, 1) := by decide +kernel
theorem k292_208 : decode (gb 292) 208 = .ok (.iload 6, 2) := by decide +kernel
theorem k292_210 : decode (gb 292) 210 = .ok (.sipush 255, 3) := by decide +kernel
theorem k292_213 : decode (gb 292) 213 = .ok (.iand, 1) := by decide +kernel
theorem k292_214 : decode (gb 292) 214 = .ok (.iastore, 1) := by decide +kernel
theorem k292_215 : decode (gb 292) 215 = .ok (.aload_n 0, 1) := by decide +kernel
theorem k292_216 : decode (gb 292) 216 = .ok (.getfield 294, 3) := by decide +kernel
theorem k292_219 : decode (gb 292) 219 = .ok (.bipush 64, 2) := by decide +kernel
theorem k292_221 : decode (gb 292) 221 = .ok (.irem, 1) := by decide +kernel
theorem k292_222 : decode (gb 292) 222 = .ok (.istore 7, 2) := by decide +kernel
theorem k292_224 : decode (gb 292) 224 = .ok (.iconst 0, 1) := by decide +kernel
theorem k292_225 : decode (gb 292) 225 = .ok (.istore 8, 2) := by decide +kernel
theorem k292_227 : decode (gb 292) 227 = .ok (.iload 8, 2) := by decide +kernel
theorem k292_229 : decode (gb 292) 229 = .ok (.iload 5, 2) := by decide +kernel
theorem k292_231 : decode (gb 292) 231 = .ok (.if_icmp .ge 29, 3) := by decide +kernel
theorem k292_234 : decode (gb 292) 234 = .ok (.aload_n 0, 1) := by decide +kernel
theorem k292_235 : decode (gb 292) 235 = .ok (.getfield 303, 3) := by decide +kernel
theorem k292_238 : decode (gb 292) 238 = .ok (.bipush 100, 2) := by decide +kernel
theorem k292_240 : decode (gb 292) 240 = .ok (.iload 7, 2) := by decide +kernel
theorem k292_242 : decode (gb 292) 242 = .ok (.imul, 1) := by decide +kernel
theorem k292_243 : decode (gb 292) 243 = .ok (.iload 8, 2) := by decide +kernel
theorem k292_245 : decode (gb 292) 245 = .ok (.iadd, 1) := by decide +kernel
theorem k292_246 : decode (gb 292) 246 = .ok (.aload_n 0, 1) := by decide +kernel
theorem k292_247 : decode (gb 292) 247 = .ok (.getfield 7, 3) := by decide +kernel
theorem k292_250 : decode (gb 292) 250 = .ok (.iload 8, 2) := by decide +kernel
theorem k292_252 : decode (gb 292) 252 = .ok (.iaload, 1) := by decide +kernel
theorem k292_253 : decode (gb 292) 253 = .ok (.iastore, 1) := by decide +kernel
theorem k292_254 : decode (gb 292) 254 = .ok (.iinc 8 1, 3) := by decide +kernel
theorem k292_257 : decode (gb 292) 257 = .ok (.goto (-30), 3) := by decide +kernel
theorem k292_260 : decode (gb 292) 260 = .ok (.aload_n 0, 1) := by decide +kernel
theorem k292_261 : decode (gb 292) 261 = .ok (.getfield 306, 3) := by decide +kernel
theorem k292_264 : decode (gb 292) 264 = .ok (.iload 7, 2) := by decide +kernel
theorem k292_266 : decode (gb 292) 266 = .ok (.iload 5, 2) := by decide +kernel
theorem k292_268 : decode (gb 292) 268 = .ok (.iastore, 1) := by decide +kernel
theorem k292_269 : decode (gb 292) 269 = .ok (.aload_n 0, 1) := by decide +kernel
theorem k292_270 : decode (gb 292) 270 = .ok (.getfield 300, 3) := by decide +kernel
theorem k292_273 : decode (gb 292) 273 = .ok (.iload 7, 2) := by decide +kernel
theorem k292_275 : decode (gb 292) 275 = .ok (.iconst 0, 1) := by decide +kernel
theorem k292_276 : decode (gb 292) 276 = .ok (.iastore, 1) := by decide +kernel
theorem k292_277 : decode (gb 292) 277 = .ok (.aload_n 0, 1) := by decide +kernel
theorem k292_278 : decode (gb 292) 278 = .ok (.getfield 309, 3) := by decide +kernel
theorem k292_281 : decode (gb 292) 281 = .ok (.iload 7, 2) := by decide +kernel
theorem k292_283 : decode (gb 292) 283 = .ok (.iconst 0, 1) := by decide +kernel
theorem k292_284 : decode (gb 292) 284 = .ok (.iastore, 1) := by decide +kernel
theorem k292_285 : decode (gb 292) 285 = .ok (.aload_n 0, 1) := by decide +kernel
theorem k292_286 : decode (gb 292) 286 = .ok (.getfield 312, 3) := by decide +kernel
theorem k292_289 : decode (gb 292) 289 = .ok (.iload 7, 2) := by decide +kernel
theorem k292_291 : decode (gb 292) 291 = .ok (.iload_n 1, 1) := by decide +kernel
theorem k292_292 : decode (gb 292) 292 = .ok (.iastore, 1) := by decide +kernel
theorem k292_293 : decode (gb 292) 293 = .ok (.aload_n 0, 1) := by decide +kernel
theorem k292_294 : decode (gb 292) 294 = .ok (.getfield 315, 3) := by decide +kernel
theorem k292_297 : decode (gb 292) 297 = .ok (.iload 7, 2) := by decide +kernel
theorem k292_299 : decode (gb 292) 299 = .ok (.iload_n 2, 1) := by decide +kernel
theorem k292_300 : decode (gb 292) 300 = .ok (.iastore, 1) := by decide +kernel
theorem k292_301 : decode (gb 292) 301 = .ok (.aload_n 0, 1) := by decide +kernel
theorem k292_302 : decode (gb 292) 302 = .ok (.dup, 1) := by decide +kernel
theorem k292_303 : decode (gb 292) 303 = .ok (.getfield 294, 3) := by decide +kernel
theorem k292_306 : decode (gb 292) 306 = .ok (.iconst 1, 1) := by decide +kernel
theorem k292_307 : decode (gb 292) 307 = .ok (.iadd, 1) := by decide +kernel
theorem k292_308 : decode (gb 292) 308 = .ok (.putfield 294, 3) := by decide +kernel
theorem k292_311 : decode (gb 292) 311 = .ok (.aload_n 0, 1) := by decide +kernel
theorem k292_312 : decode (gb 292) 312 = .ok (.getfield 294, 3) := by decide +kernel
theorem k292_315 : decode (gb 292) 315 = .ok (.iconst 1, 1) := by decide +kernel
theorem k292_316 : decode (gb 292) 316 = .ok (.isub, 1) := by decide +kernel
theorem k292_317 : decode (gb 292) 317 = .ok (.ireturn, 1) := by decide +kernel
def b292_227 (kl227 : Int32 → Int32 → Int32 → Int32 → Int32 → Mem → Option (Mem × Int32)) (v1 : Int32) (v2 : Int32) (v5 : Int32) (v7 : Int32) (v8 : Int32) (μ : Mem) : Option (Mem × Int32) :=
  if v5 ≤ v8 then
    (stA 151 v7 v5 μ).bind fun m2 =>
    (stA 152 v7 (0 : Int32) m2).bind fun m4 =>
    (stA 153 v7 (0 : Int32) m4).bind fun m6 =>
    (stA 154 v7 v1 m6).bind fun m8 =>
    (stA 155 v7 v2 m8).bind fun m10 =>
    (pfI 129 58 ((m10.1 129 58) + (1 : Int32)) m10).bind fun m12 =>
    some (m12, ((m12.1 129 58) - (1 : Int32)))
  else
    (ldA 130 v8 μ).bind fun x14 =>
    (stA 150 (((100 : Int32) * v7) + v8) x14 μ).bind fun m16 =>
    nm (v8 + (1 : Int32)) fun x18 =>
    kl227 v1 v2 v5 v7 x18 m16
theorem b292_227_ok {L : Nat} (kl227 : Int32 → Int32 → Int32 → Int32 → Int32 → Mem → Option (Mem × Int32)) (hk227 : (∀ (v1 : Int32) (v2 : Int32) (v5 : Int32) (v7 : Int32) (v8 : Int32) (μ : Mem) (res : Mem × Int32), kl227 v1 v2 v5 v7 v8 μ = some res → Sx 292 227 [(0, .ref 129), (1, .int v1), (2, .int v2), (5, .int v5), (7, .int v7), (8, .int v8)] [] 0 0 (mk L μ) (mk L res.1, some (.int res.2)))) (v1 : Int32) (v2 : Int32) (v5 : Int32) (v7 : Int32) (v8 : Int32) (μ : Mem) (res : Mem × Int32) (h : b292_227 kl227 v1 v2 v5 v7 v8 μ = some res) : Sx 292 227 [(0, .ref 129), (1, .int v1), (2, .int v2), (5, .int v5), (7, .int v7), (8, .int v8)] [] 0 0 (mk L μ) (mk L res.1, some (.int res.2)) := by
  unfold b292_227 at h
  refine sx_iload k292_227 rfl ?_
  refine sx_iload k292_229 rfl ?_
  by_cases hb1 : v5 ≤ v8
  · rw [if_pos hb1] at h
    refine sx_icmp_ge (tgt := 260) k292_231 (by decide) (fun _ => ?_) (fun q => absurd hb1 q)
    refine sx_aload_n (i := 0) k292_260 rfl rfl ?_
    refine cx_getR (k := 53) k292_261 ow_292 fl_12_306 (by decide) sk_129 ft_11_53 sr_129_53 ?_
    refine sx_iload k292_264 rfl ?_
    refine sx_iload k292_266 rfl ?_
    obtain ⟨m2, e3, h⟩ := Option.bind_eq_some_iff.mp h
    refine cx_iast k292_268 sk_151 e3 ?_
    refine sx_aload_n (i := 0) k292_269 rfl rfl ?_
    refine cx_getR (k := 54) k292_270 ow_292 fl_12_300 (by decide) sk_129 ft_11_54 sr_129_54 ?_
    refine sx_iload k292_273 rfl ?_
    refine sx_iconst (v := 0) k292_275 (by decide) ?_
    obtain ⟨m4, e5, h⟩ := Option.bind_eq_some_iff.mp h
    refine cx_iast k292_276 sk_152 e5 ?_
    refine sx_aload_n (i := 0) k292_277 rfl rfl ?_
    refine cx_getR (k := 55) k292_278 ow_292 fl_12_309 (by decide) sk_129 ft_11_55 sr_129_55 ?_
    refine sx_iload k292_281 rfl ?_
    refine sx_iconst (v := 0) k292_283 (by decide) ?_
    obtain ⟨m6, e7, h⟩ := Option.bind_eq_some_iff.mp h
    refine cx_iast k292_284 sk_153 e7 ?_
    refine sx_aload_n (i := 0) k292_285 rfl rfl ?_
    refine cx_getR (k := 56) k292_286 ow_292 fl_12_312 (by decide) sk_129 ft_11_56 sr_129_56 ?_
    refine sx_iload k292_289 rfl ?_
    refine sx_iload_n (i := 1) k292_291 rfl rfl ?_
    obtain ⟨m8, e9, h⟩ := Option.bind_eq_some_iff.mp h
    refine cx_iast k292_292 sk_154 e9 ?_
    refine sx_aload_n (i := 0) k292_293 rfl rfl ?_
    refine cx_getR (k := 57) k292_294 ow_292 fl_12_315 (by decide) sk_129 ft_11_57 sr_129_57 ?_
    refine sx_iload k292_297 rfl ?_
    refine sx_iload_n (i := 2) k292_299 rfl rfl ?_
    obtain ⟨m10, e11, h⟩ := Option.bind_eq_some_iff.mp h
    refine cx_iast k292_300 sk_155 e11 ?_
    refine sx_aload_n (i := 0) k292_301 rfl rfl ?_
    refine sx_dup k292_302 rfl ?_
    refine cx_getI (k := 58) k292_303 ow_292 fl_12_294 (by decide) sk_129 ft_11_58 ?_
    refine sx_iconst (v := 1) k292_306 (by decide) ?_
    refine sx_iadd k292_307 ?_
    obtain ⟨m12, e13, h⟩ := Option.bind_eq_some_iff.mp h
    refine cx_putI (k := 58) k292_308 ow_292 fl_12_294 (by decide) sk_129 nf_11_58 fu_11_58 e13 ?_
    refine sx_aload_n (i := 0) k292_311 rfl rfl ?_
    refine cx_getI (k := 58) k292_312 ow_292 fl_12_294 (by decide) sk_129 ft_11_58 ?_
    refine sx_iconst (v := 1) k292_315 (by decide) ?_
    refine sx_isub k292_316 ?_
    exact cx_reti k292_317 rt_292 h
  · rw [if_neg hb1] at h
    refine sx_icmp_ge (tgt := 260) k292_231 (by decide) (fun q => absurd q hb1) (fun _ => ?_)
    refine sx_aload_n (i := 0) k292_234 rfl rfl ?_
    refine cx_getR (k := 52) k292_235 ow_292 fl_12_303 (by decide) sk_129 ft_11_52 sr_129_52 ?_
    refine sx_bipush (v := 100) k292_238 (by decide) ?_
    refine sx_iload k292_240 rfl ?_
    refine sx_imul k292_242 ?_
    refine sx_iload k292_243 rfl ?_
    refine sx_iadd k292_245 ?_
    refine sx_aload_n (i := 0) k292_246 rfl rfl ?_
    refine cx_getR (k := 0) k292_247 ow_292 fl_12_7 (by decide) sk_129 ft_11_0 sr_129_0 ?_
    refine sx_iload k292_250 rfl ?_
    obtain ⟨x14, e15, h⟩ := Option.bind_eq_some_iff.mp h
    refine cx_iald k292_252 sk_130 e15 ?_
    obtain ⟨m16, e17, h⟩ := Option.bind_eq_some_iff.mp h
    refine cx_iast k292_253 sk_150 e17 ?_
    refine cx_iinc (c := 1) (lo2 := fun x18 => [(8, .int x18), (0, .ref 129), (1, .int v1), (2, .int v2), (5, .int v5), (7, .int v7)]) k292_254 rfl (by decide) (by rw [mx_292]; decide) (fun _ => rfl) h (fun x18 h => ?_)
    refine sx_goto (tgt := 227) k292_257 (by decide) ?_
    refine sx_pick (lo2 := [(0, .ref 129), (1, .int v1), (2, .int v2), (5, .int v5), (7, .int v7), (8, .int x18)]) [1, 2, 3, 4, 5, 0] rfl ?_
    exact hk227 v1 v2 v5 v7 x18 _ _ h
def l292_227 : Nat → Int32 × Int32 × Int32 × Int32 × Int32 × Mem → Option (Mem × Int32) :=
  fixN (fun self x => b292_227 (fun v1 v2 v5 v7 v8 μ => self (v1, v2, v5, v7, v8, μ)) (x.1) (x.2.1) (x.2.2.1) (x.2.2.2.1) (x.2.2.2.2.1) (x.2.2.2.2.2))
theorem l292_227_ok {L : Nat} (n : Nat) (v1 : Int32) (v2 : Int32) (v5 : Int32) (v7 : Int32) (v8 : Int32) (μ : Mem) (res : Mem × Int32) (h : l292_227 n (v1, v2, v5, v7, v8, μ) = some res) : Sx 292 227 [(0, .ref 129), (1, .int v1), (2, .int v2), (5, .int v5), (7, .int v7), (8, .int v8)] [] 0 0 (mk L μ) (mk L res.1, some (.int res.2)) := by
  have key := fixN_ind (P := fun x res => Sx 292 227 [(0, .ref 129), (1, .int (x.1)), (2, .int (x.2.1)), (5, .int (x.2.2.1)), (7, .int (x.2.2.2.1)), (8, .int (x.2.2.2.2.1))] [] 0 0 (mk L (x.2.2.2.2.2)) (mk L res.1, some (.int res.2))) (F := fun self x => b292_227 (fun v1 v2 v5 v7 v8 μ => self (v1, v2, v5, v7, v8, μ)) (x.1) (x.2.1) (x.2.2.1) (x.2.2.2.1) (x.2.2.2.2.1) (x.2.2.2.2.2)) (fun self hself x res h => b292_227_ok (fun v1 v2 v5 v7 v8 μ => self (v1, v2, v5, v7, v8, μ)) (fun v1 v2 v5 v7 v8 μ res hh => hself (v1, v2, v5, v7, v8, μ) res hh) (x.1) (x.2.1) (x.2.2.1) (x.2.2.2.1) (x.2.2.2.2.1) (x.2.2.2.2.2) res h) n (v1, v2, v5, v7, v8, μ) res h
  exact key
def b292_19 (kl19 : Int32 → Int32 → Int32 → Int32 → Int32 → Int32 → Mem → Option (Mem × Int32)) (v1 : Int32) (v2 : Int32) (v3 : Int32) (v4 : Int32) (v5 : Int32) (v6 : Int32) (μ : Mem) : Option (Mem × Int32) :=
  if v6 < 0 then
    (stA 130 (0 : Int32) (24 : Int32) μ).bind fun m2 =>
    (stA 130 (1 : Int32) (12 : Int32) m2).bind fun m4 =>
    (stA 130 (2 : Int32) ((192 : Int32) ||| ((jshr (m4.1 129 58) (8 : Int32)) &&& (63 : Int32))) m4).bind fun m6 =>
    (stA 130 (3 : Int32) ((m6.1 129 58) &&& (255 : Int32)) m6).bind fun m8 =>
    (stA 130 (4 : Int32) (jshr (v5 - (7 : Int32)) (8 : Int32)) m8).bind fun m10 =>
    (stA 130 (5 : Int32) ((v5 - (7 : Int32)) &&& (255 : Int32)) m10).bind fun m12 =>
    (stA 130 (6 : Int32) ((32 : Int32) ||| v3) m12).bind fun m14 =>
    (stA 130 (7 : Int32) v1 m14).bind fun m16 =>
    (stA 130 (8 : Int32) v2 m16).bind fun m18 =>
    (stA 130 (9 : Int32) (0 : Int32) m18).bind fun m20 =>
    (stA 130 (10 : Int32) (0 : Int32) m20).bind fun m22 =>
    (f245 130 (0 : Int32) ((11 : Int32) + v4) m22).bind fun r24 =>
    (stA 130 ((11 : Int32) + v4) (jshr r24.2 (8 : Int32)) r24.1).bind fun m26 =>
    (stA 130 ((12 : Int32) + v4) (r24.2 &&& (255 : Int32)) m26).bind fun m28 =>
    nm (jrem (m28.1 129 58) (64 : Int32)) fun x30 =>
    l292_227 gF (v1, v2, v5, x30, (0 : Int32), m28)
  else
    (ldA 130 v6 μ).bind fun x31 =>
    (stA 130 (v6 + (11 : Int32)) x31 μ).bind fun m33 =>
    nm (v6 + (-1 : Int32)) fun x35 =>
    kl19 v1 v2 v3 v4 v5 x35 m33
theorem b292_19_ok {L : Nat} (kl19 : Int32 → Int32 → Int32 → Int32 → Int32 → Int32 → Mem → Option (Mem × Int32)) (hk19 : (∀ (v1 : Int32) (v2 : Int32) (v3 : Int32) (v4 : Int32) (v5 : Int32) (v6 : Int32) (μ : Mem) (res : Mem × Int32), kl19 v1 v2 v3 v4 v5 v6 μ = some res → Sx 292 19 [(0, .ref 129), (1, .int v1), (2, .int v2), (3, .int v3), (4, .int v4), (5, .int v5), (6, .int v6)] [] 0 0 (mk L μ) (mk L res.1, some (.int res.2)))) (v1 : Int32) (v2 : Int32) (v3 : Int32) (v4 : Int32) (v5 : Int32) (v6 : Int32) (μ : Mem) (res : Mem × Int32) (h : b292_19 kl19 v1 v2 v3 v4 v5 v6 μ = some res) : Sx 292 19 [(0, .ref 129), (1, .int v1), (2, .int v2), (3, .int v3), (4, .int v4), (5, .int v5), (6, .int v6)] [] 0 0 (mk L μ) (mk L res.1, some (.int res.2)) := by
  unfold b292_19 at h
  refine sx_iload k292_19 rfl ?_
  by_cases hb1 : v6 < 0
  · rw [if_pos hb1] at h
    refine sx_if_lt (tgt := 47) k292_21 (by decide) (fun _ => ?_) (fun q => absurd hb1 q)
    refine sx_aload_n (i := 0) k292_47 rfl rfl ?_
    refine cx_getR (k := 0) k292_48 ow_292 fl_12_7 (by decide) sk_129 ft_11_0 sr_129_0 ?_
    refine sx_iconst (v := 0) k292_51 (by decide) ?_
    refine sx_bipush (v := 24) k292_52 (by decide) ?_
    obtain ⟨m2, e3, h⟩ := Option.bind_eq_some_iff.mp h
    refine cx_iast k292_54 sk_130 e3 ?_
    refine sx_aload_n (i := 0) k292_55 rfl rfl ?_
    refine cx_getR (k := 0) k292_56 ow_292 fl_12_7 (by decide) sk_129 ft_11_0 sr_129_0 ?_
    refine sx_iconst (v := 1) k292_59 (by decide) ?_
    refine sx_bipush (v := 12) k292_60 (by decide) ?_
    obtain ⟨m4, e5, h⟩ := Option.bind_eq_some_iff.mp h
    refine cx_iast k292_62 sk_130 e5 ?_
    refine sx_aload_n (i := 0) k292_63 rfl rfl ?_
    refine cx_getR (k := 0) k292_64 ow_292 fl_12_7 (by decide) sk_129 ft_11_0 sr_129_0 ?_
    refine sx_iconst (v := 2) k292_67 (by decide) ?_
    refine sx_sipush (v := 192) k292_68 (by decide) ?_
    refine sx_aload_n (i := 0) k292_71 rfl rfl ?_
    refine cx_getI (k := 58) k292_72 ow_292 fl_12_294 (by decide) sk_129 ft_11_58 ?_
    refine sx_bipush (v := 8) k292_75 (by decide) ?_
    refine sx_ishr k292_77 ?_
    refine sx_bipush (v := 63) k292_78 (by decide) ?_
    refine sx_iand k292_80 ?_
    refine sx_ior k292_81 ?_
    obtain ⟨m6, e7, h⟩ := Option.bind_eq_some_iff.mp h
    refine cx_iast k292_82 sk_130 e7 ?_
    refine sx_aload_n (i := 0) k292_83 rfl rfl ?_
    refine cx_getR (k := 0) k292_84 ow_292 fl_12_7 (by decide) sk_129 ft_11_0 sr_129_0 ?_
    refine sx_iconst (v := 3) k292_87 (by decide) ?_
    refine sx_aload_n (i := 0) k292_88 rfl rfl ?_
    refine cx_getI (k := 58) k292_89 ow_292 fl_12_294 (by decide) sk_129 ft_11_58 ?_
    refine sx_sipush (v := 255) k292_92 (by decide) ?_
    refine sx_iand k292_95 ?_
    obtain ⟨m8, e9, h⟩ := Option.bind_eq_some_iff.mp h
    refine cx_iast k292_96 sk_130 e9 ?_
    refine sx_aload_n (i := 0) k292_97 rfl rfl ?_
    refine cx_getR (k := 0) k292_98 ow_292 fl_12_7 (by decide) sk_129 ft_11_0 sr_129_0 ?_
    refine sx_iconst (v := 4) k292_101 (by decide) ?_
    refine sx_iload k292_102 rfl ?_
    refine sx_bipush (v := 7) k292_104 (by decide) ?_
    refine sx_isub k292_106 ?_
    refine sx_bipush (v := 8) k292_107 (by decide) ?_
    refine sx_ishr k292_109 ?_
    obtain ⟨m10, e11, h⟩ := Option.bind_eq_some_iff.mp h
    refine cx_iast k292_110 sk_130 e11 ?_
    refine sx_aload_n (i := 0) k292_111 rfl rfl ?_
    refine cx_getR (k := 0) k292_112 ow_292 fl_12_7 (by decide) sk_129 ft_11_0 sr_129_0 ?_
    refine sx_iconst (v := 5) k292_115 (by decide) ?_
    refine sx_iload k292_116 rfl ?_
    refine sx_bipush (v := 7) k292_118 (by decide) ?_
    refine sx_isub k292_120 ?_
    refine sx_sipush (v := 255) k292_121 (by decide) ?_
    refine sx_iand k292_124 ?_
    obtain ⟨m12, e13, h⟩ := Option.bind_eq_some_iff.mp h
    refine cx_iast k292_125 sk_130 e13 ?_
    refine sx_aload_n (i := 0) k292_126 rfl rfl ?_
    refine cx_getR (k := 0) k292_127 ow_292 fl_12_7 (by decide) sk_129 ft_11_0 sr_129_0 ?_
    refine sx_bipush (v := 6) k292_130 (by decide) ?_
    refine sx_bipush (v := 32) k292_132 (by decide) ?_
    refine sx_iload_n (i := 3) k292_134 rfl rfl ?_
    refine sx_ior k292_135 ?_
    obtain ⟨m14, e15, h⟩ := Option.bind_eq_some_iff.mp h
    refine cx_iast k292_136 sk_130 e15 ?_
    refine sx_aload_n (i := 0) k292_137 rfl rfl ?_
    refine cx_getR (k := 0) k292_138 ow_292 fl_12_7 (by decide) sk_129 ft_11_0 sr_129_0 ?_
    refine sx_bipush (v := 7) k292_141 (by decide) ?_
    refine sx_iload_n (i := 1) k292_143 rfl rfl ?_
    obtain ⟨m16, e17, h⟩ := Option.bind_eq_some_iff.mp h
    refine cx_iast k292_144 sk_130 e17 ?_
    refine sx_aload_n (i := 0) k292_145 rfl rfl ?_
    refine cx_getR (k := 0) k292_146 ow_292 fl_12_7 (by decide) sk_129 ft_11_0 sr_129_0 ?_
    refine sx_bipush (v := 8) k292_149 (by decide) ?_
    refine sx_iload_n (i := 2) k292_151 rfl rfl ?_
    obtain ⟨m18, e19, h⟩ := Option.bind_eq_some_iff.mp h
    refine cx_iast k292_152 sk_130 e19 ?_
    refine sx_aload_n (i := 0) k292_153 rfl rfl ?_
    refine cx_getR (k := 0) k292_154 ow_292 fl_12_7 (by decide) sk_129 ft_11_0 sr_129_0 ?_
    refine sx_bipush (v := 9) k292_157 (by decide) ?_
    refine sx_iconst (v := 0) k292_159 (by decide) ?_
    obtain ⟨m20, e21, h⟩ := Option.bind_eq_some_iff.mp h
    refine cx_iast k292_160 sk_130 e21 ?_
    refine sx_aload_n (i := 0) k292_161 rfl rfl ?_
    refine cx_getR (k := 0) k292_162 ow_292 fl_12_7 (by decide) sk_129 ft_11_0 sr_129_0 ?_
    refine sx_bipush (v := 10) k292_165 (by decide) ?_
    refine sx_iconst (v := 0) k292_167 (by decide) ?_
    obtain ⟨m22, e23, h⟩ := Option.bind_eq_some_iff.mp h
    refine cx_iast k292_168 sk_130 e23 ?_
    refine sx_aload_n (i := 0) k292_169 rfl rfl ?_
    refine cx_getR (k := 0) k292_170 ow_292 fl_12_7 (by decide) sk_129 ft_11_0 sr_129_0 ?_
    refine sx_iconst (v := 0) k292_173 (by decide) ?_
    refine sx_bipush (v := 11) k292_174 (by decide) ?_
    refine sx_iload k292_176 rfl ?_
    refine sx_iadd k292_178 ?_
    obtain ⟨r24, e25, h⟩ := Option.bind_eq_some_iff.mp h
    refine cx_S (sk := []) (vs := [.ref 130, .int (0 : Int32), .int ((11 : Int32) + v4)]) st_292_245 k292_179 ow_292 cl_12_11 (by decide) rfl (Nat.le_of_ble_eq_true rfl) (ok245 130 (0 : Int32) ((11 : Int32) + v4) sk_130 _ _ e25) (sk3 := [.int r24.2]) rfl rfl ?_
    refine cx_istore (lo2 := [(6, .int r24.2), (0, .ref 129), (1, .int v1), (2, .int v2), (3, .int v3), (4, .int v4), (5, .int v5)]) k292_182 (by rw [mx_292]; decide) rfl ?_
    refine sx_aload_n (i := 0) k292_184 rfl rfl ?_
    refine cx_getR (k := 0) k292_185 ow_292 fl_12_7 (by decide) sk_129 ft_11_0 sr_129_0 ?_
    refine sx_bipush (v := 11) k292_188 (by decide) ?_
    refine sx_iload k292_190 rfl ?_
    refine sx_iadd k292_192 ?_
    refine sx_iload k292_193 rfl ?_
    refine sx_bipush (v := 8) k292_195 (by decide) ?_
    refine sx_ishr k292_197 ?_
    obtain ⟨m26, e27, h⟩ := Option.bind_eq_some_iff.mp h
    refine cx_iast k292_198 sk_130 e27 ?_
    refine sx_aload_n (i := 0) k292_199 rfl rfl ?_
    refine cx_getR (k := 0) k292_200 ow_292 fl_12_7 (by decide) sk_129 ft_11_0 sr_129_0 ?_
    refine sx_bipush (v := 12) k292_203 (by decide) ?_
    refine sx_iload k292_205 rfl ?_
    refine sx_iadd k292_207 ?_
    refine sx_iload k292_208 rfl ?_
    refine sx_sipush (v := 255) k292_210 (by decide) ?_
    refine sx_iand k292_213 ?_
    obtain ⟨m28, e29, h⟩ := Option.bind_eq_some_iff.mp h
    refine cx_iast k292_214 sk_130 e29 ?_
    refine sx_aload_n (i := 0) k292_215 rfl rfl ?_
    refine cx_getI (k := 58) k292_216 ow_292 fl_12_294 (by decide) sk_129 ft_11_58 ?_
    refine sx_bipush (v := 64) k292_219 (by decide) ?_
    refine sx_irem k292_221 (by decide) ?_
    refine cx_nm h (fun x30 h => ?_)
    refine cx_istore (lo2 := [(7, .int x30), (6, .int r24.2), (0, .ref 129), (1, .int v1), (2, .int v2), (3, .int v3), (4, .int v4), (5, .int v5)]) k292_222 (by rw [mx_292]; decide) rfl ?_
    refine sx_iconst (v := 0) k292_224 (by decide) ?_
    refine cx_istore (lo2 := [(8, .int (0 : Int32)), (7, .int x30), (6, .int r24.2), (0, .ref 129), (1, .int v1), (2, .int v2), (3, .int v3), (4, .int v4), (5, .int v5)]) k292_225 (by rw [mx_292]; decide) rfl ?_
    refine sx_pick (lo2 := [(0, .ref 129), (1, .int v1), (2, .int v2), (5, .int v5), (7, .int x30), (8, .int (0 : Int32))]) [3, 4, 5, 8, 1, 0] rfl ?_
    exact l292_227_ok gF v1 v2 v5 x30 (0 : Int32) _ _ h
  · rw [if_neg hb1] at h
    refine sx_if_lt (tgt := 47) k292_21 (by decide) (fun q => absurd q hb1) (fun _ => ?_)
    refine sx_aload_n (i := 0) k292_24 rfl rfl ?_
    refine cx_getR (k := 0) k292_25 ow_292 fl_12_7 (by decide) sk_129 ft_11_0 sr_129_0 ?_
    refine sx_iload k292_28 rfl ?_
    refine sx_bipush (v := 11) k292_30 (by decide) ?_
    refine sx_iadd k292_32 ?_
    refine sx_aload_n (i := 0) k292_33 rfl rfl ?_
    refine cx_getR (k := 0) k292_34 ow_292 fl_12_7 (by decide) sk_129 ft_11_0 sr_129_0 ?_
    refine sx_iload k292_37 rfl ?_
    obtain ⟨x31, e32, h⟩ := Option.bind_eq_some_iff.mp h
    refine cx_iald k292_39 sk_130 e32 ?_
    obtain ⟨m33, e34, h⟩ := Option.bind_eq_some_iff.mp h
    refine cx_iast k292_40 sk_130 e34 ?_
    refine cx_iinc (c := -1) (lo2 := fun x35 => [(6, .int x35), (0, .ref 129), (1, .int v1), (2, .int v2), (3, .int v3), (4, .int v4), (5, .int v5)]) k292_41 rfl (by decide) (by rw [mx_292]; decide) (fun _ => rfl) h (fun x35 h => ?_)
    refine sx_goto (tgt := 19) k292_44 (by decide) ?_
    refine sx_pick (lo2 := [(0, .ref 129), (1, .int v1), (2, .int v2), (3, .int v3), (4, .int v4), (5, .int v5), (6, .int x35)]) [1, 2, 3, 4, 5, 6, 0] rfl ?_
    exact hk19 v1 v2 v3 v4 v5 x35 _ _ h
def l292_19 : Nat → Int32 × Int32 × Int32 × Int32 × Int32 × Int32 × Mem → Option (Mem × Int32) :=
  fixN (fun self x => b292_19 (fun v1 v2 v3 v4 v5 v6 μ => self (v1, v2, v3, v4, v5, v6, μ)) (x.1) (x.2.1) (x.2.2.1) (x.2.2.2.1) (x.2.2.2.2.1) (x.2.2.2.2.2.1) (x.2.2.2.2.2.2))
theorem l292_19_ok {L : Nat} (n : Nat) (v1 : Int32) (v2 : Int32) (v3 : Int32) (v4 : Int32) (v5 : Int32) (v6 : Int32) (μ : Mem) (res : Mem × Int32) (h : l292_19 n (v1, v2, v3, v4, v5, v6, μ) = some res) : Sx 292 19 [(0, .ref 129), (1, .int v1), (2, .int v2), (3, .int v3), (4, .int v4), (5, .int v5), (6, .int v6)] [] 0 0 (mk L μ) (mk L res.1, some (.int res.2)) := by
  have key := fixN_ind (P := fun x res => Sx 292 19 [(0, .ref 129), (1, .int (x.1)), (2, .int (x.2.1)), (3, .int (x.2.2.1)), (4, .int (x.2.2.2.1)), (5, .int (x.2.2.2.2.1)), (6, .int (x.2.2.2.2.2.1))] [] 0 0 (mk L (x.2.2.2.2.2.2)) (mk L res.1, some (.int res.2))) (F := fun self x => b292_19 (fun v1 v2 v3 v4 v5 v6 μ => self (v1, v2, v3, v4, v5, v6, μ)) (x.1) (x.2.1) (x.2.2.1) (x.2.2.2.1) (x.2.2.2.2.1) (x.2.2.2.2.2.1) (x.2.2.2.2.2.2)) (fun self hself x res h => b292_19_ok (fun v1 v2 v3 v4 v5 v6 μ => self (v1, v2, v3, v4, v5, v6, μ)) (fun v1 v2 v3 v4 v5 v6 μ res hh => hself (v1, v2, v3, v4, v5, v6, μ) res hh) (x.1) (x.2.1) (x.2.2.1) (x.2.2.2.1) (x.2.2.2.2.1) (x.2.2.2.2.2.1) (x.2.2.2.2.2.2) res h) n (v1, v2, v3, v4, v5, v6, μ) res h
  exact key
/-- CraftHouseModel.packetOf(III)I -/
def f292 (p1 : Int32) (p2 : Int32) (p3 : Int32) (μ : Mem) : Option (Mem × Int32) :=
  nm ((μ.1 129 1) + (13 : Int32)) fun x1 =>
  nm ((μ.1 129 1) - (1 : Int32)) fun x2 =>
  l292_19 gF (p1, p2, p3, (μ.1 129 1), x1, x2, μ)
theorem ok292 {L : Nat} (p1 : Int32) (p2 : Int32) (p3 : Int32) (μ : Mem) (res : Mem × Int32) (h : f292 p1 p2 p3 μ = some res) : Mx 292 [.ref 129, .int p1, .int p2, .int p3] (mk L μ) (mk L res.1, some (.int res.2)) := by
  refine Mx_of ml_292 (by rw [mx_292]; exact Nat.le_of_ble_eq_true rfl) ?_
  show Sx 292 0 [(0, .ref 129), (1, .int p1), (2, .int p2), (3, .int p3)] [] 0 0 (mk L μ) _
  unfold f292 at h
  refine sx_aload_n (i := 0) k292_0 rfl rfl ?_
  refine cx_getI (k := 1) k292_1 ow_292 fl_12_3 (by decide) sk_129 ft_11_1 ?_
  refine cx_istore (lo2 := [(4, .int (μ.1 129 1)), (0, .ref 129), (1, .int p1), (2, .int p2), (3, .int p3)]) k292_4 (by rw [mx_292]; decide) rfl ?_
  refine sx_iload k292_6 rfl ?_
  refine sx_bipush (v := 13) k292_8 (by decide) ?_
  refine sx_iadd k292_10 ?_
  refine cx_nm h (fun x1 h => ?_)
  refine cx_istore (lo2 := [(5, .int x1), (4, .int (μ.1 129 1)), (0, .ref 129), (1, .int p1), (2, .int p2), (3, .int p3)]) k292_11 (by rw [mx_292]; decide) rfl ?_
  refine sx_iload k292_13 rfl ?_
  refine sx_iconst (v := 1) k292_15 (by decide) ?_
  refine sx_isub k292_16 ?_
  refine cx_nm h (fun x2 h => ?_)
  refine cx_istore (lo2 := [(6, .int x2), (5, .int x1), (4, .int (μ.1 129 1)), (0, .ref 129), (1, .int p1), (2, .int p2), (3, .int p3)]) k292_17 (by rw [mx_292]; decide) rfl ?_
  refine sx_pick (lo2 := [(0, .ref 129), (1, .int p1), (2, .int p2), (3, .int p3), (4, .int (μ.1 129 1)), (5, .int x1), (6, .int x2)]) [3, 4, 5, 6, 2, 1, 0] rfl ?_
  exact l292_19_ok gF p1 p2 p3 (μ.1 129 1) x1 x2 _ _ h
theorem k293_0 : decode (gb 293) 0 = .ok (.iload_n 1, 1) := by decide +kernel
theorem k293_1 : decode (gb 293) 1 = .ok (.invokestatic 318, 3) := by decide +kernel
theorem k293_4 : decode (gb 293) 4 = .ok (.ifCond .eq 24, 3) := by decide +kernel
theorem k293_7 : decode (gb 293) 7 = .ok (.iload_n 2, 1) := by decide +kernel
theorem k293_8 : decode (gb 293) 8 = .ok (.invokestatic 318, 3) := by decide +kernel
theorem k293_11 : decode (gb 293) 11 = .ok (.ifCond .eq 17, 3) := by decide +kernel
theorem k293_14 : decode (gb 293) 14 = .ok (.iload_n 3, 1) := by decide +kernel
theorem k293_15 : decode (gb 293) 15 = .ok (.ifCond .lt 13, 3) := by decide +kernel
theorem k293_18 : decode (gb 293) 18 = .ok (.iload_n 3, 1) := by decide +kernel
theorem k293_19 : decode (gb 293) 19 = .ok (.bipush 15, 2) := by decide +kernel
theorem k293_21 : decode (gb 293) 21 = .ok (.if_icmp .gt 7, 3) := by decide +kernel
theorem k293_24 : decode (gb 293) 24 = .ok (.iconst 1, 1) := by decide +kernel
theorem k293_25 : decode (gb 293) 25 = .ok (.goto 4, 3) := by decide +kernel
theorem k293_28 : decode (gb 293) 28 = .ok (.iconst 0, 1) := by decide +kernel
theorem k293_29 : decode (gb 293) 29 = .ok (.ireturn, 1) := by decide +kernel
/-- CraftHouseModel.isAsk(III)Z -/
def f293 (p1 : Int32) (p2 : Int32) (p3 : Int32) (μ : Mem) : Option (Mem × Int32) :=
  (f291 p1 μ).bind fun r1 =>
  if r1.2 = 0 then
    rtZ (0 : Int32) r1.1
  else
    (f291 p2 r1.1).bind fun r4 =>
    if r4.2 = 0 then
      rtZ (0 : Int32) r4.1
    else
      if p3 < 0 then
        rtZ (0 : Int32) r4.1
      else
        if (15 : Int32) < p3 then
          rtZ (0 : Int32) r4.1
        else
          rtZ (1 : Int32) r4.1
theorem ok293 {L : Nat} (p1 : Int32) (p2 : Int32) (p3 : Int32) (μ : Mem) (res : Mem × Int32) (h : f293 p1 p2 p3 μ = some res) : Mx 293 [.ref 129, .int p1, .int p2, .int p3] (mk L μ) (mk L res.1, some (.int res.2)) := by
  refine Mx_of ml_293 (by rw [mx_293]; exact Nat.le_of_ble_eq_true rfl) ?_
  show Sx 293 0 [(0, .ref 129), (1, .int p1), (2, .int p2), (3, .int p3)] [] 0 0 (mk L μ) _
  unfold f293 at h
  refine sx_iload_n (i := 1) k293_0 rfl rfl ?_
  obtain ⟨r1, e2, h⟩ := Option.bind_eq_some_iff.mp h
  refine cx_S (sk := []) (vs := [.int p1]) st_293_291 k293_1 ow_293 cl_12_318 (by decide) rfl (Nat.le_of_ble_eq_true rfl) (ok291 p1 _ _ e2) (sk3 := [.int r1.2]) rfl rfl ?_
  by_cases hb3 : r1.2 = 0
  · rw [if_pos hb3] at h
    refine sx_if_eq (tgt := 28) k293_4 (by decide) (fun _ => ?_) (fun q => absurd hb3 q)
    refine sx_iconst (v := 0) k293_28 (by decide) ?_
    exact cx_retz k293_29 rt_293 h
  · rw [if_neg hb3] at h
    refine sx_if_eq (tgt := 28) k293_4 (by decide) (fun q => absurd q hb3) (fun _ => ?_)
    refine sx_iload_n (i := 2) k293_7 rfl rfl ?_
    obtain ⟨r4, e5, h⟩ := Option.bind_eq_some_iff.mp h
    refine cx_S (sk := []) (vs := [.int p2]) st_293_291 k293_8 ow_293 cl_12_318 (by decide) rfl (Nat.le_of_ble_eq_true rfl) (ok291 p2 _ _ e5) (sk3 := [.int r4.2]) rfl rfl ?_
    by_cases hb6 : r4.2 = 0
    · rw [if_pos hb6] at h
      refine sx_if_eq (tgt := 28) k293_11 (by decide) (fun _ => ?_) (fun q => absurd hb6 q)
      refine sx_iconst (v := 0) k293_28 (by decide) ?_
      exact cx_retz k293_29 rt_293 h
    · rw [if_neg hb6] at h
      refine sx_if_eq (tgt := 28) k293_11 (by decide) (fun q => absurd q hb6) (fun _ => ?_)
      refine sx_iload_n (i := 3) k293_14 rfl rfl ?_
      by_cases hb7 : p3 < 0
      · rw [if_pos hb7] at h
        refine sx_if_lt (tgt := 28) k293_15 (by decide) (fun _ => ?_) (fun q => absurd hb7 q)
        refine sx_iconst (v := 0) k293_28 (by decide) ?_
        exact cx_retz k293_29 rt_293 h
      · rw [if_neg hb7] at h
        refine sx_if_lt (tgt := 28) k293_15 (by decide) (fun q => absurd q hb7) (fun _ => ?_)
        refine sx_iload_n (i := 3) k293_18 rfl rfl ?_
        refine sx_bipush (v := 15) k293_19 (by decide) ?_
        by_cases hb8 : (15 : Int32) < p3
        · rw [if_pos hb8] at h
          refine sx_icmp_gt (tgt := 28) k293_21 (by decide) (fun _ => ?_) (fun q => absurd hb8 q)
          refine sx_iconst (v := 0) k293_28 (by decide) ?_
          exact cx_retz k293_29 rt_293 h
        · rw [if_neg hb8] at h
          refine sx_icmp_gt (tgt := 28) k293_21 (by decide) (fun q => absurd q hb8) (fun _ => ?_)
          refine sx_iconst (v := 1) k293_24 (by decide) ?_
          refine sx_goto (tgt := 29) k293_25 (by decide) ?_
          exact cx_retz k293_29 rt_293 h
theorem k294_0 : decode (gb 294) 0 = .ok (.aload_n 0, 1) := by decide +kernel
theorem k294_1 : decode (gb 294) 1 = .ok (.iload_n 1, 1) := by decide +kernel
theorem k294_2 : decode (gb 294) 2 = .ok (.iload_n 2, 1) := by decide +kernel
theorem k294_3 : decode (gb 294) 3 = .ok (.iload_n 3, 1) := by decide +kernel
theorem k294_4 : decode (gb 294) 4 = .ok (.invokevirtual 321, 3) := by decide +kernel
theorem k294_7 : decode (gb 294) 7 = .ok (.ifCond .ne 5, 3) := by decide +kernel
theorem k294_10 : decode (gb 294) 10 = .ok (.iconst (-1), 1) := by decide +kernel
theorem k294_11 : decode (gb 294) 11 = .ok (.ireturn, 1) := by decide +kernel
theorem k294_12 : decode (gb 294) 12 = .ok (.aload_n 0, 1) := by decide +kernel
theorem k294_13 : decode (gb 294) 13 = .ok (.getfield 3, 3) := by decide +kernel
theorem k294_16 : decode (gb 294) 16 = .ok (.bipush 13, 2) := by decide +kernel
theorem k294_18 : decode (gb 294) 18 = .ok (.iadd, 1) := by decide +kernel
theorem k294_19 : decode (gb 294) 19 = .ok (.bipush 100, 2) := by decide +kernel
theorem k294_21 : decode (gb 294) 21 = .ok (.if_icmp .le 11, 3) := by decide +kernel
theorem k294_24 : decode (gb 294) 24 = .ok (.aload_n 0, 1) := by decide +kernel
theorem k294_25 : decode (gb 294) 25 = .ok (.iconst 0, 1) := by decide +kernel
theorem k294_26 : decode (gb 294) 26 = .ok (.putfield 3, 3) := by decide +kernel
theorem k294_29 : decode (gb 294) 29 = .ok (.bipush (-3), 2) := by decide +kernel
theorem k294_31 : decode (gb 294) 31 = .ok (.ireturn, 1) := by decide +kernel
theorem k294_32 : decode (gb 294) 32 = .ok (.aload_n 0, 1) := by decide +kernel
theorem k294_33 : decode (gb 294) 33 = .ok (.iload_n 1, 1) := by decide +kernel
theorem k294_34 : decode (gb 294) 34 = .ok (.iload_n 2, 1) := by decide +kernel
theorem k294_35 : decode (gb 294) 35 = .ok (.iload_n 3, 1) := by decide +kernel
theorem k294_36 : decode (gb 294) 36 = .ok (.invokevirtual 324, 3) := by decide +kernel
theorem k294_39 : decode (gb 294) 39 = .ok (.istore 4, 2) := by decide +kernel
theorem k294_41 : decode (gb 294) 41 = .ok (.aload_n 0, 1) := by decide +kernel
theorem k294_42 : decode (gb 294) 42 = .ok (.dup, 1) := by decide +kernel
theorem k294_43 : decode (gb 294) 43 = .ok (.getfield 3, 3) := by decide +kernel
theorem k294_46 : decode (gb 294) 46 = .ok (.bipush 13, 2) := by decide +kernel
theorem k294_48 : decode (gb 294) 48 = .ok (.iadd, 1) := by decide +kernel
theorem k294_49 : decode (gb 294) 49 = .ok (.putfield 3, 3) := by decide +kernel
theorem k294_52 : decode (gb 294) 52 = .ok (.iload 4, 2) := by decide +kernel
theorem k294_54 : decode (gb 294) 54 = .ok (.ireturn, 1) := by decide +kernel
/-- CraftHouseModel.build(III)I -/
def f294 (p1 : Int32) (p2 : Int32) (p3 : Int32) (μ : Mem) : Option (Mem × Int32) :=
  (f293 p1 p2 p3 μ).bind fun r1 =>
  if r1.2 = 0 then
    some (r1.1, (-1 : Int32))
  else
    if ((r1.1.1 129 1) + (13 : Int32)) ≤ (100 : Int32) then
      (f292 p1 p2 p3 r1.1).bind fun r5 =>
      (pfI 129 1 ((r5.1.1 129 1) + (13 : Int32)) r5.1).bind fun m7 =>
      some (m7, r5.2)
    else
      (pfI 129 1 (0 : Int32) r1.1).bind fun m9 =>
      some (m9, (-3 : Int32))
theorem ok294 {L : Nat} (p1 : Int32) (p2 : Int32) (p3 : Int32) (μ : Mem) (res : Mem × Int32) (h : f294 p1 p2 p3 μ = some res) : Mx 294 [.ref 129, .int p1, .int p2, .int p3] (mk L μ) (mk L res.1, some (.int res.2)) := by
  refine Mx_of ml_294 (by rw [mx_294]; exact Nat.le_of_ble_eq_true rfl) ?_
  show Sx 294 0 [(0, .ref 129), (1, .int p1), (2, .int p2), (3, .int p3)] [] 0 0 (mk L μ) _
  unfold f294 at h
  refine sx_aload_n (i := 0) k294_0 rfl rfl ?_
  refine sx_iload_n (i := 1) k294_1 rfl rfl ?_
  refine sx_iload_n (i := 2) k294_2 rfl rfl ?_
  refine sx_iload_n (i := 3) k294_3 rfl rfl ?_
  obtain ⟨r1, e2, h⟩ := Option.bind_eq_some_iff.mp h
  refine cx_V (sk := []) (vs := [.int p1, .int p2, .int p3]) st_294_293 k294_4 ow_294 cl_12_321 (by decide) rfl (Nat.le_of_ble_eq_true rfl) sk_129 (ok293 p1 p2 p3 _ _ e2) (sk3 := [.int r1.2]) rfl rfl ?_
  by_cases hb3 : r1.2 = 0
  · rw [if_pos hb3] at h
    refine sx_if_ne (tgt := 12) k294_7 (by decide) (fun q => absurd hb3 q) (fun _ => ?_)
    refine sx_iconst (v := -1) k294_10 (by decide) ?_
    exact cx_reti k294_11 rt_294 h
  · rw [if_neg hb3] at h
    refine sx_if_ne (tgt := 12) k294_7 (by decide) (fun _ => ?_) (fun q => absurd q hb3)
    refine sx_aload_n (i := 0) k294_12 rfl rfl ?_
    refine cx_getI (k := 1) k294_13 ow_294 fl_12_3 (by decide) sk_129 ft_11_1 ?_
    refine sx_bipush (v := 13) k294_16 (by decide) ?_
    refine sx_iadd k294_18 ?_
    refine sx_bipush (v := 100) k294_19 (by decide) ?_
    by_cases hb4 : ((r1.1.1 129 1) + (13 : Int32)) ≤ (100 : Int32)
    · rw [if_pos hb4] at h
      refine sx_icmp_le (tgt := 32) k294_21 (by decide) (fun _ => ?_) (fun q => absurd hb4 q)
      refine sx_aload_n (i := 0) k294_32 rfl rfl ?_
      refine sx_iload_n (i := 1) k294_33 rfl rfl ?_
      refine sx_iload_n (i := 2) k294_34 rfl rfl ?_
      refine sx_iload_n (i := 3) k294_35 rfl rfl ?_
      obtain ⟨r5, e6, h⟩ := Option.bind_eq_some_iff.mp h
      refine cx_V (sk := []) (vs := [.int p1, .int p2, .int p3]) st_294_292 k294_36 ow_294 cl_12_324 (by decide) rfl (Nat.le_of_ble_eq_true rfl) sk_129 (ok292 p1 p2 p3 _ _ e6) (sk3 := [.int r5.2]) rfl rfl ?_
      refine cx_istore (lo2 := [(4, .int r5.2), (0, .ref 129), (1, .int p1), (2, .int p2), (3, .int p3)]) k294_39 (by rw [mx_294]; decide) rfl ?_
      refine sx_aload_n (i := 0) k294_41 rfl rfl ?_
      refine sx_dup k294_42 rfl ?_
      refine cx_getI (k := 1) k294_43 ow_294 fl_12_3 (by decide) sk_129 ft_11_1 ?_
      refine sx_bipush (v := 13) k294_46 (by decide) ?_
      refine sx_iadd k294_48 ?_
      obtain ⟨m7, e8, h⟩ := Option.bind_eq_some_iff.mp h
      refine cx_putI (k := 1) k294_49 ow_294 fl_12_3 (by decide) sk_129 nf_11_1 fu_11_1 e8 ?_
      refine sx_iload k294_52 rfl ?_
      exact cx_reti k294_54 rt_294 h
    · rw [if_neg hb4] at h
      refine sx_icmp_le (tgt := 32) k294_21 (by decide) (fun q => absurd q hb4) (fun _ => ?_)
      refine sx_aload_n (i := 0) k294_24 rfl rfl ?_
      refine sx_iconst (v := 0) k294_25 (by decide) ?_
      obtain ⟨m9, e10, h⟩ := Option.bind_eq_some_iff.mp h
      refine cx_putI (k := 1) k294_26 ow_294 fl_12_3 (by decide) sk_129 nf_11_1 fu_11_1 e10 ?_
      refine sx_bipush (v := -3) k294_29 (by decide) ?_
      exact cx_reti k294_31 rt_294 h
theorem k295_0 : decode (gb 295) 0 = .ok (.aload_n 0, 1) := by decide +kernel
theorem k295_1 : decode (gb 295) 1 = .ok (.iload_n 1, 1) := by decide +kernel
theorem k295_2 : decode (gb 295) 2 = .ok (.iload_n 2, 1) := by decide +kernel
theorem k295_3 : decode (gb 295) 3 = .ok (.iload_n 3, 1) := by decide +kernel
theorem k295_4 : decode (gb 295) 4 = .ok (.invokevirtual 321, 3) := by decide +kernel
theorem k295_7 : decode (gb 295) 7 = .ok (.ifCond .ne 5, 3) := by decide +kernel
theorem k295_10 : decode (gb 295) 10 = .ok (.iconst (-1), 1) := by decide +kernel
theorem k295_11 : decode (gb 295) 11 = .ok (.ireturn, 1) := by decide +kernel
theorem k295_12 : decode (gb 295) 12 = .ok (.iload 4, 2) := by decide +kernel
theorem k295_14 : decode (gb 295) 14 = .ok (.ifCond .ne 15, 3) := by decide +kernel
theorem k295_17 : decode (gb 295) 17 = .ok (.aload_n 0, 1) := by decide +kernel
theorem k295_18 : decode (gb 295) 18 = .ok (.getfield 195, 3) := by decide +kernel
theorem k295_21 : decode (gb 295) 21 = .ok (.iconst 4, 1) := by decide +kernel
theorem k295_22 : decode (gb 295) 22 = .ok (.if_icmp .lt 7, 3) := by decide +kernel
theorem k295_25 : decode (gb 295) 25 = .ok (.iconst 1, 1) := by decide +kernel
theorem k295_26 : decode (gb 295) 26 = .ok (.goto 4, 3) := by decide +kernel
theorem k295_29 : decode (gb 295) 29 = .ok (.iconst 0, 1) := by decide +kernel
theorem k295_30 : decode (gb 295) 30 = .ok (.istore 5, 2) := by decide +kernel
theorem k295_32 : decode (gb 295) 32 = .ok (.aload_n 0, 1) := by decide +kernel
theorem k295_33 : decode (gb 295) 33 = .ok (.getfield 3, 3) := by decide +kernel
theorem k295_36 : decode (gb 295) 36 = .ok (.bipush 13, 2) := by decide +kernel
theorem k295_38 : decode (gb 295) 38 = .ok (.iadd, 1) := by decide +kernel
theorem k295_39 : decode (gb 295) 39 = .ok (.bipush 60, 2) := by decide +kernel
theorem k295_41 : decode (gb 295) 41 = .ok (.if_icmp .gt 17, 3) := by decide +kernel
theorem k295_44 : decode (gb 295) 44 = .ok (.iload 4, 2) := by decide +kernel
theorem k295_46 : decode (gb 295) 46 = .ok (.ifCond .ne 16, 3) := by decide +kernel
theorem k295_49 : decode (gb 295) 49 = .ok (.aload_n 0, 1) := by decide +kernel
theorem k295_50 : decode (gb 295) 50 = .ok (.getfield 213, 3) := by decide +kernel
theorem k295_53 : decode (gb 295) 53 = .ok (.bipush 32, 2) := by decide +kernel
theorem k295_55 : decode (gb 295) 55 = .ok (.if_icmp .ne 7, 3) := by decide +kernel
theorem k295_58 : decode (gb 295) 58 = .ok (.iconst 1, 1) := by decide +kernel
theorem k295_59 : decode (gb 295) 59 = .ok (.goto 4, 3) := by decide +kernel
theorem k295_62 : decode (gb 295) 62 = .ok (.iconst 0, 1) := by decide +kernel
theorem k295_63 : decode (gb 295) 63 = .ok (.istore 6, 2) := by decide +kernel
theorem k295_65 : decode (gb 295) 65 = .ok (.iload 5, 2) := by decide +kernel
theorem k295_67 : decode (gb 295) 67 = .ok (.ifCond .ne 8, 3) := by decide +kernel
theorem k295_70 : decode (gb 295) 70 = .ok (.iload 6, 2) := by decide +kernel
theorem k295_72 : decode (gb 295) 72 = .ok (.ifCond .eq 21, 3) := by decide +kernel
theorem k295_75 : decode (gb 295) 75 = .ok (.aload_n 0, 1) := by decide +kernel
theorem k295_76 : decode (gb 295) 76 = .ok (.iconst 0, 1) := by decide +kernel
theorem k295_77 : decode (gb 295) 77 = .ok (.putfield 3, 3) := by decide +kernel
theorem k295_80 : decode (gb 295) 80 = .ok (.iload 5, 2) := by decide +kernel
theorem k295_82 : decode (gb 295) 82 = .ok (.ifCond .eq 8, 3) := by decide +kernel
theorem k295_85 : decode (gb 295) 85 = .ok (.bipush (-2), 2) := by decide +kernel
theorem k295_87 : decode (gb 295) 87 = .ok (.goto 5, 3) := by decide +kernel
theorem k295_90 : decode (gb 295) 90 = .ok (.bipush (-3), 2) := by decide +kernel
theorem k295_92 : decode (gb 295) 92 = .ok (.ireturn, 1) := by decide +kernel
theorem k295_93 : decode (gb 295) 93 = .ok (.aload_n 0, 1) := by decide +kernel
theorem k295_94 : decode (gb 295) 94 = .ok (.iload_n 1, 1) := by decide +kernel
theorem k295_95 : decode (gb 295) 95 = .ok (.iload_n 2, 1) := by decide +kernel
theorem k295_96 : decode (gb 295) 96 = .ok (.iload_n 3, 1) := by decide +kernel
theorem k295_97 : decode (gb 295) 97 = .ok (.invokevirtual 324, 3) := by decide +kernel
theorem k295_100 : decode (gb 295) 100 = .ok (.istore 7, 2) := by decide +kernel
theorem k295_102 : decode (gb 295) 102 = .ok (.aload_n 0, 1) := by decide +kernel
theorem k295_103 : decode (gb 295) 103 = .ok (.iconst 0, 1) := by decide +kernel
theorem k295_104 : decode (gb 295) 104 = .ok (.putfield 3, 3) := by decide +kernel
theorem k295_107 : decode (gb 295) 107 = .ok (.iload 4, 2) := by decide +kernel
theorem k295_109 : decode (gb 295) 109 = .ok (.ifCond .eq 42, 3) := by decide +kernel
theorem k295_112 : decode (gb 295) 112 = .ok (.aload_n 0, 1) := by decide +kernel
theorem k295_113 : decode (gb 295) 113 = .ok (.iload 7, 2) := by decide +kernel
theorem k295_115 : decode (gb 295) 115 = .ok (.iconst 2, 1) := by decide +kernel
theorem k295_116 : decode (gb 295) 116 = .ok (.invokevirtual 241, 3) := by decide +kernel
theorem k295_119 : decode (gb 295) 119 = .ok (.aload_n 0, 1) := by decide +kernel
theorem k295_120 : decode (gb 295) 120 = .ok (.bipush 32, 2) := by decide +kernel
theorem k295_122 : decode (gb 295) 122 = .ok (.iconst 0, 1) := by decide +kernel
theorem k295_123 : decode (gb 295) 123 = .ok (.aload_n 0, 1) := by decide +kernel
theorem k295_124 : decode (gb 295) 124 = .ok (.getfield 303, 3) := by decide +kernel
theorem k295_127 : decode (gb 295) 127 = .ok (.bipush 100, 2) := by decide +kernel
theorem k295_129 : decode (gb 295) 129 = .ok (.iload 7, 2) := by decide +kernel
theorem k295_131 : decode (gb 295) 131 = .ok (.bipush 64, 2) := by decide +kernel
theorem k295_133 : decode (gb 295) 133 = .ok (.irem, 1) := by decide +kernel
theorem k295_134 : decode (gb 295) 134 = .ok (.imul, 1) := by decide +kernel
theorem k295_135 : decode (gb 295) 135 = .ok (.aload_n 0, 1) := by decide +kernel
theorem k295_136 : decode (gb 295) 136 = .ok (.getfield 306, 3) := by decide +kernel
theorem k295_139 : decode (gb 295) 139 = .ok (.iload 7, 2) := by decide +kernel
theorem k295_141 : decode (gb 295) 141 = .ok (.bipush 64, 2) := by decide +kernel
theorem k295_143 : decode (gb 295) 143 = .ok (.irem, 1) := by decide +kernel
theorem k295_144 : decode (gb 295) 144 = .ok (.iaload, 1) := by decide +kernel
theorem k295_145 : decode (gb 295) 145 = .ok (.invokevirtual 185, 3) := by decide +kernel
theorem k295_148 : decode (gb 295) 148 = .ok (.goto 90, 3) := by decide +kernel
theorem k295_151 : decode (gb 295) 151 = .ok (.aload_n 0, 1) := by decide +kernel
theorem k295_152 : decode (gb 295) 152 = .ok (.iload 7, 2) := by decide +kernel
theorem k295_154 : decode (gb 295) 154 = .ok (.iconst 1, 1) := by decide +kernel
theorem k295_155 : decode (gb 295) 155 = .ok (.invokevirtual 241, 3) := by decide +kernel
theorem k295_158 : decode (gb 295) 158 = .ok (.aload_n 0, 1) := by decide +kernel
theorem k295_159 : decode (gb 295) 159 = .ok (.getfield 219, 3) := by decide +kernel
theorem k295_162 : decode (gb 295) 162 = .ok (.aload_n 0, 1) := by decide +kernel
theorem k295_163 : decode (gb 295) 163 = .ok (.getfield 213, 3) := by decide +kernel
theorem k295_166 : decode (gb 295) 166 = .ok (.iload 7, 2) := by decide +kernel
theorem k295_168 : decode (gb 295) 168 = .ok (.iastore, 1) := by decide +kernel
theorem k295_169 : decode (gb 295) 169 = .ok (.aload_n 0, 1) := by decide +kernel
theorem k295_170 : decode (gb 295) 170 = .ok (.getfield 222, 3) := by decide +kernel
theorem k295_173 : decode (gb 295) 173 = .ok (.aload_n 0, 1) := by decide +kernel
theorem k295_174 : decode (gb 295) 174 = .ok (.getfield 213, 3) := by decide +kernel
theorem k295_177 : decode (gb 295) 177 = .ok (.aload_n 0, 1) := by decide +kernel
theorem k295_178 : decode (gb 295) 178 = .ok (.getfield 306, 3) := by decide +kernel
theorem k295_181 : decode (gb 295) 181 = .ok (.iload 7, 2) := by decide +kernel
theorem k295_183 : decode (gb 295) 183 = .ok (.bipush 64, 2) := by decide +kernel
theorem k295_185 : decode (gb 295) 185 = .ok (.irem, 1) := by decide +kernel
theorem k295_186 : decode (gb 295) 186 = .ok (.iaload, 1) := by decide +kernel
theorem k295_187 : decode (gb 295) 187 = .ok (.iastore, 1) := by decide +kernel
theorem k295_188 : decode (gb 295) 188 = .ok (.aload_n 0, 1) := by decide +kernel
theorem k295_189 : decode (gb 295) 189 = .ok (.getfield 303, 3) := by decide +kernel
theorem k295_192 : decode (gb 295) 192 = .ok (.bipush 100, 2) := by decide +kernel
theorem k295_194 : decode (gb 295) 194 = .ok (.iload 7, 2) := by decide +kernel
theorem k295_196 : decode (gb 295) 196 = .ok (.bipush 64, 2) := by decide +kernel
theorem k295_198 : decode (gb 295) 198 = .ok (.irem, 1) := by decide +kernel
theorem k295_199 : decode (gb 295) 199 = .ok (.imul, 1) := by decide +kernel
theorem k295_200 : decode (gb 295) 200 = .ok (.aload_n 0, 1) := by decide +kernel
theorem k295_201 : decode (gb 295) 201 = .ok (.getfield 225, 3) := by decide +kernel
theorem k295_204 : decode (gb 295) 204 = .ok (.bipush 60, 2) := by decide +kernel
theorem k295_206 : decode (gb 295) 206 = .ok (.aload_n 0, 1) := by decide +kernel
theorem k295_207 : decode (gb 295) 207 = .ok (.getfield 213, 3) := by decide +kernel
theorem k295_210 : decode (gb 295) 210 = .ok (.imul, 1) := by decide +kernel
theorem k295_211 : decode (gb 295) 211 = .ok (.aload_n 0, 1) := by decide +kernel
theorem k295_212 : decode (gb 295) 212 = .ok (.getfield 306, 3) := by decide +kernel
theorem k295_215 : decode (gb 295) 215 = .ok (.iload 7, 2) := by decide +kernel
theorem k295_217 : decode (gb 295) 217 = .ok (.bipush 64, 2) := by decide +kernel
theorem k295_219 : decode (gb 295) 219 = .ok (.irem, 1) := by decide +kernel
theorem k295_220 : decode (gb 295) 220 = .ok (.iaload, 1) := by decide +kernel
theorem k295_221 : decode (gb 295) 221 = .ok (.invokestatic 228, 3) := by decide +kernel
theorem k295_224 : decode (gb 295) 224 = .ok (.aload_n 0, 1) := by decide +kernel
theorem k295_225 : decode (gb 295) 225 = .ok (.dup, 1) := by decide +kernel
theorem k295_226 : decode (gb 295) 226 = .ok (.getfield 213, 3) := by decide +kernel
theorem k295_229 : decode (gb 295) 229 = .ok (.iconst 1, 1) := by decide +kernel
theorem k295_230 : decode (gb 295) 230 = .ok (.iadd, 1) := by decide +kernel
theorem k295_231 : decode (gb 295) 231 = .ok (.putfield 213, 3) := by decide +kernel
theorem k295_234 : decode (gb 295) 234 = .ok (.aload_n 0, 1) := by decide +kernel
theorem k295_235 : decode (gb 295) 235 = .ok (.invokevirtual 268, 3) := by decide +kernel
theorem k295_238 : decode (gb 295) 238 = .ok (.iload 7, 2) := by decide +kernel
theorem k295_240 : decode (gb 295) 240 = .ok (.ireturn, 1) := by decide +kernel
def c295_75 (v5 : Int32) (μ : Mem) : Option (Mem × Int32) :=
  (pfI 129 1 (0 : Int32) μ).bind fun m1 =>
  if v5 = 0 then
    some (m1, (-3 : Int32))
  else
    some (m1, (-2 : Int32))
theorem c295_75_ok {L : Nat} (v5 : Int32) (μ : Mem) (res : Mem × Int32) (h : c295_75 v5 μ = some res) : Sx 295 75 [(0, .ref 129), (5, .int v5)] [] 0 0 (mk L μ) (mk L res.1, some (.int res.2)) := by
  unfold c295_75 at h
  refine sx_aload_n (i := 0) k295_75 rfl rfl ?_
  refine sx_iconst (v := 0) k295_76 (by decide) ?_
  obtain ⟨m1, e2, h⟩ := Option.bind_eq_some_iff.mp h
  refine cx_putI (k := 1) k295_77 ow_295 fl_12_3 (by decide) sk_129 nf_11_1 fu_11_1 e2 ?_
  refine sx_iload k295_80 rfl ?_
  by_cases hb3 : v5 = 0
  · rw [if_pos hb3] at h
    refine sx_if_eq (tgt := 90) k295_82 (by decide) (fun _ => ?_) (fun q => absurd hb3 q)
    refine sx_bipush (v := -3) k295_90 (by decide) ?_
    exact cx_reti k295_92 rt_295 h
  · rw [if_neg hb3] at h
    refine sx_if_eq (tgt := 90) k295_82 (by decide) (fun q => absurd q hb3) (fun _ => ?_)
    refine sx_bipush (v := -2) k295_85 (by decide) ?_
    refine sx_goto (tgt := 92) k295_87 (by decide) ?_
    exact cx_reti k295_92 rt_295 h
def c295_63 (v1 : Int32) (v2 : Int32) (v3 : Int32) (v4 : Int32) (v5 : Int32) (s0 : Int32) (μ : Mem) : Option (Mem × Int32) :=
  if v5 = 0 then
    if s0 = 0 then
      (f292 v1 v2 v3 μ).bind fun r3 =>
      (pfI 129 1 (0 : Int32) r3.1).bind fun m5 =>
      if v4 = 0 then
        (f289 r3.2 (1 : Int32) m5).bind fun r8 =>
        (stA 143 (r8.1 129 43) r3.2 r8).bind fun m10 =>
        (ldA 151 (jrem r3.2 (64 : Int32)) m10).bind fun x12 =>
        (stA 147 (m10.1 129 43) x12 m10).bind fun m14 =>
        (ldA 151 (jrem r3.2 (64 : Int32)) m14).bind fun x16 =>
        (f273 150 ((100 : Int32) * (jrem r3.2 (64 : Int32))) 146 ((60 : Int32) * (m14.1 129 43)) x16 m14).bind fun r18 =>
        (pfI 129 43 ((r18.1 129 43) + (1 : Int32)) r18).bind fun m20 =>
        (f275 m20).bind fun r22 =>
        some (r22, r3.2)
      else
        (f289 r3.2 (2 : Int32) m5).bind fun r24 =>
        (ldA 151 (jrem r3.2 (64 : Int32)) r24).bind fun x26 =>
        (f271 (32 : Int32) (0 : Int32) 150 ((100 : Int32) * (jrem r3.2 (64 : Int32))) x26 r24).bind fun r28 =>
        some (r28, r3.2)
    else
      c295_75 v5 μ
  else
    c295_75 v5 μ
theorem c295_63_ok {L : Nat} (v1 : Int32) (v2 : Int32) (v3 : Int32) (v4 : Int32) (v5 : Int32) (s0 : Int32) (μ : Mem) (res : Mem × Int32) (h : c295_63 v1 v2 v3 v4 v5 s0 μ = some res) : Sx 295 63 [(0, .ref 129), (1, .int v1), (2, .int v2), (3, .int v3), (4, .int v4), (5, .int v5)] [.int s0] 0 0 (mk L μ) (mk L res.1, some (.int res.2)) := by
  unfold c295_63 at h
  refine cx_istore (lo2 := [(6, .int s0), (0, .ref 129), (1, .int v1), (2, .int v2), (3, .int v3), (4, .int v4), (5, .int v5)]) k295_63 (by rw [mx_295]; decide) rfl ?_
  refine sx_iload k295_65 rfl ?_
  by_cases hb1 : v5 = 0
  · rw [if_pos hb1] at h
    refine sx_if_ne (tgt := 75) k295_67 (by decide) (fun q => absurd hb1 q) (fun _ => ?_)
    refine sx_iload k295_70 rfl ?_
    by_cases hb2 : s0 = 0
    · rw [if_pos hb2] at h
      refine sx_if_eq (tgt := 93) k295_72 (by decide) (fun _ => ?_) (fun q => absurd hb2 q)
      refine sx_aload_n (i := 0) k295_93 rfl rfl ?_
      refine sx_iload_n (i := 1) k295_94 rfl rfl ?_
      refine sx_iload_n (i := 2) k295_95 rfl rfl ?_
      refine sx_iload_n (i := 3) k295_96 rfl rfl ?_
      obtain ⟨r3, e4, h⟩ := Option.bind_eq_some_iff.mp h
      refine cx_V (sk := []) (vs := [.int v1, .int v2, .int v3]) st_295_292 k295_97 ow_295 cl_12_324 (by decide) rfl (Nat.le_of_ble_eq_true rfl) sk_129 (ok292 v1 v2 v3 _ _ e4) (sk3 := [.int r3.2]) rfl rfl ?_
      refine cx_istore (lo2 := [(7, .int r3.2), (6, .int s0), (0, .ref 129), (1, .int v1), (2, .int v2), (3, .int v3), (4, .int v4), (5, .int v5)]) k295_100 (by rw [mx_295]; decide) rfl ?_
      refine sx_aload_n (i := 0) k295_102 rfl rfl ?_
      refine sx_iconst (v := 0) k295_103 (by decide) ?_
      obtain ⟨m5, e6, h⟩ := Option.bind_eq_some_iff.mp h
      refine cx_putI (k := 1) k295_104 ow_295 fl_12_3 (by decide) sk_129 nf_11_1 fu_11_1 e6 ?_
      refine sx_iload k295_107 rfl ?_
      by_cases hb7 : v4 = 0
      · rw [if_pos hb7] at h
        refine sx_if_eq (tgt := 151) k295_109 (by decide) (fun _ => ?_) (fun q => absurd hb7 q)
        refine sx_aload_n (i := 0) k295_151 rfl rfl ?_
        refine sx_iload k295_152 rfl ?_
        refine sx_iconst (v := 1) k295_154 (by decide) ?_
        obtain ⟨r8, e9, h⟩ := Option.bind_eq_some_iff.mp h
        refine cx_V (sk := []) (vs := [.int r3.2, .int (1 : Int32)]) st_295_289 k295_155 ow_295 cl_12_241 (by decide) rfl (Nat.le_of_ble_eq_true rfl) sk_129 (ok289 r3.2 (1 : Int32) _ _ e9) (sk3 := []) rfl rfl ?_
        refine sx_aload_n (i := 0) k295_158 rfl rfl ?_
        refine cx_getR (k := 42) k295_159 ow_295 fl_12_219 (by decide) sk_129 ft_11_42 sr_129_42 ?_
        refine sx_aload_n (i := 0) k295_162 rfl rfl ?_
        refine cx_getI (k := 43) k295_163 ow_295 fl_12_213 (by decide) sk_129 ft_11_43 ?_
        refine sx_iload k295_166 rfl ?_
        obtain ⟨m10, e11, h⟩ := Option.bind_eq_some_iff.mp h
        refine cx_iast k295_168 sk_143 e11 ?_
        refine sx_aload_n (i := 0) k295_169 rfl rfl ?_
        refine cx_getR (k := 47) k295_170 ow_295 fl_12_222 (by decide) sk_129 ft_11_47 sr_129_47 ?_
        refine sx_aload_n (i := 0) k295_173 rfl rfl ?_
        refine cx_getI (k := 43) k295_174 ow_295 fl_12_213 (by decide) sk_129 ft_11_43 ?_
        refine sx_aload_n (i := 0) k295_177 rfl rfl ?_
        refine cx_getR (k := 53) k295_178 ow_295 fl_12_306 (by decide) sk_129 ft_11_53 sr_129_53 ?_
        refine sx_iload k295_181 rfl ?_
        refine sx_bipush (v := 64) k295_183 (by decide) ?_
        refine sx_irem k295_185 (by decide) ?_
        obtain ⟨x12, e13, h⟩ := Option.bind_eq_some_iff.mp h
        refine cx_iald k295_186 sk_151 e13 ?_
        obtain ⟨m14, e15, h⟩ := Option.bind_eq_some_iff.mp h
        refine cx_iast k295_187 sk_147 e15 ?_
        refine sx_aload_n (i := 0) k295_188 rfl rfl ?_
        refine cx_getR (k := 52) k295_189 ow_295 fl_12_303 (by decide) sk_129 ft_11_52 sr_129_52 ?_
        refine sx_bipush (v := 100) k295_192 (by decide) ?_
        refine sx_iload k295_194 rfl ?_
        refine sx_bipush (v := 64) k295_196 (by decide) ?_
        refine sx_irem k295_198 (by decide) ?_
        refine sx_imul k295_199 ?_
        refine sx_aload_n (i := 0) k295_200 rfl rfl ?_
        refine cx_getR (k := 46) k295_201 ow_295 fl_12_225 (by decide) sk_129 ft_11_46 sr_129_46 ?_
        refine sx_bipush (v := 60) k295_204 (by decide) ?_
        refine sx_aload_n (i := 0) k295_206 rfl rfl ?_
        refine cx_getI (k := 43) k295_207 ow_295 fl_12_213 (by decide) sk_129 ft_11_43 ?_
        refine sx_imul k295_210 ?_
        refine sx_aload_n (i := 0) k295_211 rfl rfl ?_
        refine cx_getR (k := 53) k295_212 ow_295 fl_12_306 (by decide) sk_129 ft_11_53 sr_129_53 ?_
        refine sx_iload k295_215 rfl ?_
        refine sx_bipush (v := 64) k295_217 (by decide) ?_
        refine sx_irem k295_219 (by decide) ?_
        obtain ⟨x16, e17, h⟩ := Option.bind_eq_some_iff.mp h
        refine cx_iald k295_220 sk_151 e17 ?_
        obtain ⟨r18, e19, h⟩ := Option.bind_eq_some_iff.mp h
        refine cx_S (sk := []) (vs := [.ref 150, .int ((100 : Int32) * (jrem r3.2 (64 : Int32))), .ref 146, .int ((60 : Int32) * (m14.1 129 43)), .int x16]) st_295_273 k295_221 ow_295 cl_12_228 (by decide) rfl (Nat.le_of_ble_eq_true rfl) (ok273 150 ((100 : Int32) * (jrem r3.2 (64 : Int32))) 146 ((60 : Int32) * (m14.1 129 43)) x16 sk_150 sk_146 _ _ e19) (sk3 := []) rfl rfl ?_
        refine sx_aload_n (i := 0) k295_224 rfl rfl ?_
        refine sx_dup k295_225 rfl ?_
        refine cx_getI (k := 43) k295_226 ow_295 fl_12_213 (by decide) sk_129 ft_11_43 ?_
        refine sx_iconst (v := 1) k295_229 (by decide) ?_
        refine sx_iadd k295_230 ?_
        obtain ⟨m20, e21, h⟩ := Option.bind_eq_some_iff.mp h
        refine cx_putI (k := 43) k295_231 ow_295 fl_12_213 (by decide) sk_129 nf_11_43 fu_11_43 e21 ?_
        refine sx_aload_n (i := 0) k295_234 rfl rfl ?_
        obtain ⟨r22, e23, h⟩ := Option.bind_eq_some_iff.mp h
        refine cx_V (sk := []) (vs := []) st_295_275 k295_235 ow_295 cl_12_268 (by decide) rfl (Nat.le_of_ble_eq_true rfl) sk_129 (ok275 _ _ e23) (sk3 := []) rfl rfl ?_
        refine sx_iload k295_238 rfl ?_
        exact cx_reti k295_240 rt_295 h
      · rw [if_neg hb7] at h
        refine sx_if_eq (tgt := 151) k295_109 (by decide) (fun q => absurd q hb7) (fun _ => ?_)
        refine sx_aload_n (i := 0) k295_112 rfl rfl ?_
        refine sx_iload k295_113 rfl ?_
        refine sx_iconst (v := 2) k295_115 (by decide) ?_
        obtain ⟨r24, e25, h⟩ := Option.bind_eq_some_iff.mp h
        refine cx_V (sk := []) (vs := [.int r3.2, .int (2 : Int32)]) st_295_289 k295_116 ow_295 cl_12_241 (by decide) rfl (Nat.le_of_ble_eq_true rfl) sk_129 (ok289 r3.2 (2 : Int32) _ _ e25) (sk3 := []) rfl rfl ?_
        refine sx_aload_n (i := 0) k295_119 rfl rfl ?_
        refine sx_bipush (v := 32) k295_120 (by decide) ?_
        refine sx_iconst (v := 0) k295_122 (by decide) ?_
        refine sx_aload_n (i := 0) k295_123 rfl rfl ?_
        refine cx_getR (k := 52) k295_124 ow_295 fl_12_303 (by decide) sk_129 ft_11_52 sr_129_52 ?_
        refine sx_bipush (v := 100) k295_127 (by decide) ?_
        refine sx_iload k295_129 rfl ?_
        refine sx_bipush (v := 64) k295_131 (by decide) ?_
        refine sx_irem k295_133 (by decide) ?_
        refine sx_imul k295_134 ?_
        refine sx_aload_n (i := 0) k295_135 rfl rfl ?_
        refine cx_getR (k := 53) k295_136 ow_295 fl_12_306 (by decide) sk_129 ft_11_53 sr_129_53 ?_
        refine sx_iload k295_139 rfl ?_
        refine sx_bipush (v := 64) k295_141 (by decide) ?_
        refine sx_irem k295_143 (by decide) ?_
        obtain ⟨x26, e27, h⟩ := Option.bind_eq_some_iff.mp h
        refine cx_iald k295_144 sk_151 e27 ?_
        obtain ⟨r28, e29, h⟩ := Option.bind_eq_some_iff.mp h
        refine cx_V (sk := []) (vs := [.int (32 : Int32), .int (0 : Int32), .ref 150, .int ((100 : Int32) * (jrem r3.2 (64 : Int32))), .int x26]) st_295_271 k295_145 ow_295 cl_12_185 (by decide) rfl (Nat.le_of_ble_eq_true rfl) sk_129 (ok271 (32 : Int32) (0 : Int32) 150 ((100 : Int32) * (jrem r3.2 (64 : Int32))) x26 sk_150 _ _ e29) (sk3 := []) rfl rfl ?_
        refine sx_goto (tgt := 238) k295_148 (by decide) ?_
        refine sx_iload k295_238 rfl ?_
        exact cx_reti k295_240 rt_295 h
    · rw [if_neg hb2] at h
      refine sx_if_eq (tgt := 93) k295_72 (by decide) (fun q => absurd q hb2) (fun _ => ?_)
      refine sx_pick (lo2 := [(0, .ref 129), (5, .int v5)]) [1, 6] rfl ?_
      exact c295_75_ok v5 _ _ h
  · rw [if_neg hb1] at h
    refine sx_if_ne (tgt := 75) k295_67 (by decide) (fun _ => ?_) (fun q => absurd q hb1)
    refine sx_pick (lo2 := [(0, .ref 129), (5, .int v5)]) [1, 6] rfl ?_
    exact c295_75_ok v5 _ _ h
def c295_58 (v1 : Int32) (v2 : Int32) (v3 : Int32) (v4 : Int32) (v5 : Int32) (μ : Mem) : Option (Mem × Int32) :=
  c295_63 v1 v2 v3 v4 v5 (1 : Int32) μ
theorem c295_58_ok {L : Nat} (v1 : Int32) (v2 : Int32) (v3 : Int32) (v4 : Int32) (v5 : Int32) (μ : Mem) (res : Mem × Int32) (h : c295_58 v1 v2 v3 v4 v5 μ = some res) : Sx 295 58 [(0, .ref 129), (1, .int v1), (2, .int v2), (3, .int v3), (4, .int v4), (5, .int v5)] [] 0 0 (mk L μ) (mk L res.1, some (.int res.2)) := by
  unfold c295_58 at h
  refine sx_iconst (v := 1) k295_58 (by decide) ?_
  refine sx_goto (tgt := 63) k295_59 (by decide) ?_
  refine sx_pick (lo2 := [(0, .ref 129), (1, .int v1), (2, .int v2), (3, .int v3), (4, .int v4), (5, .int v5)]) [0, 1, 2, 3, 4, 5] rfl ?_
  exact c295_63_ok v1 v2 v3 v4 v5 (1 : Int32) _ _ h
def c295_62 (v1 : Int32) (v2 : Int32) (v3 : Int32) (v4 : Int32) (v5 : Int32) (μ : Mem) : Option (Mem × Int32) :=
  c295_63 v1 v2 v3 v4 v5 (0 : Int32) μ
theorem c295_62_ok {L : Nat} (v1 : Int32) (v2 : Int32) (v3 : Int32) (v4 : Int32) (v5 : Int32) (μ : Mem) (res : Mem × Int32) (h : c295_62 v1 v2 v3 v4 v5 μ = some res) : Sx 295 62 [(0, .ref 129), (1, .int v1), (2, .int v2), (3, .int v3), (4, .int v4), (5, .int v5)] [] 0 0 (mk L μ) (mk L res.1, some (.int res.2)) := by
  unfold c295_62 at h
  refine sx_iconst (v := 0) k295_62 (by decide) ?_
  refine sx_pick (lo2 := [(0, .ref 129), (1, .int v1), (2, .int v2), (3, .int v3), (4, .int v4), (5, .int v5)]) [0, 1, 2, 3, 4, 5] rfl ?_
  exact c295_63_ok v1 v2 v3 v4 v5 (0 : Int32) _ _ h
def c295_30 (v1 : Int32) (v2 : Int32) (v3 : Int32) (v4 : Int32) (s0 : Int32) (μ : Mem) : Option (Mem × Int32) :=
  if (60 : Int32) < ((μ.1 129 1) + (13 : Int32)) then
    c295_58 v1 v2 v3 v4 s0 μ
  else
    if v4 = 0 then
      if (μ.1 129 43) = (32 : Int32) then
        c295_58 v1 v2 v3 v4 s0 μ
      else
        c295_62 v1 v2 v3 v4 s0 μ
    else
      c295_62 v1 v2 v3 v4 s0 μ
theorem c295_30_ok {L : Nat} (v1 : Int32) (v2 : Int32) (v3 : Int32) (v4 : Int32) (s0 : Int32) (μ : Mem) (res : Mem × Int32) (h : c295_30 v1 v2 v3 v4 s0 μ = some res) : Sx 295 30 [(0, .ref 129), (1, .int v1), (2, .int v2), (3, .int v3), (4, .int v4)] [.int s0] 0 0 (mk L μ) (mk L res.1, some (.int res.2)) := by
  unfold c295_30 at h
  refine cx_istore (lo2 := [(5, .int s0), (0, .ref 129), (1, .int v1), (2, .int v2), (3, .int v3), (4, .int v4)]) k295_30 (by rw [mx_295]; decide) rfl ?_
  refine sx_aload_n (i := 0) k295_32 rfl rfl ?_
  refine cx_getI (k := 1) k295_33 ow_295 fl_12_3 (by decide) sk_129 ft_11_1 ?_
  refine sx_bipush (v := 13) k295_36 (by decide) ?_
  refine sx_iadd k295_38 ?_
  refine sx_bipush (v := 60) k295_39 (by decide) ?_
  by_cases hb1 : (60 : Int32) < ((μ.1 129 1) + (13 : Int32))
  · rw [if_pos hb1] at h
    refine sx_icmp_gt (tgt := 58) k295_41 (by decide) (fun _ => ?_) (fun q => absurd hb1 q)
    refine sx_pick (lo2 := [(0, .ref 129), (1, .int v1), (2, .int v2), (3, .int v3), (4, .int v4), (5, .int s0)]) [1, 2, 3, 4, 5, 0] rfl ?_
    exact c295_58_ok v1 v2 v3 v4 s0 _ _ h
  · rw [if_neg hb1] at h
    refine sx_icmp_gt (tgt := 58) k295_41 (by decide) (fun q => absurd q hb1) (fun _ => ?_)
    refine sx_iload k295_44 rfl ?_
    by_cases hb2 : v4 = 0
    · rw [if_pos hb2] at h
      refine sx_if_ne (tgt := 62) k295_46 (by decide) (fun q => absurd hb2 q) (fun _ => ?_)
      refine sx_aload_n (i := 0) k295_49 rfl rfl ?_
      refine cx_getI (k := 43) k295_50 ow_295 fl_12_213 (by decide) sk_129 ft_11_43 ?_
      refine sx_bipush (v := 32) k295_53 (by decide) ?_
      by_cases hb3 : (μ.1 129 43) = (32 : Int32)
      · rw [if_pos hb3] at h
        refine sx_icmp_ne (tgt := 62) k295_55 (by decide) (fun q => absurd hb3 q) (fun _ => ?_)
        refine sx_pick (lo2 := [(0, .ref 129), (1, .int v1), (2, .int v2), (3, .int v3), (4, .int v4), (5, .int s0)]) [1, 2, 3, 4, 5, 0] rfl ?_
        exact c295_58_ok v1 v2 v3 v4 s0 _ _ h
      · rw [if_neg hb3] at h
        refine sx_icmp_ne (tgt := 62) k295_55 (by decide) (fun _ => ?_) (fun q => absurd q hb3)
        refine sx_pick (lo2 := [(0, .ref 129), (1, .int v1), (2, .int v2), (3, .int v3), (4, .int v4), (5, .int s0)]) [1, 2, 3, 4, 5, 0] rfl ?_
        exact c295_62_ok v1 v2 v3 v4 s0 _ _ h
    · rw [if_neg hb2] at h
      refine sx_if_ne (tgt := 62) k295_46 (by decide) (fun _ => ?_) (fun q => absurd q hb2)
      refine sx_pick (lo2 := [(0, .ref 129), (1, .int v1), (2, .int v2), (3, .int v3), (4, .int v4), (5, .int s0)]) [1, 2, 3, 4, 5, 0] rfl ?_
      exact c295_62_ok v1 v2 v3 v4 s0 _ _ h
def c295_29 (v1 : Int32) (v2 : Int32) (v3 : Int32) (v4 : Int32) (μ : Mem) : Option (Mem × Int32) :=
  c295_30 v1 v2 v3 v4 (0 : Int32) μ
theorem c295_29_ok {L : Nat} (v1 : Int32) (v2 : Int32) (v3 : Int32) (v4 : Int32) (μ : Mem) (res : Mem × Int32) (h : c295_29 v1 v2 v3 v4 μ = some res) : Sx 295 29 [(0, .ref 129), (1, .int v1), (2, .int v2), (3, .int v3), (4, .int v4)] [] 0 0 (mk L μ) (mk L res.1, some (.int res.2)) := by
  unfold c295_29 at h
  refine sx_iconst (v := 0) k295_29 (by decide) ?_
  refine sx_pick (lo2 := [(0, .ref 129), (1, .int v1), (2, .int v2), (3, .int v3), (4, .int v4)]) [0, 1, 2, 3, 4] rfl ?_
  exact c295_30_ok v1 v2 v3 v4 (0 : Int32) _ _ h
/-- CraftHouseModel.request(IIIZ)I -/
def f295 (p1 : Int32) (p2 : Int32) (p3 : Int32) (p4 : Int32) (μ : Mem) : Option (Mem × Int32) :=
  (f293 p1 p2 p3 μ).bind fun r1 =>
  if r1.2 = 0 then
    some (r1.1, (-1 : Int32))
  else
    if p4 = 0 then
      if (r1.1.1 129 28) < (4 : Int32) then
        c295_29 p1 p2 p3 p4 r1.1
      else
        c295_30 p1 p2 p3 p4 (1 : Int32) r1.1
    else
      c295_29 p1 p2 p3 p4 r1.1
theorem ok295 {L : Nat} (p1 : Int32) (p2 : Int32) (p3 : Int32) (p4 : Int32) (μ : Mem) (res : Mem × Int32) (h : f295 p1 p2 p3 p4 μ = some res) : Mx 295 [.ref 129, .int p1, .int p2, .int p3, .int p4] (mk L μ) (mk L res.1, some (.int res.2)) := by
  refine Mx_of ml_295 (by rw [mx_295]; exact Nat.le_of_ble_eq_true rfl) ?_
  show Sx 295 0 [(0, .ref 129), (1, .int p1), (2, .int p2), (3, .int p3), (4, .int p4)] [] 0 0 (mk L μ) _
  unfold f295 at h
  refine sx_aload_n (i := 0) k295_0 rfl rfl ?_
  refine sx_iload_n (i := 1) k295_1 rfl rfl ?_
  refine sx_iload_n (i := 2) k295_2 rfl rfl ?_
  refine sx_iload_n (i := 3) k295_3 rfl rfl ?_
  obtain ⟨r1, e2, h⟩ := Option.bind_eq_some_iff.mp h
  refine cx_V (sk := []) (vs := [.int p1, .int p2, .int p3]) st_295_293 k295_4 ow_295 cl_12_321 (by decide) rfl (Nat.le_of_ble_eq_true rfl) sk_129 (ok293 p1 p2 p3 _ _ e2) (sk3 := [.int r1.2]) rfl rfl ?_
  by_cases hb3 : r1.2 = 0
  · rw [if_pos hb3] at h
    refine sx_if_ne (tgt := 12) k295_7 (by decide) (fun q => absurd hb3 q) (fun _ => ?_)
    refine sx_iconst (v := -1) k295_10 (by decide) ?_
    exact cx_reti k295_11 rt_295 h
  · rw [if_neg hb3] at h
    refine sx_if_ne (tgt := 12) k295_7 (by decide) (fun _ => ?_) (fun q => absurd q hb3)
    refine sx_iload k295_12 rfl ?_
    by_cases hb4 : p4 = 0
    · rw [if_pos hb4] at h
      refine sx_if_ne (tgt := 29) k295_14 (by decide) (fun q => absurd hb4 q) (fun _ => ?_)
      refine sx_aload_n (i := 0) k295_17 rfl rfl ?_
      refine cx_getI (k := 28) k295_18 ow_295 fl_12_195 (by decide) sk_129 ft_11_28 ?_
      refine sx_iconst (v := 4) k295_21 (by decide) ?_
      by_cases hb5 : (r1.1.1 129 28) < (4 : Int32)
      · rw [if_pos hb5] at h
        refine sx_icmp_lt (tgt := 29) k295_22 (by decide) (fun _ => ?_) (fun q => absurd hb5 q)
        refine sx_pick (lo2 := [(0, .ref 129), (1, .int p1), (2, .int p2), (3, .int p3), (4, .int p4)]) [0, 1, 2, 3, 4] rfl ?_
        exact c295_29_ok p1 p2 p3 p4 _ _ h
      · rw [if_neg hb5] at h
        refine sx_icmp_lt (tgt := 29) k295_22 (by decide) (fun q => absurd q hb5) (fun _ => ?_)
        refine sx_iconst (v := 1) k295_25 (by decide) ?_
        refine sx_goto (tgt := 30) k295_26 (by decide) ?_
        refine sx_pick (lo2 := [(0, .ref 129), (1, .int p1), (2, .int p2), (3, .int p3), (4, .int p4)]) [0, 1, 2, 3, 4] rfl ?_
        exact c295_30_ok p1 p2 p3 p4 (1 : Int32) _ _ h
    · rw [if_neg hb4] at h
      refine sx_if_ne (tgt := 29) k295_14 (by decide) (fun _ => ?_) (fun q => absurd q hb4)
      refine sx_pick (lo2 := [(0, .ref 129), (1, .int p1), (2, .int p2), (3, .int p3), (4, .int p4)]) [0, 1, 2, 3, 4] rfl ?_
      exact c295_29_ok p1 p2 p3 p4 _ _ h
theorem k296_0 : decode (gb 296) 0 = .ok (.aload_n 0, 1) := by decide +kernel
theorem k296_1 : decode (gb 296) 1 = .ok (.getfield 294, 3) := by decide +kernel
theorem k296_4 : decode (gb 296) 4 = .ok (.ireturn, 1) := by decide +kernel
/-- CraftHouseModel.requests()I -/
def f296 (μ : Mem) : Option (Mem × Int32) :=
  some (μ, (μ.1 129 58))
theorem ok296 {L : Nat} (μ : Mem) (res : Mem × Int32) (h : f296 μ = some res) : Mx 296 [.ref 129] (mk L μ) (mk L res.1, some (.int res.2)) := by
  refine Mx_of ml_296 (by rw [mx_296]; exact Nat.le_of_ble_eq_true rfl) ?_
  show Sx 296 0 [(0, .ref 129)] [] 0 0 (mk L μ) _
  unfold f296 at h
  refine sx_aload_n (i := 0) k296_0 rfl rfl ?_
  refine cx_getI (k := 58) k296_1 ow_296 fl_12_294 (by decide) sk_129 ft_11_58 ?_
  exact cx_reti k296_4 rt_296 h
theorem k297_0 : decode (gb 297) 0 = .ok (.aload_n 0, 1) := by decide +kernel
theorem k297_1 : decode (gb 297) 1 = .ok (.iload_n 1, 1) := by decide +kernel
theorem k297_2 : decode (gb 297) 2 = .ok (.invokevirtual 297, 3) := by decide +kernel
theorem k297_5 : decode (gb 297) 5 = .ok (.ifCond .eq 12, 3) := by decide +kernel
theorem k297_8 : decode (gb 297) 8 = .ok (.iload_n 2, 1) := by decide +kernel
theorem k297_9 : decode (gb 297) 9 = .ok (.ifCond .lt 8, 3) := by decide +kernel
theorem k297_12 : decode (gb 297) 12 = .ok (.iload_n 2, 1) := by decide +kernel
theorem k297_13 : decode (gb 297) 13 = .ok (.iconst 3, 1) := by decide +kernel
theorem k297_14 : decode (gb 297) 14 = .ok (.if_icmp .le 5, 3) := by decide +kernel
theorem k297_17 : decode (gb 297) 17 = .ok (.iconst (-1), 1) := by decide +kernel
theorem k297_18 : decode (gb 297) 18 = .ok (.ireturn, 1) := by decide +kernel
theorem k297_19 : decode (gb 297) 19 = .ok (.iload_n 1, 1) := by decide +kernel
theorem k297_20 : decode (gb 297) 20 = .ok (.bipush 64, 2) := by decide +kernel
theorem k297_22 : decode (gb 297) 22 = .ok (.irem, 1) := by decide +kernel
theorem k297_23 : decode (gb 297) 23 = .ok (.istore_n 3, 1) := by decide +kernel
theorem k297_24 : decode (gb 297) 24 = .ok (.iload_n 2, 1) := by decide +kernel
theorem k297_25 : decode (gb 297) 25 = .ok (.ifCond .ne 12, 3) := by decide +kernel
theorem k297_28 : decode (gb 297) 28 = .ok (.aload_n 0, 1) := by decide +kernel
theorem k297_29 : decode (gb 297) 29 = .ok (.getfield 300, 3) := by decide +kernel
theorem k297_32 : decode (gb 297) 32 = .ok (.iload_n 3, 1) := by decide +kernel
theorem k297_33 : decode (gb 297) 33 = .ok (.iaload, 1) := by decide +kernel
theorem k297_34 : decode (gb 297) 34 = .ok (.goto 37, 3) := by decide +kernel
theorem k297_37 : decode (gb 297) 37 = .ok (.iload_n 2, 1) := by decide +kernel
theorem k297_38 : decode (gb 297) 38 = .ok (.iconst 1, 1) := by decide +kernel
theorem k297_39 : decode (gb 297) 39 = .ok (.if_icmp .ne 12, 3) := by decide +kernel
theorem k297_42 : decode (gb 297) 42 = .ok (.aload_n 0, 1) := by decide +kernel
theorem k297_43 : decode (gb 297) 43 = .ok (.getfield 309, 3) := by decide +kernel
theorem k297_46 : decode (gb 297) 46 = .ok (.iload_n 3, 1) := by decide +kernel
theorem k297_47 : decode (gb 297) 47 = .ok (.iaload, 1) := by decide +kernel
theorem k297_48 : decode (gb 297) 48 = .ok (.goto 23, 3) := by decide +kernel
theorem k297_51 : decode (gb 297) 51 = .ok (.iload_n 2, 1) := by decide +kernel
theorem k297_52 : decode (gb 297) 52 = .ok (.iconst 2, 1) := by decide +kernel
theorem k297_53 : decode (gb 297) 53 = .ok (.if_icmp .ne 12, 3) := by decide +kernel
theorem k297_56 : decode (gb 297) 56 = .ok (.aload_n 0, 1) := by decide +kernel
theorem k297_57 : decode (gb 297) 57 = .ok (.getfield 312, 3) := by decide +kernel
theorem k297_60 : decode (gb 297) 60 = .ok (.iload_n 3, 1) := by decide +kernel
theorem k297_61 : decode (gb 297) 61 = .ok (.iaload, 1) := by decide +kernel
theorem k297_62 : decode (gb 297) 62 = .ok (.goto 9, 3) := by decide +kernel
theorem k297_65 : decode (gb 297) 65 = .ok (.aload_n 0, 1) := by decide +kernel
theorem k297_66 : decode (gb 297) 66 = .ok (.getfield 315, 3) := by decide +kernel
theorem k297_69 : decode (gb 297) 69 = .ok (.iload_n 3, 1) := by decide +kernel
theorem k297_70 : decode (gb 297) 70 = .ok (.iaload, 1) := by decide +kernel
theorem k297_71 : decode (gb 297) 71 = .ok (.ireturn, 1) := by decide +kernel
/-- CraftHouseModel.became(II)I -/
def f297 (p1 : Int32) (p2 : Int32) (μ : Mem) : Option (Mem × Int32) :=
  (f288 p1 μ).bind fun r1 =>
  if r1.2 = 0 then
    some (r1.1, (-1 : Int32))
  else
    if p2 < 0 then
      some (r1.1, (-1 : Int32))
    else
      if p2 ≤ (3 : Int32) then
        nm (jrem p1 (64 : Int32)) fun x6 =>
        if p2 = 0 then
          (ldA 152 x6 r1.1).bind fun x16 =>
          some (r1.1, x16)
        else
          if p2 = (1 : Int32) then
            (ldA 153 x6 r1.1).bind fun x14 =>
            some (r1.1, x14)
          else
            if p2 = (2 : Int32) then
              (ldA 154 x6 r1.1).bind fun x12 =>
              some (r1.1, x12)
            else
              (ldA 155 x6 r1.1).bind fun x10 =>
              some (r1.1, x10)
      else
        some (r1.1, (-1 : Int32))
theorem ok297 {L : Nat} (p1 : Int32) (p2 : Int32) (μ : Mem) (res : Mem × Int32) (h : f297 p1 p2 μ = some res) : Mx 297 [.ref 129, .int p1, .int p2] (mk L μ) (mk L res.1, some (.int res.2)) := by
  refine Mx_of ml_297 (by rw [mx_297]; exact Nat.le_of_ble_eq_true rfl) ?_
  show Sx 297 0 [(0, .ref 129), (1, .int p1), (2, .int p2)] [] 0 0 (mk L μ) _
  unfold f297 at h
  refine sx_aload_n (i := 0) k297_0 rfl rfl ?_
  refine sx_iload_n (i := 1) k297_1 rfl rfl ?_
  obtain ⟨r1, e2, h⟩ := Option.bind_eq_some_iff.mp h
  refine cx_V (sk := []) (vs := [.int p1]) st_297_288 k297_2 ow_297 cl_12_297 (by decide) rfl (Nat.le_of_ble_eq_true rfl) sk_129 (ok288 p1 _ _ e2) (sk3 := [.int r1.2]) rfl rfl ?_
  by_cases hb3 : r1.2 = 0
  · rw [if_pos hb3] at h
    refine sx_if_eq (tgt := 17) k297_5 (by decide) (fun _ => ?_) (fun q => absurd hb3 q)
    refine sx_iconst (v := -1) k297_17 (by decide) ?_
    exact cx_reti k297_18 rt_297 h
  · rw [if_neg hb3] at h
    refine sx_if_eq (tgt := 17) k297_5 (by decide) (fun q => absurd q hb3) (fun _ => ?_)
    refine sx_iload_n (i := 2) k297_8 rfl rfl ?_
    by_cases hb4 : p2 < 0
    · rw [if_pos hb4] at h
      refine sx_if_lt (tgt := 17) k297_9 (by decide) (fun _ => ?_) (fun q => absurd hb4 q)
      refine sx_iconst (v := -1) k297_17 (by decide) ?_
      exact cx_reti k297_18 rt_297 h
    · rw [if_neg hb4] at h
      refine sx_if_lt (tgt := 17) k297_9 (by decide) (fun q => absurd q hb4) (fun _ => ?_)
      refine sx_iload_n (i := 2) k297_12 rfl rfl ?_
      refine sx_iconst (v := 3) k297_13 (by decide) ?_
      by_cases hb5 : p2 ≤ (3 : Int32)
      · rw [if_pos hb5] at h
        refine sx_icmp_le (tgt := 19) k297_14 (by decide) (fun _ => ?_) (fun q => absurd hb5 q)
        refine sx_iload_n (i := 1) k297_19 rfl rfl ?_
        refine sx_bipush (v := 64) k297_20 (by decide) ?_
        refine sx_irem k297_22 (by decide) ?_
        refine cx_nm h (fun x6 h => ?_)
        refine cx_istore_n (lo2 := [(3, .int x6), (0, .ref 129), (1, .int p1), (2, .int p2)]) k297_23 rfl (by rw [mx_297]; decide) rfl ?_
        refine sx_iload_n (i := 2) k297_24 rfl rfl ?_
        by_cases hb7 : p2 = 0
        · rw [if_pos hb7] at h
          refine sx_if_ne (tgt := 37) k297_25 (by decide) (fun q => absurd hb7 q) (fun _ => ?_)
          refine sx_aload_n (i := 0) k297_28 rfl rfl ?_
          refine cx_getR (k := 54) k297_29 ow_297 fl_12_300 (by decide) sk_129 ft_11_54 sr_129_54 ?_
          refine sx_iload_n (i := 3) k297_32 rfl rfl ?_
          obtain ⟨x16, e17, h⟩ := Option.bind_eq_some_iff.mp h
          refine cx_iald k297_33 sk_152 e17 ?_
          refine sx_goto (tgt := 71) k297_34 (by decide) ?_
          exact cx_reti k297_71 rt_297 h
        · rw [if_neg hb7] at h
          refine sx_if_ne (tgt := 37) k297_25 (by decide) (fun _ => ?_) (fun q => absurd q hb7)
          refine sx_iload_n (i := 2) k297_37 rfl rfl ?_
          refine sx_iconst (v := 1) k297_38 (by decide) ?_
          by_cases hb8 : p2 = (1 : Int32)
          · rw [if_pos hb8] at h
            refine sx_icmp_ne (tgt := 51) k297_39 (by decide) (fun q => absurd hb8 q) (fun _ => ?_)
            refine sx_aload_n (i := 0) k297_42 rfl rfl ?_
            refine cx_getR (k := 55) k297_43 ow_297 fl_12_309 (by decide) sk_129 ft_11_55 sr_129_55 ?_
            refine sx_iload_n (i := 3) k297_46 rfl rfl ?_
            obtain ⟨x14, e15, h⟩ := Option.bind_eq_some_iff.mp h
            refine cx_iald k297_47 sk_153 e15 ?_
            refine sx_goto (tgt := 71) k297_48 (by decide) ?_
            exact cx_reti k297_71 rt_297 h
          · rw [if_neg hb8] at h
            refine sx_icmp_ne (tgt := 51) k297_39 (by decide) (fun _ => ?_) (fun q => absurd q hb8)
            refine sx_iload_n (i := 2) k297_51 rfl rfl ?_
            refine sx_iconst (v := 2) k297_52 (by decide) ?_
            by_cases hb9 : p2 = (2 : Int32)
            · rw [if_pos hb9] at h
              refine sx_icmp_ne (tgt := 65) k297_53 (by decide) (fun q => absurd hb9 q) (fun _ => ?_)
              refine sx_aload_n (i := 0) k297_56 rfl rfl ?_
              refine cx_getR (k := 56) k297_57 ow_297 fl_12_312 (by decide) sk_129 ft_11_56 sr_129_56 ?_
              refine sx_iload_n (i := 3) k297_60 rfl rfl ?_
              obtain ⟨x12, e13, h⟩ := Option.bind_eq_some_iff.mp h
              refine cx_iald k297_61 sk_154 e13 ?_
              refine sx_goto (tgt := 71) k297_62 (by decide) ?_
              exact cx_reti k297_71 rt_297 h
            · rw [if_neg hb9] at h
              refine sx_icmp_ne (tgt := 65) k297_53 (by decide) (fun _ => ?_) (fun q => absurd q hb9)
              refine sx_aload_n (i := 0) k297_65 rfl rfl ?_
              refine cx_getR (k := 57) k297_66 ow_297 fl_12_315 (by decide) sk_129 ft_11_57 sr_129_57 ?_
              refine sx_iload_n (i := 3) k297_69 rfl rfl ?_
              obtain ⟨x10, e11, h⟩ := Option.bind_eq_some_iff.mp h
              refine cx_iald k297_70 sk_155 e11 ?_
              exact cx_reti k297_71 rt_297 h
      · rw [if_neg hb5] at h
        refine sx_icmp_le (tgt := 19) k297_14 (by decide) (fun q => absurd q hb5) (fun _ => ?_)
        refine sx_iconst (v := -1) k297_17 (by decide) ?_
        exact cx_reti k297_18 rt_297 h
theorem k301_0 : decode (gb 301) 0 = .ok (.iload_n 1, 1) := by decide +kernel
theorem k301_1 : decode (gb 301) 1 = .ok (.ifCond .lt 17, 3) := by decide +kernel
theorem k301_4 : decode (gb 301) 4 = .ok (.iload_n 1, 1) := by decide +kernel
theorem k301_5 : decode (gb 301) 5 = .ok (.iconst 1, 1) := by decide +kernel
theorem k301_6 : decode (gb 301) 6 = .ok (.if_icmp .gt 12, 3) := by decide +kernel
theorem k301_9 : decode (gb 301) 9 = .ok (.iload_n 2, 1) := by decide +kernel
theorem k301_10 : decode (gb 301) 10 = .ok (.ifCond .lt 8, 3) := by decide +kernel
theorem k301_13 : decode (gb 301) 13 = .ok (.iload_n 2, 1) := by decide +kernel
theorem k301_14 : decode (gb 301) 14 = .ok (.iconst 3, 1) := by decide +kernel
theorem k301_15 : decode (gb 301) 15 = .ok (.if_icmp .le 5, 3) := by decide +kernel
theorem k301_18 : decode (gb 301) 18 = .ok (.iconst (-1), 1) := by decide +kernel
theorem k301_19 : decode (gb 301) 19 = .ok (.ireturn, 1) := by decide +kernel
theorem k301_20 : decode (gb 301) 20 = .ok (.aload_n 0, 1) := by decide +kernel
theorem k301_21 : decode (gb 301) 21 = .ok (.getfield 350, 3) := by decide +kernel
theorem k301_24 : decode (gb 301) 24 = .ok (.iload_n 1, 1) := by decide +kernel
theorem k301_25 : decode (gb 301) 25 = .ok (.iaload, 1) := by decide +kernel
theorem k301_26 : decode (gb 301) 26 = .ok (.istore_n 3, 1) := by decide +kernel
theorem k301_27 : decode (gb 301) 27 = .ok (.aload_n 0, 1) := by decide +kernel
theorem k301_28 : decode (gb 301) 28 = .ok (.getfield 350, 3) := by decide +kernel
theorem k301_31 : decode (gb 301) 31 = .ok (.iload_n 1, 1) := by decide +kernel
theorem k301_32 : decode (gb 301) 32 = .ok (.iload_n 2, 1) := by decide +kernel
theorem k301_33 : decode (gb 301) 33 = .ok (.iastore, 1) := by decide +kernel
theorem k301_34 : decode (gb 301) 34 = .ok (.iload_n 3, 1) := by decide +kernel
theorem k301_35 : decode (gb 301) 35 = .ok (.ireturn, 1) := by decide +kernel
/-- CraftHouseModel.ear(II)I -/
def f301 (p1 : Int32) (p2 : Int32) (μ : Mem) : Option (Mem × Int32) :=
  if p1 < 0 then
    some (μ, (-1 : Int32))
  else
    if (1 : Int32) < p1 then
      some (μ, (-1 : Int32))
    else
      if p2 < 0 then
        some (μ, (-1 : Int32))
      else
        if p2 ≤ (3 : Int32) then
          (ldA 156 p1 μ).bind fun x5 =>
          (stA 156 p1 p2 μ).bind fun m7 =>
          some (m7, x5)
        else
          some (μ, (-1 : Int32))
theorem ok301 {L : Nat} (p1 : Int32) (p2 : Int32) (μ : Mem) (res : Mem × Int32) (h : f301 p1 p2 μ = some res) : Mx 301 [.ref 129, .int p1, .int p2] (mk L μ) (mk L res.1, some (.int res.2)) := by
  refine Mx_of ml_301 (by rw [mx_301]; exact Nat.le_of_ble_eq_true rfl) ?_
  show Sx 301 0 [(0, .ref 129), (1, .int p1), (2, .int p2)] [] 0 0 (mk L μ) _
  unfold f301 at h
  refine sx_iload_n (i := 1) k301_0 rfl rfl ?_
  by_cases hb1 : p1 < 0
  · rw [if_pos hb1] at h
    refine sx_if_lt (tgt := 18) k301_1 (by decide) (fun _ => ?_) (fun q => absurd hb1 q)
    refine sx_iconst (v := -1) k301_18 (by decide) ?_
    exact cx_reti k301_19 rt_301 h
  · rw [if_neg hb1] at h
    refine sx_if_lt (tgt := 18) k301_1 (by decide) (fun q => absurd q hb1) (fun _ => ?_)
    refine sx_iload_n (i := 1) k301_4 rfl rfl ?_
    refine sx_iconst (v := 1) k301_5 (by decide) ?_
    by_cases hb2 : (1 : Int32) < p1
    · rw [if_pos hb2] at h
      refine sx_icmp_gt (tgt := 18) k301_6 (by decide) (fun _ => ?_) (fun q => absurd hb2 q)
      refine sx_iconst (v := -1) k301_18 (by decide) ?_
      exact cx_reti k301_19 rt_301 h
    · rw [if_neg hb2] at h
      refine sx_icmp_gt (tgt := 18) k301_6 (by decide) (fun q => absurd q hb2) (fun _ => ?_)
      refine sx_iload_n (i := 2) k301_9 rfl rfl ?_
      by_cases hb3 : p2 < 0
      · rw [if_pos hb3] at h
        refine sx_if_lt (tgt := 18) k301_10 (by decide) (fun _ => ?_) (fun q => absurd hb3 q)
        refine sx_iconst (v := -1) k301_18 (by decide) ?_
        exact cx_reti k301_19 rt_301 h
      · rw [if_neg hb3] at h
        refine sx_if_lt (tgt := 18) k301_10 (by decide) (fun q => absurd q hb3) (fun _ => ?_)
        refine sx_iload_n (i := 2) k301_13 rfl rfl ?_
        refine sx_iconst (v := 3) k301_14 (by decide) ?_
        by_cases hb4 : p2 ≤ (3 : Int32)
        · rw [if_pos hb4] at h
          refine sx_icmp_le (tgt := 20) k301_15 (by decide) (fun _ => ?_) (fun q => absurd hb4 q)
          refine sx_aload_n (i := 0) k301_20 rfl rfl ?_
          refine cx_getR (k := 59) k301_21 ow_301 fl_12_350 (by decide) sk_129 ft_11_59 sr_129_59 ?_
          refine sx_iload_n (i := 1) k301_24 rfl rfl ?_
          obtain ⟨x5, e6, h⟩ := Option.bind_eq_some_iff.mp h
          refine cx_iald k301_25 sk_156 e6 ?_
          refine cx_istore_n (lo2 := [(3, .int x5), (0, .ref 129), (1, .int p1), (2, .int p2)]) k301_26 rfl (by rw [mx_301]; decide) rfl ?_
          refine sx_aload_n (i := 0) k301_27 rfl rfl ?_
          refine cx_getR (k := 59) k301_28 ow_301 fl_12_350 (by decide) sk_129 ft_11_59 sr_129_59 ?_
          refine sx_iload_n (i := 1) k301_31 rfl rfl ?_
          refine sx_iload_n (i := 2) k301_32 rfl rfl ?_
          obtain ⟨m7, e8, h⟩ := Option.bind_eq_some_iff.mp h
          refine cx_iast k301_33 sk_156 e8 ?_
          refine sx_iload_n (i := 3) k301_34 rfl rfl ?_
          exact cx_reti k301_35 rt_301 h
        · rw [if_neg hb4] at h
          refine sx_icmp_le (tgt := 20) k301_15 (by decide) (fun q => absurd q hb4) (fun _ => ?_)
          refine sx_iconst (v := -1) k301_18 (by decide) ?_
          exact cx_reti k301_19 rt_301 h
theorem k304_0 : decode (gb 304) 0 = .ok (.iload_n 1, 1) := by decide +kernel
theorem k304_1 : decode (gb 304) 1 = .ok (.bipush 21, 2) := by decide +kernel
theorem k304_3 : decode (gb 304) 3 = .ok (.if_icmp .ne 10, 3) := by decide +kernel
theorem k304_6 : decode (gb 304) 6 = .ok (.aload_n 0, 1) := by decide +kernel
theorem k304_7 : decode (gb 304) 7 = .ok (.getfield 402, 3) := by decide +kernel
theorem k304_10 : decode (gb 304) 10 = .ok (.goto 22, 3) := by decide +kernel
theorem k304_13 : decode (gb 304) 13 = .ok (.iload_n 1, 1) := by decide +kernel
theorem k304_14 : decode (gb 304) 14 = .ok (.bipush 23, 2) := by decide +kernel
theorem k304_16 : decode (gb 304) 16 = .ok (.if_icmp .ne 10, 3) := by decide +kernel
theorem k304_19 : decode (gb 304) 19 = .ok (.aload_n 0, 1) := by decide +kernel
theorem k304_20 : decode (gb 304) 20 = .ok (.getfield 405, 3) := by decide +kernel
theorem k304_23 : decode (gb 304) 23 = .ok (.goto 9, 3) := by decide +kernel
theorem k304_26 : decode (gb 304) 26 = .ok (.aload_n 0, 1) := by decide +kernel
theorem k304_27 : decode (gb 304) 27 = .ok (.getfield 126, 3) := by decide +kernel
theorem k304_30 : decode (gb 304) 30 = .ok (.iload_n 1, 1) := by decide +kernel
theorem k304_31 : decode (gb 304) 31 = .ok (.iaload, 1) := by decide +kernel
theorem k304_32 : decode (gb 304) 32 = .ok (.ireturn, 1) := by decide +kernel
/-- CraftHouseModel.valueOf(I)I -/
def f304 (p1 : Int32) (μ : Mem) : Option (Mem × Int32) :=
  if p1 = (21 : Int32) then
    some (μ, (μ.1 129 130))
  else
    if p1 = (23 : Int32) then
      some (μ, (μ.1 129 77))
    else
      (ldA 162 p1 μ).bind fun x3 =>
      some (μ, x3)
theorem ok304 {L : Nat} (p1 : Int32) (μ : Mem) (res : Mem × Int32) (h : f304 p1 μ = some res) : Mx 304 [.ref 129, .int p1] (mk L μ) (mk L res.1, some (.int res.2)) := by
  refine Mx_of ml_304 (by rw [mx_304]; exact Nat.le_of_ble_eq_true rfl) ?_
  show Sx 304 0 [(0, .ref 129), (1, .int p1)] [] 0 0 (mk L μ) _
  unfold f304 at h
  refine sx_iload_n (i := 1) k304_0 rfl rfl ?_
  refine sx_bipush (v := 21) k304_1 (by decide) ?_
  by_cases hb1 : p1 = (21 : Int32)
  · rw [if_pos hb1] at h
    refine sx_icmp_ne (tgt := 13) k304_3 (by decide) (fun q => absurd hb1 q) (fun _ => ?_)
    refine sx_aload_n (i := 0) k304_6 rfl rfl ?_
    refine cx_getI (k := 130) k304_7 ow_304 fl_12_402 (by decide) sk_129 ft_11_130 ?_
    refine sx_goto (tgt := 32) k304_10 (by decide) ?_
    exact cx_reti k304_32 rt_304 h
  · rw [if_neg hb1] at h
    refine sx_icmp_ne (tgt := 13) k304_3 (by decide) (fun _ => ?_) (fun q => absurd q hb1)
    refine sx_iload_n (i := 1) k304_13 rfl rfl ?_
    refine sx_bipush (v := 23) k304_14 (by decide) ?_
    by_cases hb2 : p1 = (23 : Int32)
    · rw [if_pos hb2] at h
      refine sx_icmp_ne (tgt := 26) k304_16 (by decide) (fun q => absurd hb2 q) (fun _ => ?_)
      refine sx_aload_n (i := 0) k304_19 rfl rfl ?_
      refine cx_getI (k := 77) k304_20 ow_304 fl_12_405 (by decide) sk_129 ft_11_77 ?_
      refine sx_goto (tgt := 32) k304_23 (by decide) ?_
      exact cx_reti k304_32 rt_304 h
    · rw [if_neg hb2] at h
      refine sx_icmp_ne (tgt := 26) k304_16 (by decide) (fun _ => ?_) (fun q => absurd q hb2)
      refine sx_aload_n (i := 0) k304_26 rfl rfl ?_
      refine cx_getR (k := 78) k304_27 ow_304 fl_12_126 (by decide) sk_129 ft_11_78 sr_129_78 ?_
      refine sx_iload_n (i := 1) k304_30 rfl rfl ?_
      obtain ⟨x3, e4, h⟩ := Option.bind_eq_some_iff.mp h
      refine cx_iald k304_31 sk_162 e4 ?_
      exact cx_reti k304_32 rt_304 h
theorem k309_0 : decode (gb 309) 0 = .ok (.iload_n 1, 1) := by decide +kernel
theorem k309_1 : decode (gb 309) 1 = .ok (.ifCond .lt 18, 3) := by decide +kernel
theorem k309_4 : decode (gb 309) 4 = .ok (.iload_n 1, 1) := by decide +kernel
theorem k309_5 : decode (gb 309) 5 = .ok (.iconst 1, 1) := by decide +kernel
theorem k309_6 : decode (gb 309) 6 = .ok (.if_icmp .gt 13, 3) := by decide +kernel
theorem k309_9 : decode (gb 309) 9 = .ok (.iload_n 2, 1) := by decide +kernel
theorem k309_10 : decode (gb 309) 10 = .ok (.ifCond .lt 9, 3) := by decide +kernel
theorem k309_13 : decode (gb 309) 13 = .ok (.iload_n 2, 1) := by decide +kernel
theorem k309_14 : decode (gb 309) 14 = .ok (.bipush 7, 2) := by decide +kernel
theorem k309_16 : decode (gb 309) 16 = .ok (.if_icmp .le 5, 3) := by decide +kernel
theorem k309_19 : decode (gb 309) 19 = .ok (.iconst (-1), 1) := by decide +kernel
theorem k309_20 : decode (gb 309) 20 = .ok (.ireturn, 1) := by decide +kernel
theorem k309_21 : decode (gb 309) 21 = .ok (.aload_n 0, 1) := by decide +kernel
theorem k309_22 : decode (gb 309) 22 = .ok (.getfield 456, 3) := by decide +kernel
theorem k309_25 : decode (gb 309) 25 = .ok (.iload_n 1, 1) := by decide +kernel
theorem k309_26 : decode (gb 309) 26 = .ok (.iaload, 1) := by decide +kernel
theorem k309_27 : decode (gb 309) 27 = .ok (.ifCond .ne 7, 3) := by decide +kernel
theorem k309_30 : decode (gb 309) 30 = .ok (.iconst 1, 1) := by decide +kernel
theorem k309_31 : decode (gb 309) 31 = .ok (.goto 4, 3) := by decide +kernel
theorem k309_34 : decode (gb 309) 34 = .ok (.iconst 0, 1) := by decide +kernel
theorem k309_35 : decode (gb 309) 35 = .ok (.istore_n 3, 1) := by decide +kernel
theorem k309_36 : decode (gb 309) 36 = .ok (.iload_n 2, 1) := by decide +kernel
theorem k309_37 : decode (gb 309) 37 = .ok (.tableswitch 112 0 6 #[43, 50, 65, 72, 79, 86, 93], 43) := by decide +kernel
theorem k309_80 : decode (gb 309) 80 = .ok (.aload_n 0, 1) := by decide +kernel
theorem k309_81 : decode (gb 309) 81 = .ok (.getfield 444, 3) := by decide +kernel
theorem k309_84 : decode (gb 309) 84 = .ok (.iload_n 1, 1) := by decide +kernel
theorem k309_85 : decode (gb 309) 85 = .ok (.iaload, 1) := by decide +kernel
theorem k309_86 : decode (gb 309) 86 = .ok (.ireturn, 1) := by decide +kernel
theorem k309_87 : decode (gb 309) 87 = .ok (.aload_n 0, 1) := by decide +kernel
theorem k309_88 : decode (gb 309) 88 = .ok (.getfield 417, 3) := by decide +kernel
theorem k309_91 : decode (gb 309) 91 = .ok (.iload_n 1, 1) := by decide +kernel
theorem k309_92 : decode (gb 309) 92 = .ok (.baload, 1) := by decide +kernel
theorem k309_93 : decode (gb 309) 93 = .ok (.ifCond .eq 7, 3) := by decide +kernel
theorem k309_96 : decode (gb 309) 96 = .ok (.iconst 1, 1) := by decide +kernel
theorem k309_97 : decode (gb 309) 97 = .ok (.goto 4, 3) := by decide +kernel
theorem k309_100 : decode (gb 309) 100 = .ok (.iconst 0, 1) := by decide +kernel
theorem k309_101 : decode (gb 309) 101 = .ok (.ireturn, 1) := by decide +kernel
theorem k309_102 : decode (gb 309) 102 = .ok (.aload_n 0, 1) := by decide +kernel
theorem k309_103 : decode (gb 309) 103 = .ok (.getfield 456, 3) := by decide +kernel
theorem k309_106 : decode (gb 309) 106 = .ok (.iload_n 1, 1) := by decide +kernel
theorem k309_107 : decode (gb 309) 107 = .ok (.iaload, 1) := by decide +kernel
theorem k309_108 : decode (gb 309) 108 = .ok (.ireturn, 1) := by decide +kernel
theorem k309_109 : decode (gb 309) 109 = .ok (.aload_n 0, 1) := by decide +kernel
theorem k309_110 : decode (gb 309) 110 = .ok (.getfield 447, 3) := by decide +kernel
theorem k309_113 : decode (gb 309) 113 = .ok (.iload_n 1, 1) := by decide +kernel
theorem k309_114 : decode (gb 309) 114 = .ok (.iaload, 1) := by decide +kernel
theorem k309_115 : decode (gb 309) 115 = .ok (.ireturn, 1) := by decide +kernel
theorem k309_116 : decode (gb 309) 116 = .ok (.aload_n 0, 1) := by decide +kernel
theorem k309_117 : decode (gb 309) 117 = .ok (.getfield 450, 3) := by decide +kernel
theorem k309_120 : decode (gb 309) 120 = .ok (.iload_n 1, 1) := by decide +kernel
theorem k309_121 : decode (gb 309) 121 = .ok (.iaload, 1) := by decide +kernel
theorem k309_122 : decode (gb 309) 122 = .ok (.ireturn, 1) := by decide +kernel
theorem k309_123 : decode (gb 309) 123 = .ok (.aload_n 0, 1) := by decide +kernel
theorem k309_124 : decode (gb 309) 124 = .ok (.getfield 438, 3) := by decide +kernel
theorem k309_127 : decode (gb 309) 127 = .ok (.iload_n 1, 1) := by decide +kernel
theorem k309_128 : decode (gb 309) 128 = .ok (.iaload, 1) := by decide +kernel
theorem k309_129 : decode (gb 309) 129 = .ok (.ireturn, 1) := by decide +kernel
theorem k309_130 : decode (gb 309) 130 = .ok (.iload_n 3, 1) := by decide +kernel
theorem k309_131 : decode (gb 309) 131 = .ok (.ifCond .eq 8, 3) := by decide +kernel
theorem k309_134 : decode (gb 309) 134 = .ok (.bipush (-2), 2) := by decide +kernel
theorem k309_136 : decode (gb 309) 136 = .ok (.goto 12, 3) := by decide +kernel
theorem k309_139 : decode (gb 309) 139 = .ok (.aload_n 0, 1) := by decide +kernel
theorem k309_140 : decode (gb 309) 140 = .ok (.getfield 465, 3) := by decide +kernel
theorem k309_143 : decode (gb 309) 143 = .ok (.bipush 90, 2) := by decide +kernel
theorem k309_145 : decode (gb 309) 145 = .ok (.iload_n 1, 1) := by decide +kernel
theorem k309_146 : decode (gb 309) 146 = .ok (.imul, 1) := by decide +kernel
theorem k309_147 : decode (gb 309) 147 = .ok (.iaload, 1) := by decide +kernel
theorem k309_148 : decode (gb 309) 148 = .ok (.ireturn, 1) := by decide +kernel
theorem k309_149 : decode (gb 309) 149 = .ok (.iload_n 3, 1) := by decide +kernel
theorem k309_150 : decode (gb 309) 150 = .ok (.ifCond .eq 8, 3) := by decide +kernel
theorem k309_153 : decode (gb 309) 153 = .ok (.bipush (-2), 2) := by decide +kernel
theorem k309_155 : decode (gb 309) 155 = .ok (.goto 21, 3) := by decide +kernel
theorem k309_158 : decode (gb 309) 158 = .ok (.aload_n 0, 1) := by decide +kernel
theorem k309_159 : decode (gb 309) 159 = .ok (.getfield 465, 3) := by decide +kernel
theorem k309_162 : decode (gb 309) 162 = .ok (.bipush 90, 2) := by decide +kernel
theorem k309_164 : decode (gb 309) 164 = .ok (.iload_n 1, 1) := by decide +kernel
theorem k309_165 : decode (gb 309) 165 = .ok (.imul, 1) := by decide +kernel
theorem k309_166 : decode (gb 309) 166 = .ok (.aload_n 0, 1) := by decide +kernel
theorem k309_167 : decode (gb 309) 167 = .ok (.getfield 456, 3) := by decide +kernel
theorem k309_170 : decode (gb 309) 170 = .ok (.iload_n 1, 1) := by decide +kernel
theorem k309_171 : decode (gb 309) 171 = .ok (.iaload, 1) := by decide +kernel
theorem k309_172 : decode (gb 309) 172 = .ok (.iadd, 1) := by decide +kernel
theorem k309_173 : decode (gb 309) 173 = .ok (.iconst 1, 1) := by decide +kernel
theorem k309_174 : decode (gb 309) 174 = .ok (.isub, 1) := by decide +kernel
theorem k309_175 : decode (gb 309) 175 = .ok (.iaload, 1) := by decide +kernel
theorem k309_176 : decode (gb 309) 176 = .ok (.ireturn, 1) := by decide +kernel
def c309_35 (v1 : Int32) (v2 : Int32) (s0 : Int32) (μ : Mem) : Option (Mem × Int32) :=
  if v2 = (0 : Int32) then
    (ldA 169 v1 μ).bind fun x1 =>
    some (μ, x1)
  else if v2 = (1 : Int32) then
    (ldA 170 v1 μ).bind fun x4 =>
    if x4 = 0 then
      some (μ, (0 : Int32))
    else
      some (μ, (1 : Int32))
  else if v2 = (2 : Int32) then
    (ldA 171 v1 μ).bind fun x8 =>
    some (μ, x8)
  else if v2 = (3 : Int32) then
    (ldA 172 v1 μ).bind fun x11 =>
    some (μ, x11)
  else if v2 = (4 : Int32) then
    (ldA 173 v1 μ).bind fun x14 =>
    some (μ, x14)
  else if v2 = (5 : Int32) then
    (ldA 174 v1 μ).bind fun x17 =>
    some (μ, x17)
  else if v2 = (6 : Int32) then
    if s0 = 0 then
      (ldA 178 ((90 : Int32) * v1) μ).bind fun x21 =>
      some (μ, x21)
    else
      some (μ, (-2 : Int32))
  else 
    if s0 = 0 then
      (ldA 171 v1 μ).bind fun x25 =>
      (ldA 178 ((((90 : Int32) * v1) + x25) - (1 : Int32)) μ).bind fun x27 =>
      some (μ, x27)
    else
      some (μ, (-2 : Int32))
theorem c309_35_ok {L : Nat} (v1 : Int32) (v2 : Int32) (s0 : Int32) (μ : Mem) (res : Mem × Int32) (h : c309_35 v1 v2 s0 μ = some res) : Sx 309 35 [(0, .ref 129), (1, .int v1), (2, .int v2)] [.int s0] 0 0 (mk L μ) (mk L res.1, some (.int res.2)) := by
  unfold c309_35 at h
  refine cx_istore_n (lo2 := [(3, .int s0), (0, .ref 129), (1, .int v1), (2, .int v2)]) k309_35 rfl (by rw [mx_309]; decide) rfl ?_
  refine sx_iload_n (i := 2) k309_36 rfl rfl ?_
  by_cases hb3 : v2 = (0 : Int32)
  · rw [if_pos hb3] at h
    refine sx_tableIn (off := 43) (tgt := 80) k309_37 (by rw [hb3]; decide) (by rw [hb3]; decide) (by rw [hb3]; rfl) (by decide) ?_
    refine sx_aload_n (i := 0) k309_80 rfl rfl ?_
    refine cx_getR (k := 91) k309_81 ow_309 fl_12_444 (by decide) sk_129 ft_11_91 sr_129_91 ?_
    refine sx_iload_n (i := 1) k309_84 rfl rfl ?_
    obtain ⟨x1, e2, h⟩ := Option.bind_eq_some_iff.mp h
    refine cx_iald k309_85 sk_169 e2 ?_
    exact cx_reti k309_86 rt_309 h
  · rw [if_neg hb3] at h
    by_cases hb7 : v2 = (1 : Int32)
    · rw [if_pos hb7] at h
      refine sx_tableIn (off := 50) (tgt := 87) k309_37 (by rw [hb7]; decide) (by rw [hb7]; decide) (by rw [hb7]; rfl) (by decide) ?_
      refine sx_aload_n (i := 0) k309_87 rfl rfl ?_
      refine cx_getR (k := 92) k309_88 ow_309 fl_12_417 (by decide) sk_129 ft_11_92 sr_129_92 ?_
      refine sx_iload_n (i := 1) k309_91 rfl rfl ?_
      obtain ⟨x4, e5, h⟩ := Option.bind_eq_some_iff.mp h
      refine cx_bald k309_92 (Or.inr sk_170) e5 ?_
      by_cases hb6 : x4 = 0
      · rw [if_pos hb6] at h
        refine sx_if_eq (tgt := 100) k309_93 (by decide) (fun _ => ?_) (fun q => absurd hb6 q)
        refine sx_iconst (v := 0) k309_100 (by decide) ?_
        exact cx_reti k309_101 rt_309 h
      · rw [if_neg hb6] at h
        refine sx_if_eq (tgt := 100) k309_93 (by decide) (fun q => absurd q hb6) (fun _ => ?_)
        refine sx_iconst (v := 1) k309_96 (by decide) ?_
        refine sx_goto (tgt := 101) k309_97 (by decide) ?_
        exact cx_reti k309_101 rt_309 h
    · rw [if_neg hb7] at h
      by_cases hb10 : v2 = (2 : Int32)
      · rw [if_pos hb10] at h
        refine sx_tableIn (off := 65) (tgt := 102) k309_37 (by rw [hb10]; decide) (by rw [hb10]; decide) (by rw [hb10]; rfl) (by decide) ?_
        refine sx_aload_n (i := 0) k309_102 rfl rfl ?_
        refine cx_getR (k := 93) k309_103 ow_309 fl_12_456 (by decide) sk_129 ft_11_93 sr_129_93 ?_
        refine sx_iload_n (i := 1) k309_106 rfl rfl ?_
        obtain ⟨x8, e9, h⟩ := Option.bind_eq_some_iff.mp h
        refine cx_iald k309_107 sk_171 e9 ?_
        exact cx_reti k309_108 rt_309 h
      · rw [if_neg hb10] at h
        by_cases hb13 : v2 = (3 : Int32)
        · rw [if_pos hb13] at h
          refine sx_tableIn (off := 72) (tgt := 109) k309_37 (by rw [hb13]; decide) (by rw [hb13]; decide) (by rw [hb13]; rfl) (by decide) ?_
          refine sx_aload_n (i := 0) k309_109 rfl rfl ?_
          refine cx_getR (k := 94) k309_110 ow_309 fl_12_447 (by decide) sk_129 ft_11_94 sr_129_94 ?_
          refine sx_iload_n (i := 1) k309_113 rfl rfl ?_
          obtain ⟨x11, e12, h⟩ := Option.bind_eq_some_iff.mp h
          refine cx_iald k309_114 sk_172 e12 ?_
          exact cx_reti k309_115 rt_309 h
        · rw [if_neg hb13] at h
          by_cases hb16 : v2 = (4 : Int32)
          · rw [if_pos hb16] at h
            refine sx_tableIn (off := 79) (tgt := 116) k309_37 (by rw [hb16]; decide) (by rw [hb16]; decide) (by rw [hb16]; rfl) (by decide) ?_
            refine sx_aload_n (i := 0) k309_116 rfl rfl ?_
            refine cx_getR (k := 95) k309_117 ow_309 fl_12_450 (by decide) sk_129 ft_11_95 sr_129_95 ?_
            refine sx_iload_n (i := 1) k309_120 rfl rfl ?_
            obtain ⟨x14, e15, h⟩ := Option.bind_eq_some_iff.mp h
            refine cx_iald k309_121 sk_173 e15 ?_
            exact cx_reti k309_122 rt_309 h
          · rw [if_neg hb16] at h
            by_cases hb19 : v2 = (5 : Int32)
            · rw [if_pos hb19] at h
              refine sx_tableIn (off := 86) (tgt := 123) k309_37 (by rw [hb19]; decide) (by rw [hb19]; decide) (by rw [hb19]; rfl) (by decide) ?_
              refine sx_aload_n (i := 0) k309_123 rfl rfl ?_
              refine cx_getR (k := 96) k309_124 ow_309 fl_12_438 (by decide) sk_129 ft_11_96 sr_129_96 ?_
              refine sx_iload_n (i := 1) k309_127 rfl rfl ?_
              obtain ⟨x17, e18, h⟩ := Option.bind_eq_some_iff.mp h
              refine cx_iald k309_128 sk_174 e18 ?_
              exact cx_reti k309_129 rt_309 h
            · rw [if_neg hb19] at h
              by_cases hb23 : v2 = (6 : Int32)
              · rw [if_pos hb23] at h
                refine sx_tableIn (off := 93) (tgt := 130) k309_37 (by rw [hb23]; decide) (by rw [hb23]; decide) (by rw [hb23]; rfl) (by decide) ?_
                refine sx_iload_n (i := 3) k309_130 rfl rfl ?_
                by_cases hb20 : s0 = 0
                · rw [if_pos hb20] at h
                  refine sx_if_eq (tgt := 139) k309_131 (by decide) (fun _ => ?_) (fun q => absurd hb20 q)
                  refine sx_aload_n (i := 0) k309_139 rfl rfl ?_
                  refine cx_getR (k := 100) k309_140 ow_309 fl_12_465 (by decide) sk_129 ft_11_100 sr_129_100 ?_
                  refine sx_bipush (v := 90) k309_143 (by decide) ?_
                  refine sx_iload_n (i := 1) k309_145 rfl rfl ?_
                  refine sx_imul k309_146 ?_
                  obtain ⟨x21, e22, h⟩ := Option.bind_eq_some_iff.mp h
                  refine cx_iald k309_147 sk_178 e22 ?_
                  exact cx_reti k309_148 rt_309 h
                · rw [if_neg hb20] at h
                  refine sx_if_eq (tgt := 139) k309_131 (by decide) (fun q => absurd q hb20) (fun _ => ?_)
                  refine sx_bipush (v := -2) k309_134 (by decide) ?_
                  refine sx_goto (tgt := 148) k309_136 (by decide) ?_
                  exact cx_reti k309_148 rt_309 h
              · rw [if_neg hb23] at h
                refine sx_tableOut (tgt := 149) k309_37 (sw_out (n := 7) (fun j hj => ?_)) (by decide) ?_
                · intro hj2
                  exact sw_no [(0 : Int32), (1 : Int32), (2 : Int32), (3 : Int32), (4 : Int32), (5 : Int32), (6 : Int32)] (by decide) hj hj2 ⟨hb3, hb7, hb10, hb13, hb16, hb19, hb23, trivial⟩
                ·
                  refine sx_iload_n (i := 3) k309_149 rfl rfl ?_
                  by_cases hb24 : s0 = 0
                  · rw [if_pos hb24] at h
                    refine sx_if_eq (tgt := 158) k309_150 (by decide) (fun _ => ?_) (fun q => absurd hb24 q)
                    refine sx_aload_n (i := 0) k309_158 rfl rfl ?_
                    refine cx_getR (k := 100) k309_159 ow_309 fl_12_465 (by decide) sk_129 ft_11_100 sr_129_100 ?_
                    refine sx_bipush (v := 90) k309_162 (by decide) ?_
                    refine sx_iload_n (i := 1) k309_164 rfl rfl ?_
                    refine sx_imul k309_165 ?_
                    refine sx_aload_n (i := 0) k309_166 rfl rfl ?_
                    refine cx_getR (k := 93) k309_167 ow_309 fl_12_456 (by decide) sk_129 ft_11_93 sr_129_93 ?_
                    refine sx_iload_n (i := 1) k309_170 rfl rfl ?_
                    obtain ⟨x25, e26, h⟩ := Option.bind_eq_some_iff.mp h
                    refine cx_iald k309_171 sk_171 e26 ?_
                    refine sx_iadd k309_172 ?_
                    refine sx_iconst (v := 1) k309_173 (by decide) ?_
                    refine sx_isub k309_174 ?_
                    obtain ⟨x27, e28, h⟩ := Option.bind_eq_some_iff.mp h
                    refine cx_iald k309_175 sk_178 e28 ?_
                    exact cx_reti k309_176 rt_309 h
                  · rw [if_neg hb24] at h
                    refine sx_if_eq (tgt := 158) k309_150 (by decide) (fun q => absurd q hb24) (fun _ => ?_)
                    refine sx_bipush (v := -2) k309_153 (by decide) ?_
                    refine sx_goto (tgt := 176) k309_155 (by decide) ?_
                    exact cx_reti k309_176 rt_309 h
/-- CraftHouseModel.store(II)I -/
def f309 (p1 : Int32) (p2 : Int32) (μ : Mem) : Option (Mem × Int32) :=
  if p1 < 0 then
    some (μ, (-1 : Int32))
  else
    if (1 : Int32) < p1 then
      some (μ, (-1 : Int32))
    else
      if p2 < 0 then
        some (μ, (-1 : Int32))
      else
        if p2 ≤ (7 : Int32) then
          (ldA 171 p1 μ).bind fun x5 =>
          if x5 = 0 then
            c309_35 p1 p2 (1 : Int32) μ
          else
            c309_35 p1 p2 (0 : Int32) μ
        else
          some (μ, (-1 : Int32))
theorem ok309 {L : Nat} (p1 : Int32) (p2 : Int32) (μ : Mem) (res : Mem × Int32) (h : f309 p1 p2 μ = some res) : Mx 309 [.ref 129, .int p1, .int p2] (mk L μ) (mk L res.1, some (.int res.2)) := by
  refine Mx_of ml_309 (by rw [mx_309]; exact Nat.le_of_ble_eq_true rfl) ?_
  show Sx 309 0 [(0, .ref 129), (1, .int p1), (2, .int p2)] [] 0 0 (mk L μ) _
  unfold f309 at h
  refine sx_iload_n (i := 1) k309_0 rfl rfl ?_
  by_cases hb1 : p1 < 0
  · rw [if_pos hb1] at h
    refine sx_if_lt (tgt := 19) k309_1 (by decide) (fun _ => ?_) (fun q => absurd hb1 q)
    refine sx_iconst (v := -1) k309_19 (by decide) ?_
    exact cx_reti k309_20 rt_309 h
  · rw [if_neg hb1] at h
    refine sx_if_lt (tgt := 19) k309_1 (by decide) (fun q => absurd q hb1) (fun _ => ?_)
    refine sx_iload_n (i := 1) k309_4 rfl rfl ?_
    refine sx_iconst (v := 1) k309_5 (by decide) ?_
    by_cases hb2 : (1 : Int32) < p1
    · rw [if_pos hb2] at h
      refine sx_icmp_gt (tgt := 19) k309_6 (by decide) (fun _ => ?_) (fun q => absurd hb2 q)
      refine sx_iconst (v := -1) k309_19 (by decide) ?_
      exact cx_reti k309_20 rt_309 h
    · rw [if_neg hb2] at h
      refine sx_icmp_gt (tgt := 19) k309_6 (by decide) (fun q => absurd q hb2) (fun _ => ?_)
      refine sx_iload_n (i := 2) k309_9 rfl rfl ?_
      by_cases hb3 : p2 < 0
      · rw [if_pos hb3] at h
        refine sx_if_lt (tgt := 19) k309_10 (by decide) (fun _ => ?_) (fun q => absurd hb3 q)
        refine sx_iconst (v := -1) k309_19 (by decide) ?_
        exact cx_reti k309_20 rt_309 h
      · rw [if_neg hb3] at h
        refine sx_if_lt (tgt := 19) k309_10 (by decide) (fun q => absurd q hb3) (fun _ => ?_)
        refine sx_iload_n (i := 2) k309_13 rfl rfl ?_
        refine sx_bipush (v := 7) k309_14 (by decide) ?_
        by_cases hb4 : p2 ≤ (7 : Int32)
        · rw [if_pos hb4] at h
          refine sx_icmp_le (tgt := 21) k309_16 (by decide) (fun _ => ?_) (fun q => absurd hb4 q)
          refine sx_aload_n (i := 0) k309_21 rfl rfl ?_
          refine cx_getR (k := 93) k309_22 ow_309 fl_12_456 (by decide) sk_129 ft_11_93 sr_129_93 ?_
          refine sx_iload_n (i := 1) k309_25 rfl rfl ?_
          obtain ⟨x5, e6, h⟩ := Option.bind_eq_some_iff.mp h
          refine cx_iald k309_26 sk_171 e6 ?_
          by_cases hb7 : x5 = 0
          · rw [if_pos hb7] at h
            refine sx_if_ne (tgt := 34) k309_27 (by decide) (fun q => absurd hb7 q) (fun _ => ?_)
            refine sx_iconst (v := 1) k309_30 (by decide) ?_
            refine sx_goto (tgt := 35) k309_31 (by decide) ?_
            refine sx_pick (lo2 := [(0, .ref 129), (1, .int p1), (2, .int p2)]) [0, 1, 2] rfl ?_
            exact c309_35_ok p1 p2 (1 : Int32) _ _ h
          · rw [if_neg hb7] at h
            refine sx_if_ne (tgt := 34) k309_27 (by decide) (fun _ => ?_) (fun q => absurd q hb7)
            refine sx_iconst (v := 0) k309_34 (by decide) ?_
            refine sx_pick (lo2 := [(0, .ref 129), (1, .int p1), (2, .int p2)]) [0, 1, 2] rfl ?_
            exact c309_35_ok p1 p2 (0 : Int32) _ _ h
        · rw [if_neg hb4] at h
          refine sx_icmp_le (tgt := 21) k309_16 (by decide) (fun q => absurd q hb4) (fun _ => ?_)
          refine sx_iconst (v := -1) k309_19 (by decide) ?_
          exact cx_reti k309_20 rt_309 h
theorem k320_0 : decode (gb 320) 0 = .ok (.iconst 1, 1) := by decide +kernel
theorem k320_1 : decode (gb 320) 1 = .ok (.istore 5, 2) := by decide +kernel
theorem k320_3 : decode (gb 320) 3 = .ok (.iconst 0, 1) := by decide +kernel
theorem k320_4 : decode (gb 320) 4 = .ok (.istore 6, 2) := by decide +kernel
theorem k320_6 : decode (gb 320) 6 = .ok (.iload 6, 2) := by decide +kernel
theorem k320_8 : decode (gb 320) 8 = .ok (.iload_n 2, 1) := by decide +kernel
theorem k320_9 : decode (gb 320) 9 = .ok (.if_icmp .ge 37, 3) := by decide +kernel
theorem k320_12 : decode (gb 320) 12 = .ok (.iload 5, 2) := by decide +kernel
theorem k320_14 : decode (gb 320) 14 = .ok (.ifCond .eq 23, 3) := by decide +kernel
theorem k320_17 : decode (gb 320) 17 = .ok (.aload_n 0, 1) := by decide +kernel
theorem k320_18 : decode (gb 320) 18 = .ok (.getfield 513, 3) := by decide +kernel
theorem k320_21 : decode (gb 320) 21 = .ok (.iload_n 1, 1) := by decide +kernel
theorem k320_22 : decode (gb 320) 22 = .ok (.iload_n 3, 1) := by decide +kernel
theorem k320_23 : decode (gb 320) 23 = .ok (.iload 6, 2) := by decide +kernel
theorem k320_25 : decode (gb 320) 25 = .ok (.imul, 1) := by decide +kernel
theorem k320_26 : decode (gb 320) 26 = .ok (.iadd, 1) := by decide +kernel
theorem k320_27 : decode (gb 320) 27 = .ok (.iaload, 1) := by decide +kernel
theorem k320_28 : decode (gb 320) 28 = .ok (.iload 4, 2) := by decide +kernel
theorem k320_30 : decode (gb 320) 30 = .ok (.if_icmp .gt 7, 3) := by decide +kernel
theorem k320_33 : decode (gb 320) 33 = .ok (.iconst 1, 1) := by decide +kernel
theorem k320_34 : decode (gb 320) 34 = .ok (.goto 4, 3) := by decide +kernel
theorem k320_37 : decode (gb 320) 37 = .ok (.iconst 0, 1) := by decide +kernel
theorem k320_38 : decode (gb 320) 38 = .ok (.istore 5, 2) := by decide +kernel
theorem k320_40 : decode (gb 320) 40 = .ok (.iinc 6 1, 3) := by decide +kernel
theorem k320_43 : decode (gb 320) 43 = .ok (.goto (-37), 3) := by decide +kernel
theorem k320_46 : decode (gb 320) 46 = .ok (.iload 5, 2) := by decide +kernel
theorem k320_48 : decode (gb 320) 48 = .ok (.ireturn, 1) := by decide +kernel
def c320_38 (kl6 : Int32 → Int32 → Int32 → Int32 → Int32 → Int32 → Mem → Option (Mem × Int32)) (v1 : Int32) (v2 : Int32) (v3 : Int32) (v4 : Int32) (v6 : Int32) (s0 : Int32) (μ : Mem) : Option (Mem × Int32) :=
  nm (v6 + (1 : Int32)) fun x1 =>
  kl6 v1 v2 v3 v4 s0 x1 μ
theorem c320_38_ok {L : Nat} (kl6 : Int32 → Int32 → Int32 → Int32 → Int32 → Int32 → Mem → Option (Mem × Int32)) (hk6 : (∀ (v1 : Int32) (v2 : Int32) (v3 : Int32) (v4 : Int32) (v5 : Int32) (v6 : Int32) (μ : Mem) (res : Mem × Int32), kl6 v1 v2 v3 v4 v5 v6 μ = some res → Sx 320 6 [(0, .ref 129), (1, .int v1), (2, .int v2), (3, .int v3), (4, .int v4), (5, .int v5), (6, .int v6)] [] 0 0 (mk L μ) (mk L res.1, some (.int res.2)))) (v1 : Int32) (v2 : Int32) (v3 : Int32) (v4 : Int32) (v6 : Int32) (s0 : Int32) (μ : Mem) (res : Mem × Int32) (h : c320_38 kl6 v1 v2 v3 v4 v6 s0 μ = some res) : Sx 320 38 [(0, .ref 129), (1, .int v1), (2, .int v2), (3, .int v3), (4, .int v4), (6, .int v6)] [.int s0] 0 0 (mk L μ) (mk L res.1, some (.int res.2)) := by
  unfold c320_38 at h
  refine cx_istore (lo2 := [(5, .int s0), (0, .ref 129), (1, .int v1), (2, .int v2), (3, .int v3), (4, .int v4), (6, .int v6)]) k320_38 (by rw [mx_320]; decide) rfl ?_
  refine cx_iinc (c := 1) (lo2 := fun x1 => [(6, .int x1), (5, .int s0), (0, .ref 129), (1, .int v1), (2, .int v2), (3, .int v3), (4, .int v4)]) k320_40 rfl (by decide) (by rw [mx_320]; decide) (fun _ => rfl) h (fun x1 h => ?_)
  refine sx_goto (tgt := 6) k320_43 (by decide) ?_
  refine sx_pick (lo2 := [(0, .ref 129), (1, .int v1), (2, .int v2), (3, .int v3), (4, .int v4), (5, .int s0), (6, .int x1)]) [2, 3, 4, 5, 6, 1, 0] rfl ?_
  exact hk6 v1 v2 v3 v4 s0 x1 _ _ h
def c320_37 (kl6 : Int32 → Int32 → Int32 → Int32 → Int32 → Int32 → Mem → Option (Mem × Int32)) (v1 : Int32) (v2 : Int32) (v3 : Int32) (v4 : Int32) (v6 : Int32) (μ : Mem) : Option (Mem × Int32) :=
  c320_38 kl6 v1 v2 v3 v4 v6 (0 : Int32) μ
theorem c320_37_ok {L : Nat} (kl6 : Int32 → Int32 → Int32 → Int32 → Int32 → Int32 → Mem → Option (Mem × Int32)) (hk6 : (∀ (v1 : Int32) (v2 : Int32) (v3 : Int32) (v4 : Int32) (v5 : Int32) (v6 : Int32) (μ : Mem) (res : Mem × Int32), kl6 v1 v2 v3 v4 v5 v6 μ = some res → Sx 320 6 [(0, .ref 129), (1, .int v1), (2, .int v2), (3, .int v3), (4, .int v4), (5, .int v5), (6, .int v6)] [] 0 0 (mk L μ) (mk L res.1, some (.int res.2)))) (v1 : Int32) (v2 : Int32) (v3 : Int32) (v4 : Int32) (v6 : Int32) (μ : Mem) (res : Mem × Int32) (h : c320_37 kl6 v1 v2 v3 v4 v6 μ = some res) : Sx 320 37 [(0, .ref 129), (1, .int v1), (2, .int v2), (3, .int v3), (4, .int v4), (6, .int v6)] [] 0 0 (mk L μ) (mk L res.1, some (.int res.2)) := by
  unfold c320_37 at h
  refine sx_iconst (v := 0) k320_37 (by decide) ?_
  refine sx_pick (lo2 := [(0, .ref 129), (1, .int v1), (2, .int v2), (3, .int v3), (4, .int v4), (6, .int v6)]) [0, 1, 2, 3, 4, 5] rfl ?_
  exact c320_38_ok kl6 hk6 v1 v2 v3 v4 v6 (0 : Int32) _ _ h
def b320_6 (kl6 : Int32 → Int32 → Int32 → Int32 → Int32 → Int32 → Mem → Option (Mem × Int32)) (v1 : Int32) (v2 : Int32) (v3 : Int32) (v4 : Int32) (v5 : Int32) (v6 : Int32) (μ : Mem) : Option (Mem × Int32) :=
  if v2 ≤ v6 then
    rtZ v5 μ
  else
    if v5 = 0 then
      c320_37 kl6 v1 v2 v3 v4 v6 μ
    else
      (ldA 182 (v1 + (v3 * v6)) μ).bind fun x3 =>
      if v4 < x3 then
        c320_37 kl6 v1 v2 v3 v4 v6 μ
      else
        c320_38 kl6 v1 v2 v3 v4 v6 (1 : Int32) μ
theorem b320_6_ok {L : Nat} (kl6 : Int32 → Int32 → Int32 → Int32 → Int32 → Int32 → Mem → Option (Mem × Int32)) (hk6 : (∀ (v1 : Int32) (v2 : Int32) (v3 : Int32) (v4 : Int32) (v5 : Int32) (v6 : Int32) (μ : Mem) (res : Mem × Int32), kl6 v1 v2 v3 v4 v5 v6 μ = some res → Sx 320 6 [(0, .ref 129), (1, .int v1), (2, .int v2), (3, .int v3), (4, .int v4), (5, .int v5), (6, .int v6)] [] 0 0 (mk L μ) (mk L res.1, some (.int res.2)))) (v1 : Int32) (v2 : Int32) (v3 : Int32) (v4 : Int32) (v5 : Int32) (v6 : Int32) (μ : Mem) (res : Mem × Int32) (h : b320_6 kl6 v1 v2 v3 v4 v5 v6 μ = some res) : Sx 320 6 [(0, .ref 129), (1, .int v1), (2, .int v2), (3, .int v3), (4, .int v4), (5, .int v5), (6, .int v6)] [] 0 0 (mk L μ) (mk L res.1, some (.int res.2)) := by
  unfold b320_6 at h
  refine sx_iload k320_6 rfl ?_
  refine sx_iload_n (i := 2) k320_8 rfl rfl ?_
  by_cases hb1 : v2 ≤ v6
  · rw [if_pos hb1] at h
    refine sx_icmp_ge (tgt := 46) k320_9 (by decide) (fun _ => ?_) (fun q => absurd hb1 q)
    refine sx_iload k320_46 rfl ?_
    exact cx_retz k320_48 rt_320 h
  · rw [if_neg hb1] at h
    refine sx_icmp_ge (tgt := 46) k320_9 (by decide) (fun q => absurd q hb1) (fun _ => ?_)
    refine sx_iload k320_12 rfl ?_
    by_cases hb2 : v5 = 0
    · rw [if_pos hb2] at h
      refine sx_if_eq (tgt := 37) k320_14 (by decide) (fun _ => ?_) (fun q => absurd hb2 q)
      refine sx_pick (lo2 := [(0, .ref 129), (1, .int v1), (2, .int v2), (3, .int v3), (4, .int v4), (6, .int v6)]) [0, 1, 2, 3, 4, 6] rfl ?_
      exact c320_37_ok kl6 hk6 v1 v2 v3 v4 v6 _ _ h
    · rw [if_neg hb2] at h
      refine sx_if_eq (tgt := 37) k320_14 (by decide) (fun q => absurd q hb2) (fun _ => ?_)
      refine sx_aload_n (i := 0) k320_17 rfl rfl ?_
      refine cx_getR (k := 105) k320_18 ow_320 fl_12_513 (by decide) sk_129 ft_11_105 sr_129_105 ?_
      refine sx_iload_n (i := 1) k320_21 rfl rfl ?_
      refine sx_iload_n (i := 3) k320_22 rfl rfl ?_
      refine sx_iload k320_23 rfl ?_
      refine sx_imul k320_25 ?_
      refine sx_iadd k320_26 ?_
      obtain ⟨x3, e4, h⟩ := Option.bind_eq_some_iff.mp h
      refine cx_iald k320_27 sk_182 e4 ?_
      refine sx_iload k320_28 rfl ?_
      by_cases hb5 : v4 < x3
      · rw [if_pos hb5] at h
        refine sx_icmp_gt (tgt := 37) k320_30 (by decide) (fun _ => ?_) (fun q => absurd hb5 q)
        refine sx_pick (lo2 := [(0, .ref 129), (1, .int v1), (2, .int v2), (3, .int v3), (4, .int v4), (6, .int v6)]) [0, 1, 2, 3, 4, 6] rfl ?_
        exact c320_37_ok kl6 hk6 v1 v2 v3 v4 v6 _ _ h
      · rw [if_neg hb5] at h
        refine sx_icmp_gt (tgt := 37) k320_30 (by decide) (fun q => absurd q hb5) (fun _ => ?_)
        refine sx_iconst (v := 1) k320_33 (by decide) ?_
        refine sx_goto (tgt := 38) k320_34 (by decide) ?_
        refine sx_pick (lo2 := [(0, .ref 129), (1, .int v1), (2, .int v2), (3, .int v3), (4, .int v4), (6, .int v6)]) [0, 1, 2, 3, 4, 6] rfl ?_
        exact c320_38_ok kl6 hk6 v1 v2 v3 v4 v6 (1 : Int32) _ _ h
def l320_6 : Nat → Int32 × Int32 × Int32 × Int32 × Int32 × Int32 × Mem → Option (Mem × Int32) :=
  fixN (fun self x => b320_6 (fun v1 v2 v3 v4 v5 v6 μ => self (v1, v2, v3, v4, v5, v6, μ)) (x.1) (x.2.1) (x.2.2.1) (x.2.2.2.1) (x.2.2.2.2.1) (x.2.2.2.2.2.1) (x.2.2.2.2.2.2))
theorem l320_6_ok {L : Nat} (n : Nat) (v1 : Int32) (v2 : Int32) (v3 : Int32) (v4 : Int32) (v5 : Int32) (v6 : Int32) (μ : Mem) (res : Mem × Int32) (h : l320_6 n (v1, v2, v3, v4, v5, v6, μ) = some res) : Sx 320 6 [(0, .ref 129), (1, .int v1), (2, .int v2), (3, .int v3), (4, .int v4), (5, .int v5), (6, .int v6)] [] 0 0 (mk L μ) (mk L res.1, some (.int res.2)) := by
  have key := fixN_ind (P := fun x res => Sx 320 6 [(0, .ref 129), (1, .int (x.1)), (2, .int (x.2.1)), (3, .int (x.2.2.1)), (4, .int (x.2.2.2.1)), (5, .int (x.2.2.2.2.1)), (6, .int (x.2.2.2.2.2.1))] [] 0 0 (mk L (x.2.2.2.2.2.2)) (mk L res.1, some (.int res.2))) (F := fun self x => b320_6 (fun v1 v2 v3 v4 v5 v6 μ => self (v1, v2, v3, v4, v5, v6, μ)) (x.1) (x.2.1) (x.2.2.1) (x.2.2.2.1) (x.2.2.2.2.1) (x.2.2.2.2.2.1) (x.2.2.2.2.2.2)) (fun self hself x res h => b320_6_ok (fun v1 v2 v3 v4 v5 v6 μ => self (v1, v2, v3, v4, v5, v6, μ)) (fun v1 v2 v3 v4 v5 v6 μ res hh => hself (v1, v2, v3, v4, v5, v6, μ) res hh) (x.1) (x.2.1) (x.2.2.1) (x.2.2.2.1) (x.2.2.2.2.1) (x.2.2.2.2.2.1) (x.2.2.2.2.2.2) res h) n (v1, v2, v3, v4, v5, v6, μ) res h
  exact key
/-- CraftHouseModel.areParameters(IIII)Z -/
def f320 (p1 : Int32) (p2 : Int32) (p3 : Int32) (p4 : Int32) (μ : Mem) : Option (Mem × Int32) :=
  l320_6 gF (p1, p2, p3, p4, (1 : Int32), (0 : Int32), μ)
theorem ok320 {L : Nat} (p1 : Int32) (p2 : Int32) (p3 : Int32) (p4 : Int32) (μ : Mem) (res : Mem × Int32) (h : f320 p1 p2 p3 p4 μ = some res) : Mx 320 [.ref 129, .int p1, .int p2, .int p3, .int p4] (mk L μ) (mk L res.1, some (.int res.2)) := by
  refine Mx_of ml_320 (by rw [mx_320]; exact Nat.le_of_ble_eq_true rfl) ?_
  show Sx 320 0 [(0, .ref 129), (1, .int p1), (2, .int p2), (3, .int p3), (4, .int p4)] [] 0 0 (mk L μ) _
  unfold f320 at h
  refine sx_iconst (v := 1) k320_0 (by decide) ?_
  refine cx_istore (lo2 := [(5, .int (1 : Int32)), (0, .ref 129), (1, .int p1), (2, .int p2), (3, .int p3), (4, .int p4)]) k320_1 (by rw [mx_320]; decide) rfl ?_
  refine sx_iconst (v := 0) k320_3 (by decide) ?_
  refine cx_istore (lo2 := [(6, .int (0 : Int32)), (5, .int (1 : Int32)), (0, .ref 129), (1, .int p1), (2, .int p2), (3, .int p3), (4, .int p4)]) k320_4 (by rw [mx_320]; decide) rfl ?_
  refine sx_pick (lo2 := [(0, .ref 129), (1, .int p1), (2, .int p2), (3, .int p3), (4, .int p4), (5, .int (1 : Int32)), (6, .int (0 : Int32))]) [2, 3, 4, 5, 6, 1, 0] rfl ?_
  exact l320_6_ok gF p1 p2 p3 p4 (1 : Int32) (0 : Int32) _ _ h
theorem k322_0 : decode (gb 322) 0 = .ok (.iload_n 1, 1) := by decide +kernel
theorem k322_1 : decode (gb 322) 1 = .ok (.bipush 13, 2) := by decide +kernel
theorem k322_3 : decode (gb 322) 3 = .ok (.if_icmp .ne 5, 3) := by decide +kernel
theorem k322_6 : decode (gb 322) 6 = .ok (.iconst 0, 1) := by decide +kernel
theorem k322_7 : decode (gb 322) 7 = .ok (.ireturn, 1) := by decide +kernel
theorem k322_8 : decode (gb 322) 8 = .ok (.iload_n 1, 1) := by decide +kernel
theorem k322_9 : decode (gb 322) 9 = .ok (.iconst 5, 1) := by decide +kernel
theorem k322_10 : decode (gb 322) 10 = .ok (.if_icmp .ne 100, 3) := by decide +kernel
theorem k322_13 : decode (gb 322) 13 = .ok (.aload_n 0, 1) := by decide +kernel
theorem k322_14 : decode (gb 322) 14 = .ok (.getfield 513, 3) := by decide +kernel
theorem k322_17 : decode (gb 322) 17 = .ok (.bipush 13, 2) := by decide +kernel
theorem k322_19 : decode (gb 322) 19 = .ok (.invokestatic 545, 3) := by decide +kernel
theorem k322_22 : decode (gb 322) 22 = .ok (.istore_n 3, 1) := by decide +kernel
theorem k322_23 : decode (gb 322) 23 = .ok (.aload_n 0, 1) := by decide +kernel
theorem k322_24 : decode (gb 322) 24 = .ok (.getfield 513, 3) := by decide +kernel
theorem k322_27 : decode (gb 322) 27 = .ok (.bipush 17, 2) := by decide +kernel
theorem k322_29 : decode (gb 322) 29 = .ok (.invokestatic 545, 3) := by decide +kernel
theorem k322_32 : decode (gb 322) 32 = .ok (.istore 4, 2) := by decide +kernel
theorem k322_34 : decode (gb 322) 34 = .ok (.aload_n 0, 1) := by decide +kernel
theorem k322_35 : decode (gb 322) 35 = .ok (.getfield 513, 3) := by decide +kernel
theorem k322_38 : decode (gb 322) 38 = .ok (.bipush 12, 2) := by decide +kernel
theorem k322_40 : decode (gb 322) 40 = .ok (.iaload, 1) := by decide +kernel
theorem k322_41 : decode (gb 322) 41 = .ok (.bipush 23, 2) := by decide +kernel
theorem k322_43 : decode (gb 322) 43 = .ok (.if_icmp .le 8, 3) := by decide +kernel
theorem k322_46 : decode (gb 322) 46 = .ok (.bipush 10, 2) := by decide +kernel
theorem k322_48 : decode (gb 322) 48 = .ok (.goto 61, 3) := by decide +kernel
theorem k322_51 : decode (gb 322) 51 = .ok (.aload_n 0, 1) := by decide +kernel
theorem k322_52 : decode (gb 322) 52 = .ok (.getfield 513, 3) := by decide +kernel
theorem k322_55 : decode (gb 322) 55 = .ok (.bipush 22, 2) := by decide +kernel
theorem k322_57 : decode (gb 322) 57 = .ok (.iaload, 1) := by decide +kernel
theorem k322_58 : decode (gb 322) 58 = .ok (.bipush 31, 2) := by decide +kernel
theorem k322_60 : decode (gb 322) 60 = .ok (.if_icmp .le 8, 3) := by decide +kernel
theorem k322_63 : decode (gb 322) 63 = .ok (.bipush 14, 2) := by decide +kernel
theorem k322_65 : decode (gb 322) 65 = .ok (.goto 44, 3) := by decide +kernel
theorem k322_68 : decode (gb 322) 68 = .ok (.iload_n 2, 1) := by decide +kernel
theorem k322_69 : decode (gb 322) 69 = .ok (.iconst 5, 1) := by decide +kernel
theorem k322_70 : decode (gb 322) 70 = .ok (.if_icmp .gt 12, 3) := by decide +kernel
theorem k322_73 : decode (gb 322) 73 = .ok (.aload_n 0, 1) := by decide +kernel
theorem k322_74 : decode (gb 322) 74 = .ok (.getfield 548, 3) := by decide +kernel
theorem k322_77 : decode (gb 322) 77 = .ok (.iload_n 2, 1) := by decide +kernel
theorem k322_78 : decode (gb 322) 78 = .ok (.iaload, 1) := by decide +kernel
theorem k322_79 : decode (gb 322) 79 = .ok (.ifCond .eq 8, 3) := by decide +kernel
theorem k322_82 : decode (gb 322) 82 = .ok (.bipush 17, 2) := by decide +kernel
theorem k322_84 : decode (gb 322) 84 = .ok (.goto 25, 3) := by decide +kernel
theorem k322_87 : decode (gb 322) 87 = .ok (.iload_n 3, 1) := by decide +kernel
theorem k322_88 : decode (gb 322) 88 = .ok (.iload 4, 2) := by decide +kernel
theorem k322_90 : decode (gb 322) 90 = .ok (.if_icmp .gt 13, 3) := by decide +kernel
theorem k322_93 : decode (gb 322) 93 = .ok (.aload_n 0, 1) := by decide +kernel
theorem k322_94 : decode (gb 322) 94 = .ok (.getfield 513, 3) := by decide +kernel
theorem k322_97 : decode (gb 322) 97 = .ok (.bipush 21, 2) := by decide +kernel
theorem k322_99 : decode (gb 322) 99 = .ok (.iaload, 1) := by decide +kernel
theorem k322_100 : decode (gb 322) 100 = .ok (.ifCond .ne 8, 3) := by decide +kernel
theorem k322_103 : decode (gb 322) 103 = .ok (.bipush 18, 2) := by decide +kernel
theorem k322_105 : decode (gb 322) 105 = .ok (.goto 4, 3) := by decide +kernel
theorem k322_108 : decode (gb 322) 108 = .ok (.iconst 0, 1) := by decide +kernel
theorem k322_109 : decode (gb 322) 109 = .ok (.ireturn, 1) := by decide +kernel
theorem k322_110 : decode (gb 322) 110 = .ok (.iload_n 2, 1) := by decide +kernel
theorem k322_111 : decode (gb 322) 111 = .ok (.iconst 5, 1) := by decide +kernel
theorem k322_112 : decode (gb 322) 112 = .ok (.if_icmp .gt 28, 3) := by decide +kernel
theorem k322_115 : decode (gb 322) 115 = .ok (.aload_n 0, 1) := by decide +kernel
theorem k322_116 : decode (gb 322) 116 = .ok (.getfield 548, 3) := by decide +kernel
theorem k322_119 : decode (gb 322) 119 = .ok (.iload_n 2, 1) := by decide +kernel
theorem k322_120 : decode (gb 322) 120 = .ok (.iaload, 1) := by decide +kernel
theorem k322_121 : decode (gb 322) 121 = .ok (.ifCond .eq 19, 3) := by decide +kernel
theorem k322_124 : decode (gb 322) 124 = .ok (.iload_n 1, 1) := by decide +kernel
theorem k322_125 : decode (gb 322) 125 = .ok (.bipush 6, 2) := by decide +kernel
theorem k322_127 : decode (gb 322) 127 = .ok (.if_icmp .ne 18, 3) := by decide +kernel
theorem k322_130 : decode (gb 322) 130 = .ok (.aload_n 0, 1) := by decide +kernel
theorem k322_131 : decode (gb 322) 131 = .ok (.getfield 548, 3) := by decide +kernel
theorem k322_134 : decode (gb 322) 134 = .ok (.iload_n 2, 1) := by decide +kernel
theorem k322_135 : decode (gb 322) 135 = .ok (.iaload, 1) := by decide +kernel
theorem k322_136 : decode (gb 322) 136 = .ok (.iconst 1, 1) := by decide +kernel
theorem k322_137 : decode (gb 322) 137 = .ok (.if_icmp .eq 8, 3) := by decide +kernel
theorem k322_140 : decode (gb 322) 140 = .ok (.bipush 17, 2) := by decide +kernel
theorem k322_142 : decode (gb 322) 142 = .ok (.goto 4, 3) := by decide +kernel
theorem k322_145 : decode (gb 322) 145 = .ok (.iconst 0, 1) := by decide +kernel
theorem k322_146 : decode (gb 322) 146 = .ok (.ireturn, 1) := by decide +kernel
def c322_82 (μ : Mem) : Option (Mem × Int32) :=
  some (μ, (17 : Int32))
theorem c322_82_ok {L : Nat} (μ : Mem) (res : Mem × Int32) (h : c322_82 μ = some res) : Sx 322 82 [] [] 0 0 (mk L μ) (mk L res.1, some (.int res.2)) := by
  unfold c322_82 at h
  refine sx_bipush (v := 17) k322_82 (by decide) ?_
  refine sx_goto (tgt := 109) k322_84 (by decide) ?_
  exact cx_reti k322_109 rt_322 h
def c322_103 (μ : Mem) : Option (Mem × Int32) :=
  some (μ, (18 : Int32))
theorem c322_103_ok {L : Nat} (μ : Mem) (res : Mem × Int32) (h : c322_103 μ = some res) : Sx 322 103 [] [] 0 0 (mk L μ) (mk L res.1, some (.int res.2)) := by
  unfold c322_103 at h
  refine sx_bipush (v := 18) k322_103 (by decide) ?_
  refine sx_goto (tgt := 109) k322_105 (by decide) ?_
  exact cx_reti k322_109 rt_322 h
def c322_140 (μ : Mem) : Option (Mem × Int32) :=
  some (μ, (17 : Int32))
theorem c322_140_ok {L : Nat} (μ : Mem) (res : Mem × Int32) (h : c322_140 μ = some res) : Sx 322 140 [] [] 0 0 (mk L μ) (mk L res.1, some (.int res.2)) := by
  unfold c322_140 at h
  refine sx_bipush (v := 17) k322_140 (by decide) ?_
  refine sx_goto (tgt := 146) k322_142 (by decide) ?_
  exact cx_reti k322_146 rt_322 h
/-- CraftHouseModel.aheadOfWatch(II)I -/
def f322 (p1 : Int32) (p2 : Int32) (μ : Mem) : Option (Mem × Int32) :=
  if p1 = (13 : Int32) then
    some (μ, (0 : Int32))
  else
    if p1 = (5 : Int32) then
      (f314 182 (13 : Int32) μ).bind fun r11 =>
      (f314 182 (17 : Int32) r11.1).bind fun r13 =>
      (ldA 182 (12 : Int32) r13.1).bind fun x15 =>
      if x15 ≤ (23 : Int32) then
        (ldA 182 (22 : Int32) r13.1).bind fun x18 =>
        if x18 ≤ (31 : Int32) then
          if (5 : Int32) < p2 then
            c322_82 r13.1
          else
            (ldA 195 p2 r13.1).bind fun x22 =>
            if x22 = 0 then
              if r13.2 < r11.2 then
                c322_103 r13.1
              else
                (ldA 182 (21 : Int32) r13.1).bind fun x26 =>
                if x26 = 0 then
                  c322_103 r13.1
                else
                  some (r13.1, (0 : Int32))
            else
              c322_82 r13.1
        else
          some (r13.1, (14 : Int32))
      else
        some (r13.1, (10 : Int32))
    else
      if (5 : Int32) < p2 then
        c322_140 μ
      else
        (ldA 195 p2 μ).bind fun x4 =>
        if x4 = 0 then
          c322_140 μ
        else
          if p1 = (6 : Int32) then
            (ldA 195 p2 μ).bind fun x8 =>
            if x8 = (1 : Int32) then
              some (μ, (0 : Int32))
            else
              c322_140 μ
          else
            some (μ, (0 : Int32))
theorem ok322 {L : Nat} (p1 : Int32) (p2 : Int32) (μ : Mem) (res : Mem × Int32) (h : f322 p1 p2 μ = some res) : Mx 322 [.ref 129, .int p1, .int p2] (mk L μ) (mk L res.1, some (.int res.2)) := by
  refine Mx_of ml_322 (by rw [mx_322]; exact Nat.le_of_ble_eq_true rfl) ?_
  show Sx 322 0 [(0, .ref 129), (1, .int p1), (2, .int p2)] [] 0 0 (mk L μ) _
  unfold f322 at h
  refine sx_iload_n (i := 1) k322_0 rfl rfl ?_
  refine sx_bipush (v := 13) k322_1 (by decide) ?_
  by_cases hb1 : p1 = (13 : Int32)
  · rw [if_pos hb1] at h
    refine sx_icmp_ne (tgt := 8) k322_3 (by decide) (fun q => absurd hb1 q) (fun _ => ?_)
    refine sx_iconst (v := 0) k322_6 (by decide) ?_
    exact cx_reti k322_7 rt_322 h
  · rw [if_neg hb1] at h
    refine sx_icmp_ne (tgt := 8) k322_3 (by decide) (fun _ => ?_) (fun q => absurd q hb1)
    refine sx_iload_n (i := 1) k322_8 rfl rfl ?_
    refine sx_iconst (v := 5) k322_9 (by decide) ?_
    by_cases hb2 : p1 = (5 : Int32)
    · rw [if_pos hb2] at h
      refine sx_icmp_ne (tgt := 110) k322_10 (by decide) (fun q => absurd hb2 q) (fun _ => ?_)
      refine sx_aload_n (i := 0) k322_13 rfl rfl ?_
      refine cx_getR (k := 105) k322_14 ow_322 fl_12_513 (by decide) sk_129 ft_11_105 sr_129_105 ?_
      refine sx_bipush (v := 13) k322_17 (by decide) ?_
      obtain ⟨r11, e12, h⟩ := Option.bind_eq_some_iff.mp h
      refine cx_S (sk := []) (vs := [.ref 182, .int (13 : Int32)]) st_322_314 k322_19 ow_322 cl_12_545 (by decide) rfl (Nat.le_of_ble_eq_true rfl) (ok314 182 (13 : Int32) sk_182 _ _ e12) (sk3 := [.int r11.2]) rfl rfl ?_
      refine cx_istore_n (lo2 := [(3, .int r11.2), (0, .ref 129), (1, .int p1), (2, .int p2)]) k322_22 rfl (by rw [mx_322]; decide) rfl ?_
      refine sx_aload_n (i := 0) k322_23 rfl rfl ?_
      refine cx_getR (k := 105) k322_24 ow_322 fl_12_513 (by decide) sk_129 ft_11_105 sr_129_105 ?_
      refine sx_bipush (v := 17) k322_27 (by decide) ?_
      obtain ⟨r13, e14, h⟩ := Option.bind_eq_some_iff.mp h
      refine cx_S (sk := []) (vs := [.ref 182, .int (17 : Int32)]) st_322_314 k322_29 ow_322 cl_12_545 (by decide) rfl (Nat.le_of_ble_eq_true rfl) (ok314 182 (17 : Int32) sk_182 _ _ e14) (sk3 := [.int r13.2]) rfl rfl ?_
      refine cx_istore (lo2 := [(4, .int r13.2), (3, .int r11.2), (0, .ref 129), (1, .int p1), (2, .int p2)]) k322_32 (by rw [mx_322]; decide) rfl ?_
      refine sx_aload_n (i := 0) k322_34 rfl rfl ?_
      refine cx_getR (k := 105) k322_35 ow_322 fl_12_513 (by decide) sk_129 ft_11_105 sr_129_105 ?_
      refine sx_bipush (v := 12) k322_38 (by decide) ?_
      obtain ⟨x15, e16, h⟩ := Option.bind_eq_some_iff.mp h
      refine cx_iald k322_40 sk_182 e16 ?_
      refine sx_bipush (v := 23) k322_41 (by decide) ?_
      by_cases hb17 : x15 ≤ (23 : Int32)
      · rw [if_pos hb17] at h
        refine sx_icmp_le (tgt := 51) k322_43 (by decide) (fun _ => ?_) (fun q => absurd hb17 q)
        refine sx_aload_n (i := 0) k322_51 rfl rfl ?_
        refine cx_getR (k := 105) k322_52 ow_322 fl_12_513 (by decide) sk_129 ft_11_105 sr_129_105 ?_
        refine sx_bipush (v := 22) k322_55 (by decide) ?_
        obtain ⟨x18, e19, h⟩ := Option.bind_eq_some_iff.mp h
        refine cx_iald k322_57 sk_182 e19 ?_
        refine sx_bipush (v := 31) k322_58 (by decide) ?_
        by_cases hb20 : x18 ≤ (31 : Int32)
        · rw [if_pos hb20] at h
          refine sx_icmp_le (tgt := 68) k322_60 (by decide) (fun _ => ?_) (fun q => absurd hb20 q)
          refine sx_iload_n (i := 2) k322_68 rfl rfl ?_
          refine sx_iconst (v := 5) k322_69 (by decide) ?_
          by_cases hb21 : (5 : Int32) < p2
          · rw [if_pos hb21] at h
            refine sx_icmp_gt (tgt := 82) k322_70 (by decide) (fun _ => ?_) (fun q => absurd hb21 q)
            refine sx_pick (lo2 := []) [] rfl ?_
            exact c322_82_ok _ _ h
          · rw [if_neg hb21] at h
            refine sx_icmp_gt (tgt := 82) k322_70 (by decide) (fun q => absurd q hb21) (fun _ => ?_)
            refine sx_aload_n (i := 0) k322_73 rfl rfl ?_
            refine cx_getR (k := 120) k322_74 ow_322 fl_12_548 (by decide) sk_129 ft_11_120 sr_129_120 ?_
            refine sx_iload_n (i := 2) k322_77 rfl rfl ?_
            obtain ⟨x22, e23, h⟩ := Option.bind_eq_some_iff.mp h
            refine cx_iald k322_78 sk_195 e23 ?_
            by_cases hb24 : x22 = 0
            · rw [if_pos hb24] at h
              refine sx_if_eq (tgt := 87) k322_79 (by decide) (fun _ => ?_) (fun q => absurd hb24 q)
              refine sx_iload_n (i := 3) k322_87 rfl rfl ?_
              refine sx_iload k322_88 rfl ?_
              by_cases hb25 : r13.2 < r11.2
              · rw [if_pos hb25] at h
                refine sx_icmp_gt (tgt := 103) k322_90 (by decide) (fun _ => ?_) (fun q => absurd hb25 q)
                refine sx_pick (lo2 := []) [] rfl ?_
                exact c322_103_ok _ _ h
              · rw [if_neg hb25] at h
                refine sx_icmp_gt (tgt := 103) k322_90 (by decide) (fun q => absurd q hb25) (fun _ => ?_)
                refine sx_aload_n (i := 0) k322_93 rfl rfl ?_
                refine cx_getR (k := 105) k322_94 ow_322 fl_12_513 (by decide) sk_129 ft_11_105 sr_129_105 ?_
                refine sx_bipush (v := 21) k322_97 (by decide) ?_
                obtain ⟨x26, e27, h⟩ := Option.bind_eq_some_iff.mp h
                refine cx_iald k322_99 sk_182 e27 ?_
                by_cases hb28 : x26 = 0
                · rw [if_pos hb28] at h
                  refine sx_if_ne (tgt := 108) k322_100 (by decide) (fun q => absurd hb28 q) (fun _ => ?_)
                  refine sx_pick (lo2 := []) [] rfl ?_
                  exact c322_103_ok _ _ h
                · rw [if_neg hb28] at h
                  refine sx_if_ne (tgt := 108) k322_100 (by decide) (fun _ => ?_) (fun q => absurd q hb28)
                  refine sx_iconst (v := 0) k322_108 (by decide) ?_
                  exact cx_reti k322_109 rt_322 h
            · rw [if_neg hb24] at h
              refine sx_if_eq (tgt := 87) k322_79 (by decide) (fun q => absurd q hb24) (fun _ => ?_)
              refine sx_pick (lo2 := []) [] rfl ?_
              exact c322_82_ok _ _ h
        · rw [if_neg hb20] at h
          refine sx_icmp_le (tgt := 68) k322_60 (by decide) (fun q => absurd q hb20) (fun _ => ?_)
          refine sx_bipush (v := 14) k322_63 (by decide) ?_
          refine sx_goto (tgt := 109) k322_65 (by decide) ?_
          exact cx_reti k322_109 rt_322 h
      · rw [if_neg hb17] at h
        refine sx_icmp_le (tgt := 51) k322_43 (by decide) (fun q => absurd q hb17) (fun _ => ?_)
        refine sx_bipush (v := 10) k322_46 (by decide) ?_
        refine sx_goto (tgt := 109) k322_48 (by decide) ?_
        exact cx_reti k322_109 rt_322 h
    · rw [if_neg hb2] at h
      refine sx_icmp_ne (tgt := 110) k322_10 (by decide) (fun _ => ?_) (fun q => absurd q hb2)
      refine sx_iload_n (i := 2) k322_110 rfl rfl ?_
      refine sx_iconst (v := 5) k322_111 (by decide) ?_
      by_cases hb3 : (5 : Int32) < p2
      · rw [if_pos hb3] at h
        refine sx_icmp_gt (tgt := 140) k322_112 (by decide) (fun _ => ?_) (fun q => absurd hb3 q)
        refine sx_pick (lo2 := []) [] rfl ?_
        exact c322_140_ok _ _ h
      · rw [if_neg hb3] at h
        refine sx_icmp_gt (tgt := 140) k322_112 (by decide) (fun q => absurd q hb3) (fun _ => ?_)
        refine sx_aload_n (i := 0) k322_115 rfl rfl ?_
        refine cx_getR (k := 120) k322_116 ow_322 fl_12_548 (by decide) sk_129 ft_11_120 sr_129_120 ?_
        refine sx_iload_n (i := 2) k322_119 rfl rfl ?_
        obtain ⟨x4, e5, h⟩ := Option.bind_eq_some_iff.mp h
        refine cx_iald k322_120 sk_195 e5 ?_
        by_cases hb6 : x4 = 0
        · rw [if_pos hb6] at h
          refine sx_if_eq (tgt := 140) k322_121 (by decide) (fun _ => ?_) (fun q => absurd hb6 q)
          refine sx_pick (lo2 := []) [] rfl ?_
          exact c322_140_ok _ _ h
        · rw [if_neg hb6] at h
          refine sx_if_eq (tgt := 140) k322_121 (by decide) (fun q => absurd q hb6) (fun _ => ?_)
          refine sx_iload_n (i := 1) k322_124 rfl rfl ?_
          refine sx_bipush (v := 6) k322_125 (by decide) ?_
          by_cases hb7 : p1 = (6 : Int32)
          · rw [if_pos hb7] at h
            refine sx_icmp_ne (tgt := 145) k322_127 (by decide) (fun q => absurd hb7 q) (fun _ => ?_)
            refine sx_aload_n (i := 0) k322_130 rfl rfl ?_
            refine cx_getR (k := 120) k322_131 ow_322 fl_12_548 (by decide) sk_129 ft_11_120 sr_129_120 ?_
            refine sx_iload_n (i := 2) k322_134 rfl rfl ?_
            obtain ⟨x8, e9, h⟩ := Option.bind_eq_some_iff.mp h
            refine cx_iald k322_135 sk_195 e9 ?_
            refine sx_iconst (v := 1) k322_136 (by decide) ?_
            by_cases hb10 : x8 = (1 : Int32)
            · rw [if_pos hb10] at h
              refine sx_icmp_eq (tgt := 145) k322_137 (by decide) (fun _ => ?_) (fun q => absurd hb10 q)
              refine sx_iconst (v := 0) k322_145 (by decide) ?_
              exact cx_reti k322_146 rt_322 h
            · rw [if_neg hb10] at h
              refine sx_icmp_eq (tgt := 145) k322_137 (by decide) (fun q => absurd q hb10) (fun _ => ?_)
              refine sx_pick (lo2 := []) [] rfl ?_
              exact c322_140_ok _ _ h
          · rw [if_neg hb7] at h
            refine sx_icmp_ne (tgt := 145) k322_127 (by decide) (fun _ => ?_) (fun q => absurd q hb7)
            refine sx_iconst (v := 0) k322_145 (by decide) ?_
            exact cx_reti k322_146 rt_322 h
theorem k333_0 : decode (gb 333) 0 = .ok (.iconst 0, 1) := by decide +kernel
theorem k333_1 : decode (gb 333) 1 = .ok (.istore_n 2, 1) := by decide +kernel
theorem k333_2 : decode (gb 333) 2 = .ok (.iload_n 2, 1) := by decide +kernel
theorem k333_3 : decode (gb 333) 3 = .ok (.aload_n 0, 1) := by decide +kernel
theorem k333_4 : decode (gb 333) 4 = .ok (.getfield 402, 3) := by decide +kernel
theorem k333_7 : decode (gb 333) 7 = .ok (.if_icmp .ge 33, 3) := by decide +kernel
theorem k333_10 : decode (gb 333) 10 = .ok (.aload_n 0, 1) := by decide +kernel
theorem k333_11 : decode (gb 333) 11 = .ok (.aload_n 0, 1) := by decide +kernel
theorem k333_12 : decode (gb 333) 12 = .ok (.getfield 640, 3) := by decide +kernel
theorem k333_15 : decode (gb 333) 15 = .ok (.bipush 40, 2) := by decide +kernel
theorem k333_17 : decode (gb 333) 17 = .ok (.iload_n 2, 1) := by decide +kernel
theorem k333_18 : decode (gb 333) 18 = .ok (.imul, 1) := by decide +kernel
theorem k333_19 : decode (gb 333) 19 = .ok (.iconst 2, 1) := by decide +kernel
theorem k333_20 : decode (gb 333) 20 = .ok (.iadd, 1) := by decide +kernel
theorem k333_21 : decode (gb 333) 21 = .ok (.invokevirtual 472, 3) := by decide +kernel
theorem k333_24 : decode (gb 333) 24 = .ok (.sipush 16383, 3) := by decide +kernel
theorem k333_27 : decode (gb 333) 27 = .ok (.iand, 1) := by decide +kernel
theorem k333_28 : decode (gb 333) 28 = .ok (.iload_n 1, 1) := by decide +kernel
theorem k333_29 : decode (gb 333) 29 = .ok (.if_icmp .ne 5, 3) := by decide +kernel
theorem k333_32 : decode (gb 333) 32 = .ok (.iload_n 2, 1) := by decide +kernel
theorem k333_33 : decode (gb 333) 33 = .ok (.ireturn, 1) := by decide +kernel
theorem k333_34 : decode (gb 333) 34 = .ok (.iinc 2 1, 3) := by decide +kernel
theorem k333_37 : decode (gb 333) 37 = .ok (.goto (-35), 3) := by decide +kernel
theorem k333_40 : decode (gb 333) 40 = .ok (.bipush (-2), 2) := by decide +kernel
theorem k333_42 : decode (gb 333) 42 = .ok (.ireturn, 1) := by decide +kernel
def b333_2 (kl2 : Int32 → Int32 → Mem → Option (Mem × Int32)) (v1 : Int32) (v2 : Int32) (μ : Mem) : Option (Mem × Int32) :=
  if (μ.1 129 130) ≤ v2 then
    some (μ, (-2 : Int32))
  else
    (f313 207 (((40 : Int32) * v2) + (2 : Int32)) μ).bind fun r2 =>
    if (r2.2 &&& (16383 : Int32)) = v1 then
      some (r2.1, v2)
    else
      nm (v2 + (1 : Int32)) fun x5 =>
      kl2 v1 x5 r2.1
theorem b333_2_ok {L : Nat} (kl2 : Int32 → Int32 → Mem → Option (Mem × Int32)) (hk2 : (∀ (v1 : Int32) (v2 : Int32) (μ : Mem) (res : Mem × Int32), kl2 v1 v2 μ = some res → Sx 333 2 [(0, .ref 129), (1, .int v1), (2, .int v2)] [] 0 0 (mk L μ) (mk L res.1, some (.int res.2)))) (v1 : Int32) (v2 : Int32) (μ : Mem) (res : Mem × Int32) (h : b333_2 kl2 v1 v2 μ = some res) : Sx 333 2 [(0, .ref 129), (1, .int v1), (2, .int v2)] [] 0 0 (mk L μ) (mk L res.1, some (.int res.2)) := by
  unfold b333_2 at h
  refine sx_iload_n (i := 2) k333_2 rfl rfl ?_
  refine sx_aload_n (i := 0) k333_3 rfl rfl ?_
  refine cx_getI (k := 130) k333_4 ow_333 fl_12_402 (by decide) sk_129 ft_11_130 ?_
  by_cases hb1 : (μ.1 129 130) ≤ v2
  · rw [if_pos hb1] at h
    refine sx_icmp_ge (tgt := 40) k333_7 (by decide) (fun _ => ?_) (fun q => absurd hb1 q)
    refine sx_bipush (v := -2) k333_40 (by decide) ?_
    exact cx_reti k333_42 rt_333 h
  · rw [if_neg hb1] at h
    refine sx_icmp_ge (tgt := 40) k333_7 (by decide) (fun q => absurd q hb1) (fun _ => ?_)
    refine sx_aload_n (i := 0) k333_10 rfl rfl ?_
    refine sx_aload_n (i := 0) k333_11 rfl rfl ?_
    refine cx_getR (k := 134) k333_12 ow_333 fl_12_640 (by decide) sk_129 ft_11_134 sr_129_134 ?_
    refine sx_bipush (v := 40) k333_15 (by decide) ?_
    refine sx_iload_n (i := 2) k333_17 rfl rfl ?_
    refine sx_imul k333_18 ?_
    refine sx_iconst (v := 2) k333_19 (by decide) ?_
    refine sx_iadd k333_20 ?_
    obtain ⟨r2, e3, h⟩ := Option.bind_eq_some_iff.mp h
    refine cx_V (sk := []) (vs := [.ref 207, .int (((40 : Int32) * v2) + (2 : Int32))]) st_333_313 k333_21 ow_333 cl_12_472 (by decide) rfl (Nat.le_of_ble_eq_true rfl) sk_129 (ok313 207 (((40 : Int32) * v2) + (2 : Int32)) sk_207 _ _ e3) (sk3 := [.int r2.2]) rfl rfl ?_
    refine sx_sipush (v := 16383) k333_24 (by decide) ?_
    refine sx_iand k333_27 ?_
    refine sx_iload_n (i := 1) k333_28 rfl rfl ?_
    by_cases hb4 : (r2.2 &&& (16383 : Int32)) = v1
    · rw [if_pos hb4] at h
      refine sx_icmp_ne (tgt := 34) k333_29 (by decide) (fun q => absurd hb4 q) (fun _ => ?_)
      refine sx_iload_n (i := 2) k333_32 rfl rfl ?_
      exact cx_reti k333_33 rt_333 h
    · rw [if_neg hb4] at h
      refine sx_icmp_ne (tgt := 34) k333_29 (by decide) (fun _ => ?_) (fun q => absurd q hb4)
      refine cx_iinc (c := 1) (lo2 := fun x5 => [(2, .int x5), (0, .ref 129), (1, .int v1)]) k333_34 rfl (by decide) (by rw [mx_333]; decide) (fun _ => rfl) h (fun x5 h => ?_)
      refine sx_goto (tgt := 2) k333_37 (by decide) ?_
      refine sx_pick (lo2 := [(0, .ref 129), (1, .int v1), (2, .int x5)]) [1, 2, 0] rfl ?_
      exact hk2 v1 x5 _ _ h
def l333_2 : Nat → Int32 × Int32 × Mem → Option (Mem × Int32) :=
  fixN (fun self x => b333_2 (fun v1 v2 μ => self (v1, v2, μ)) (x.1) (x.2.1) (x.2.2))
theorem l333_2_ok {L : Nat} (n : Nat) (v1 : Int32) (v2 : Int32) (μ : Mem) (res : Mem × Int32) (h : l333_2 n (v1, v2, μ) = some res) : Sx 333 2 [(0, .ref 129), (1, .int v1), (2, .int v2)] [] 0 0 (mk L μ) (mk L res.1, some (.int res.2)) := by
  have key := fixN_ind (P := fun x res => Sx 333 2 [(0, .ref 129), (1, .int (x.1)), (2, .int (x.2.1))] [] 0 0 (mk L (x.2.2)) (mk L res.1, some (.int res.2))) (F := fun self x => b333_2 (fun v1 v2 μ => self (v1, v2, μ)) (x.1) (x.2.1) (x.2.2)) (fun self hself x res h => b333_2_ok (fun v1 v2 μ => self (v1, v2, μ)) (fun v1 v2 μ res hh => hself (v1, v2, μ) res hh) (x.1) (x.2.1) (x.2.2) res h) n (v1, v2, μ) res h
  exact key
/-- CraftHouseModel.entryOf(I)I -/
def f333 (p1 : Int32) (μ : Mem) : Option (Mem × Int32) :=
  l333_2 gF (p1, (0 : Int32), μ)
theorem ok333 {L : Nat} (p1 : Int32) (μ : Mem) (res : Mem × Int32) (h : f333 p1 μ = some res) : Mx 333 [.ref 129, .int p1] (mk L μ) (mk L res.1, some (.int res.2)) := by
  refine Mx_of ml_333 (by rw [mx_333]; exact Nat.le_of_ble_eq_true rfl) ?_
  show Sx 333 0 [(0, .ref 129), (1, .int p1)] [] 0 0 (mk L μ) _
  unfold f333 at h
  refine sx_iconst (v := 0) k333_0 (by decide) ?_
  refine cx_istore_n (lo2 := [(2, .int (0 : Int32)), (0, .ref 129), (1, .int p1)]) k333_1 rfl (by rw [mx_333]; decide) rfl ?_
  refine sx_pick (lo2 := [(0, .ref 129), (1, .int p1), (2, .int (0 : Int32))]) [1, 2, 0] rfl ?_
  exact l333_2_ok gF p1 (0 : Int32) _ _ h
theorem k323_0 : decode (gb 323) 0 = .ok (.iload_n 1, 1) := by decide +kernel
theorem k323_1 : decode (gb 323) 1 = .ok (.iconst 4, 1) := by decide +kernel
theorem k323_2 : decode (gb 323) 2 = .ok (.if_icmp .ne 55, 3) := by decide +kernel
theorem k323_5 : decode (gb 323) 5 = .ok (.iload_n 2, 1) := by decide +kernel
theorem k323_6 : decode (gb 323) 6 = .ok (.iconst 3, 1) := by decide +kernel
theorem k323_7 : decode (gb 323) 7 = .ok (.if_icmp .le 8, 3) := by decide +kernel
theorem k323_10 : decode (gb 323) 10 = .ok (.bipush 20, 2) := by decide +kernel
theorem k323_12 : decode (gb 323) 12 = .ok (.goto 44, 3) := by decide +kernel
theorem k323_15 : decode (gb 323) 15 = .ok (.aload_n 0, 1) := by decide +kernel
theorem k323_16 : decode (gb 323) 16 = .ok (.getfield 513, 3) := by decide +kernel
theorem k323_19 : decode (gb 323) 19 = .ok (.bipush 12, 2) := by decide +kernel
theorem k323_21 : decode (gb 323) 21 = .ok (.invokestatic 545, 3) := by decide +kernel
theorem k323_24 : decode (gb 323) 24 = .ok (.i2l, 1) := by decide +kernel
theorem k323_25 : decode (gb 323) 25 = .ok (.aload_n 0, 1) := by decide +kernel
theorem k323_26 : decode (gb 323) 26 = .ok (.getfield 405, 3) := by decide +kernel
theorem k323_29 : decode (gb 323) 29 = .ok (.i2l, 1) := by decide +kernel
theorem k323_30 : decode (gb 323) 30 = .ok (.lconst 1, 1) := by decide +kernel
theorem k323_31 : decode (gb 323) 31 = .ok (.ladd, 1) := by decide +kernel
theorem k323_32 : decode (gb 323) 32 = .ok (.lcmp, 1) := by decide +kernel
theorem k323_33 : decode (gb 323) 33 = .ok (.ifCond .gt 8, 3) := by decide +kernel
theorem k323_36 : decode (gb 323) 36 = .ok (.bipush 21, 2) := by decide +kernel
theorem k323_38 : decode (gb 323) 38 = .ok (.goto 18, 3) := by decide +kernel
theorem k323_41 : decode (gb 323) 41 = .ok (.aload_n 0, 1) := by decide +kernel
theorem k323_42 : decode (gb 323) 42 = .ok (.getfield 402, 3) := by decide +kernel
theorem k323_45 : decode (gb 323) 45 = .ok (.bipush 16, 2) := by decide +kernel
theorem k323_47 : decode (gb 323) 47 = .ok (.if_icmp .ne 8, 3) := by decide +kernel
theorem k323_50 : decode (gb 323) 50 = .ok (.bipush 22, 2) := by decide +kernel
theorem k323_52 : decode (gb 323) 52 = .ok (.goto 4, 3) := by decide +kernel
theorem k323_55 : decode (gb 323) 55 = .ok (.iconst 0, 1) := by decide +kernel
theorem k323_56 : decode (gb 323) 56 = .ok (.ireturn, 1) := by decide +kernel
theorem k323_57 : decode (gb 323) 57 = .ok (.iload_n 1, 1) := by decide +kernel
theorem k323_58 : decode (gb 323) 58 = .ok (.iconst 5, 1) := by decide +kernel
theorem k323_59 : decode (gb 323) 59 = .ok (.if_icmp .ne 29, 3) := by decide +kernel
theorem k323_62 : decode (gb 323) 62 = .ok (.aload_n 0, 1) := by decide +kernel
theorem k323_63 : decode (gb 323) 63 = .ok (.aload_n 0, 1) := by decide +kernel
theorem k323_64 : decode (gb 323) 64 = .ok (.aload_n 0, 1) := by decide +kernel
theorem k323_65 : decode (gb 323) 65 = .ok (.getfield 513, 3) := by decide +kernel
theorem k323_68 : decode (gb 323) 68 = .ok (.bipush 11, 2) := by decide +kernel
theorem k323_70 : decode (gb 323) 70 = .ok (.invokevirtual 472, 3) := by decide +kernel
theorem k323_73 : decode (gb 323) 73 = .ok (.invokevirtual 551, 3) := by decide +kernel
theorem k323_76 : decode (gb 323) 76 = .ok (.bipush (-2), 2) := by decide +kernel
theorem k323_78 : decode (gb 323) 78 = .ok (.if_icmp .ne 8, 3) := by decide +kernel
theorem k323_81 : decode (gb 323) 81 = .ok (.bipush 23, 2) := by decide +kernel
theorem k323_83 : decode (gb 323) 83 = .ok (.goto 4, 3) := by decide +kernel
theorem k323_86 : decode (gb 323) 86 = .ok (.iconst 0, 1) := by decide +kernel
theorem k323_87 : decode (gb 323) 87 = .ok (.ireturn, 1) := by decide +kernel
theorem k323_88 : decode (gb 323) 88 = .ok (.iload_n 1, 1) := by decide +kernel
theorem k323_89 : decode (gb 323) 89 = .ok (.bipush 15, 2) := by decide +kernel
theorem k323_91 : decode (gb 323) 91 = .ok (.if_icmp .ne 66, 3) := by decide +kernel
theorem k323_94 : decode (gb 323) 94 = .ok (.iconst 0, 1) := by decide +kernel
theorem k323_95 : decode (gb 323) 95 = .ok (.istore_n 3, 1) := by decide +kernel
theorem k323_96 : decode (gb 323) 96 = .ok (.iload_n 3, 1) := by decide +kernel
theorem k323_97 : decode (gb 323) 97 = .ok (.aload_n 0, 1) := by decide +kernel
theorem k323_98 : decode (gb 323) 98 = .ok (.getfield 402, 3) := by decide +kernel
theorem k323_101 : decode (gb 323) 101 = .ok (.if_icmp .ge 54, 3) := by decide +kernel
theorem k323_104 : decode (gb 323) 104 = .ok (.aload_n 0, 1) := by decide +kernel
theorem k323_105 : decode (gb 323) 105 = .ok (.getfield 554, 3) := by decide +kernel
theorem k323_108 : decode (gb 323) 108 = .ok (.iload_n 3, 1) := by decide +kernel
theorem k323_109 : decode (gb 323) 109 = .ok (.iaload, 1) := by decide +kernel
theorem k323_110 : decode (gb 323) 110 = .ok (.i2l, 1) := by decide +kernel
theorem k323_111 : decode (gb 323) 111 = .ok (.aload_n 0, 1) := by decide +kernel
theorem k323_112 : decode (gb 323) 112 = .ok (.getfield 513, 3) := by decide +kernel
theorem k323_115 : decode (gb 323) 115 = .ok (.bipush 11, 2) := by decide +kernel
theorem k323_117 : decode (gb 323) 117 = .ok (.invokestatic 545, 3) := by decide +kernel
theorem k323_120 : decode (gb 323) 120 = .ok (.i2l, 1) := by decide +kernel
theorem k323_121 : decode (gb 323) 121 = .ok (.ladd, 1) := by decide +kernel
theorem k323_122 : decode (gb 323) 122 = .ok (.lstore 4, 2) := by decide +kernel
theorem k323_124 : decode (gb 323) 124 = .ok (.lload 4, 2) := by decide +kernel
theorem k323_126 : decode (gb 323) 126 = .ok (.aload_n 0, 1) := by decide +kernel
theorem k323_127 : decode (gb 323) 127 = .ok (.getfield 405, 3) := by decide +kernel
theorem k323_130 : decode (gb 323) 130 = .ok (.i2l, 1) := by decide +kernel
theorem k323_131 : decode (gb 323) 131 = .ok (.lconst 1, 1) := by decide +kernel
theorem k323_132 : decode (gb 323) 132 = .ok (.ladd, 1) := by decide +kernel
theorem k323_133 : decode (gb 323) 133 = .ok (.lcmp, 1) := by decide +kernel
theorem k323_134 : decode (gb 323) 134 = .ok (.ifCond .le 12, 3) := by decide +kernel
theorem k323_137 : decode (gb 323) 137 = .ok (.lload 4, 2) := by decide +kernel
theorem k323_139 : decode (gb 323) 139 = .ok (.ldc2_w 557, 3) := by decide +kernel
theorem k323_142 : decode (gb 323) 142 = .ok (.lcmp, 1) := by decide +kernel
theorem k323_143 : decode (gb 323) 143 = .ok (.ifCond .le 6, 3) := by decide +kernel
theorem k323_146 : decode (gb 323) 146 = .ok (.bipush 21, 2) := by decide +kernel
theorem k323_148 : decode (gb 323) 148 = .ok (.ireturn, 1) := by decide +kernel
theorem k323_149 : decode (gb 323) 149 = .ok (.iinc 3 1, 3) := by decide +kernel
theorem k323_152 : decode (gb 323) 152 = .ok (.goto (-56), 3) := by decide +kernel
theorem k323_155 : decode (gb 323) 155 = .ok (.iconst 0, 1) := by decide +kernel
theorem k323_156 : decode (gb 323) 156 = .ok (.ireturn, 1) := by decide +kernel
theorem k323_157 : decode (gb 323) 157 = .ok (.iload_n 1, 1) := by decide +kernel
theorem k323_158 : decode (gb 323) 158 = .ok (.bipush 20, 2) := by decide +kernel
theorem k323_160 : decode (gb 323) 160 = .ok (.if_icmp .eq 9, 3) := by decide +kernel
theorem k323_163 : decode (gb 323) 163 = .ok (.iload_n 1, 1) := by decide +kernel
theorem k323_164 : decode (gb 323) 164 = .ok (.bipush 21, 2) := by decide +kernel
theorem k323_166 : decode (gb 323) 166 = .ok (.if_icmp .ne 13, 3) := by decide +kernel
theorem k323_169 : decode (gb 323) 169 = .ok (.iload_n 2, 1) := by decide +kernel
theorem k323_170 : decode (gb 323) 170 = .ok (.iconst 3, 1) := by decide +kernel
theorem k323_171 : decode (gb 323) 171 = .ok (.if_icmp .le 8, 3) := by decide +kernel
theorem k323_174 : decode (gb 323) 174 = .ok (.bipush 20, 2) := by decide +kernel
theorem k323_176 : decode (gb 323) 176 = .ok (.goto 4, 3) := by decide +kernel
theorem k323_179 : decode (gb 323) 179 = .ok (.iconst 0, 1) := by decide +kernel
theorem k323_180 : decode (gb 323) 180 = .ok (.ireturn, 1) := by decide +kernel
def b323_96 (kl96 : Int32 → Mem → Option (Mem × Int32)) (v3 : Int32) (μ : Mem) : Option (Mem × Int32) :=
  if (μ.1 129 130) ≤ v3 then
    some (μ, (0 : Int32))
  else
    (ldA 204 v3 μ).bind fun x2 =>
    (f314 182 (11 : Int32) μ).bind fun r4 =>
    nm ((Int32.toInt64 x2) + (Int32.toInt64 r4.2)) fun y6 =>
    if (lg_cmp y6 ((Int32.toInt64 (r4.1.1 129 77)) + (1 : Int64))) ≤ 0 then
      some (r4.1, (21 : Int32))
    else
      if (lg_cmp y6 (2147483647 : Int64)) ≤ 0 then
        nm (v3 + (1 : Int32)) fun x9 =>
        kl96 x9 r4.1
      else
        some (r4.1, (21 : Int32))
theorem b323_96_ok {L : Nat} (kl96 : Int32 → Mem → Option (Mem × Int32)) (hk96 : (∀ (v3 : Int32) (μ : Mem) (res : Mem × Int32), kl96 v3 μ = some res → Sx 323 96 [(0, .ref 129), (3, .int v3)] [] 0 0 (mk L μ) (mk L res.1, some (.int res.2)))) (v3 : Int32) (μ : Mem) (res : Mem × Int32) (h : b323_96 kl96 v3 μ = some res) : Sx 323 96 [(0, .ref 129), (3, .int v3)] [] 0 0 (mk L μ) (mk L res.1, some (.int res.2)) := by
  unfold b323_96 at h
  refine sx_iload_n (i := 3) k323_96 rfl rfl ?_
  refine sx_aload_n (i := 0) k323_97 rfl rfl ?_
  refine cx_getI (k := 130) k323_98 ow_323 fl_12_402 (by decide) sk_129 ft_11_130 ?_
  by_cases hb1 : (μ.1 129 130) ≤ v3
  · rw [if_pos hb1] at h
    refine sx_icmp_ge (tgt := 155) k323_101 (by decide) (fun _ => ?_) (fun q => absurd hb1 q)
    refine sx_iconst (v := 0) k323_155 (by decide) ?_
    exact cx_reti k323_156 rt_323 h
  · rw [if_neg hb1] at h
    refine sx_icmp_ge (tgt := 155) k323_101 (by decide) (fun q => absurd q hb1) (fun _ => ?_)
    refine sx_aload_n (i := 0) k323_104 rfl rfl ?_
    refine cx_getR (k := 131) k323_105 ow_323 fl_12_554 (by decide) sk_129 ft_11_131 sr_129_131 ?_
    refine sx_iload_n (i := 3) k323_108 rfl rfl ?_
    obtain ⟨x2, e3, h⟩ := Option.bind_eq_some_iff.mp h
    refine cx_iald k323_109 sk_204 e3 ?_
    refine sx_i2l k323_110 ?_
    refine sx_aload_n (i := 0) k323_111 rfl rfl ?_
    refine cx_getR (k := 105) k323_112 ow_323 fl_12_513 (by decide) sk_129 ft_11_105 sr_129_105 ?_
    refine sx_bipush (v := 11) k323_115 (by decide) ?_
    obtain ⟨r4, e5, h⟩ := Option.bind_eq_some_iff.mp h
    refine cx_S (sk := [.long (Int32.toInt64 x2)]) (vs := [.ref 182, .int (11 : Int32)]) st_323_314 k323_117 ow_323 cl_12_545 (by decide) rfl (Nat.le_of_ble_eq_true rfl) (ok314 182 (11 : Int32) sk_182 _ _ e5) (sk3 := [.int r4.2, .long (Int32.toInt64 x2)]) rfl rfl ?_
    refine sx_i2l k323_120 ?_
    refine sx_ladd k323_121 ?_
    refine cx_nmL h (fun y6 h => ?_)
    refine cx_lstore (lo2 := [(4, .long y6), (0, .ref 129), (3, .int v3)]) k323_122 (by rw [mx_323]; decide) rfl ?_
    refine sx_lload k323_124 rfl ?_
    refine sx_aload_n (i := 0) k323_126 rfl rfl ?_
    refine cx_getI (k := 77) k323_127 ow_323 fl_12_405 (by decide) sk_129 ft_11_77 ?_
    refine sx_i2l k323_130 ?_
    refine sx_lconst (v := 1) k323_131 (by decide) ?_
    refine sx_ladd k323_132 ?_
    refine sx_lcmp k323_133 ?_
    by_cases hb7 : (lg_cmp y6 ((Int32.toInt64 (r4.1.1 129 77)) + (1 : Int64))) ≤ 0
    · rw [if_pos hb7] at h
      refine sx_if_le (tgt := 146) k323_134 (by decide) (fun _ => ?_) (fun q => absurd hb7 q)
      refine sx_bipush (v := 21) k323_146 (by decide) ?_
      exact cx_reti k323_148 rt_323 h
    · rw [if_neg hb7] at h
      refine sx_if_le (tgt := 146) k323_134 (by decide) (fun q => absurd q hb7) (fun _ => ?_)
      refine sx_lload k323_137 rfl ?_
      refine cx_ldc2 (v := 2147483647) k323_139 ow_323 kl_12_557 (by decide) ?_
      refine sx_lcmp k323_142 ?_
      by_cases hb8 : (lg_cmp y6 (2147483647 : Int64)) ≤ 0
      · rw [if_pos hb8] at h
        refine sx_if_le (tgt := 149) k323_143 (by decide) (fun _ => ?_) (fun q => absurd hb8 q)
        refine cx_iinc (c := 1) (lo2 := fun x9 => [(3, .int x9), (4, .long y6), (0, .ref 129)]) k323_149 rfl (by decide) (by rw [mx_323]; decide) (fun _ => rfl) h (fun x9 h => ?_)
        refine sx_goto (tgt := 96) k323_152 (by decide) ?_
        refine sx_pick (lo2 := [(0, .ref 129), (3, .int x9)]) [2, 0] rfl ?_
        exact hk96 x9 _ _ h
      · rw [if_neg hb8] at h
        refine sx_if_le (tgt := 149) k323_143 (by decide) (fun q => absurd q hb8) (fun _ => ?_)
        refine sx_bipush (v := 21) k323_146 (by decide) ?_
        exact cx_reti k323_148 rt_323 h
def l323_96 : Nat → Int32 × Mem → Option (Mem × Int32) :=
  fixN (fun self x => b323_96 (fun v3 μ => self (v3, μ)) (x.1) (x.2))
theorem l323_96_ok {L : Nat} (n : Nat) (v3 : Int32) (μ : Mem) (res : Mem × Int32) (h : l323_96 n (v3, μ) = some res) : Sx 323 96 [(0, .ref 129), (3, .int v3)] [] 0 0 (mk L μ) (mk L res.1, some (.int res.2)) := by
  have key := fixN_ind (P := fun x res => Sx 323 96 [(0, .ref 129), (3, .int (x.1))] [] 0 0 (mk L (x.2)) (mk L res.1, some (.int res.2))) (F := fun self x => b323_96 (fun v3 μ => self (v3, μ)) (x.1) (x.2)) (fun self hself x res h => b323_96_ok (fun v3 μ => self (v3, μ)) (fun v3 μ res hh => hself (v3, μ) res hh) (x.1) (x.2) res h) n (v3, μ) res h
  exact key
def c323_169 (v2 : Int32) (μ : Mem) : Option (Mem × Int32) :=
  if v2 ≤ (3 : Int32) then
    some (μ, (0 : Int32))
  else
    some (μ, (20 : Int32))
theorem c323_169_ok {L : Nat} (v2 : Int32) (μ : Mem) (res : Mem × Int32) (h : c323_169 v2 μ = some res) : Sx 323 169 [(2, .int v2)] [] 0 0 (mk L μ) (mk L res.1, some (.int res.2)) := by
  unfold c323_169 at h
  refine sx_iload_n (i := 2) k323_169 rfl rfl ?_
  refine sx_iconst (v := 3) k323_170 (by decide) ?_
  by_cases hb1 : v2 ≤ (3 : Int32)
  · rw [if_pos hb1] at h
    refine sx_icmp_le (tgt := 179) k323_171 (by decide) (fun _ => ?_) (fun q => absurd hb1 q)
    refine sx_iconst (v := 0) k323_179 (by decide) ?_
    exact cx_reti k323_180 rt_323 h
  · rw [if_neg hb1] at h
    refine sx_icmp_le (tgt := 179) k323_171 (by decide) (fun q => absurd q hb1) (fun _ => ?_)
    refine sx_bipush (v := 20) k323_174 (by decide) ?_
    refine sx_goto (tgt := 180) k323_176 (by decide) ?_
    exact cx_reti k323_180 rt_323 h
/-- CraftHouseModel.aheadOfSchedule(II)I -/
def f323 (p1 : Int32) (p2 : Int32) (μ : Mem) : Option (Mem × Int32) :=
  if p1 = (4 : Int32) then
    if p2 ≤ (3 : Int32) then
      (f314 182 (12 : Int32) μ).bind fun r12 =>
      if 0 < (lg_cmp (Int32.toInt64 r12.2) ((Int32.toInt64 (r12.1.1 129 77)) + (1 : Int64))) then
        if (r12.1.1 129 130) = (16 : Int32) then
          some (r12.1, (22 : Int32))
        else
          some (r12.1, (0 : Int32))
      else
        some (r12.1, (21 : Int32))
    else
      some (μ, (20 : Int32))
  else
    if p1 = (5 : Int32) then
      (f313 182 (11 : Int32) μ).bind fun r6 =>
      (f333 r6.2 r6.1).bind fun r8 =>
      if r8.2 = (-2 : Int32) then
        some (r8.1, (23 : Int32))
      else
        some (r8.1, (0 : Int32))
    else
      if p1 = (15 : Int32) then
        l323_96 gF ((0 : Int32), μ)
      else
        if p1 = (20 : Int32) then
          c323_169 p2 μ
        else
          if p1 = (21 : Int32) then
            c323_169 p2 μ
          else
            some (μ, (0 : Int32))
theorem ok323 {L : Nat} (p1 : Int32) (p2 : Int32) (μ : Mem) (res : Mem × Int32) (h : f323 p1 p2 μ = some res) : Mx 323 [.ref 129, .int p1, .int p2] (mk L μ) (mk L res.1, some (.int res.2)) := by
  refine Mx_of ml_323 (by rw [mx_323]; exact Nat.le_of_ble_eq_true rfl) ?_
  show Sx 323 0 [(0, .ref 129), (1, .int p1), (2, .int p2)] [] 0 0 (mk L μ) _
  unfold f323 at h
  refine sx_iload_n (i := 1) k323_0 rfl rfl ?_
  refine sx_iconst (v := 4) k323_1 (by decide) ?_
  by_cases hb1 : p1 = (4 : Int32)
  · rw [if_pos hb1] at h
    refine sx_icmp_ne (tgt := 57) k323_2 (by decide) (fun q => absurd hb1 q) (fun _ => ?_)
    refine sx_iload_n (i := 2) k323_5 rfl rfl ?_
    refine sx_iconst (v := 3) k323_6 (by decide) ?_
    by_cases hb11 : p2 ≤ (3 : Int32)
    · rw [if_pos hb11] at h
      refine sx_icmp_le (tgt := 15) k323_7 (by decide) (fun _ => ?_) (fun q => absurd hb11 q)
      refine sx_aload_n (i := 0) k323_15 rfl rfl ?_
      refine cx_getR (k := 105) k323_16 ow_323 fl_12_513 (by decide) sk_129 ft_11_105 sr_129_105 ?_
      refine sx_bipush (v := 12) k323_19 (by decide) ?_
      obtain ⟨r12, e13, h⟩ := Option.bind_eq_some_iff.mp h
      refine cx_S (sk := []) (vs := [.ref 182, .int (12 : Int32)]) st_323_314 k323_21 ow_323 cl_12_545 (by decide) rfl (Nat.le_of_ble_eq_true rfl) (ok314 182 (12 : Int32) sk_182 _ _ e13) (sk3 := [.int r12.2]) rfl rfl ?_
      refine sx_i2l k323_24 ?_
      refine sx_aload_n (i := 0) k323_25 rfl rfl ?_
      refine cx_getI (k := 77) k323_26 ow_323 fl_12_405 (by decide) sk_129 ft_11_77 ?_
      refine sx_i2l k323_29 ?_
      refine sx_lconst (v := 1) k323_30 (by decide) ?_
      refine sx_ladd k323_31 ?_
      refine sx_lcmp k323_32 ?_
      by_cases hb14 : 0 < (lg_cmp (Int32.toInt64 r12.2) ((Int32.toInt64 (r12.1.1 129 77)) + (1 : Int64)))
      · rw [if_pos hb14] at h
        refine sx_if_gt (tgt := 41) k323_33 (by decide) (fun _ => ?_) (fun q => absurd hb14 q)
        refine sx_aload_n (i := 0) k323_41 rfl rfl ?_
        refine cx_getI (k := 130) k323_42 ow_323 fl_12_402 (by decide) sk_129 ft_11_130 ?_
        refine sx_bipush (v := 16) k323_45 (by decide) ?_
        by_cases hb15 : (r12.1.1 129 130) = (16 : Int32)
        · rw [if_pos hb15] at h
          refine sx_icmp_ne (tgt := 55) k323_47 (by decide) (fun q => absurd hb15 q) (fun _ => ?_)
          refine sx_bipush (v := 22) k323_50 (by decide) ?_
          refine sx_goto (tgt := 56) k323_52 (by decide) ?_
          exact cx_reti k323_56 rt_323 h
        · rw [if_neg hb15] at h
          refine sx_icmp_ne (tgt := 55) k323_47 (by decide) (fun _ => ?_) (fun q => absurd q hb15)
          refine sx_iconst (v := 0) k323_55 (by decide) ?_
          exact cx_reti k323_56 rt_323 h
      · rw [if_neg hb14] at h
        refine sx_if_gt (tgt := 41) k323_33 (by decide) (fun q => absurd q hb14) (fun _ => ?_)
        refine sx_bipush (v := 21) k323_36 (by decide) ?_
        refine sx_goto (tgt := 56) k323_38 (by decide) ?_
        exact cx_reti k323_56 rt_323 h
    · rw [if_neg hb11] at h
      refine sx_icmp_le (tgt := 15) k323_7 (by decide) (fun q => absurd q hb11) (fun _ => ?_)
      refine sx_bipush (v := 20) k323_10 (by decide) ?_
      refine sx_goto (tgt := 56) k323_12 (by decide) ?_
      exact cx_reti k323_56 rt_323 h
  · rw [if_neg hb1] at h
    refine sx_icmp_ne (tgt := 57) k323_2 (by decide) (fun _ => ?_) (fun q => absurd q hb1)
    refine sx_iload_n (i := 1) k323_57 rfl rfl ?_
    refine sx_iconst (v := 5) k323_58 (by decide) ?_
    by_cases hb2 : p1 = (5 : Int32)
    · rw [if_pos hb2] at h
      refine sx_icmp_ne (tgt := 88) k323_59 (by decide) (fun q => absurd hb2 q) (fun _ => ?_)
      refine sx_aload_n (i := 0) k323_62 rfl rfl ?_
      refine sx_aload_n (i := 0) k323_63 rfl rfl ?_
      refine sx_aload_n (i := 0) k323_64 rfl rfl ?_
      refine cx_getR (k := 105) k323_65 ow_323 fl_12_513 (by decide) sk_129 ft_11_105 sr_129_105 ?_
      refine sx_bipush (v := 11) k323_68 (by decide) ?_
      obtain ⟨r6, e7, h⟩ := Option.bind_eq_some_iff.mp h
      refine cx_V (sk := [.ref 129]) (vs := [.ref 182, .int (11 : Int32)]) st_323_313 k323_70 ow_323 cl_12_472 (by decide) rfl (Nat.le_of_ble_eq_true rfl) sk_129 (ok313 182 (11 : Int32) sk_182 _ _ e7) (sk3 := [.int r6.2, .ref 129]) rfl rfl ?_
      obtain ⟨r8, e9, h⟩ := Option.bind_eq_some_iff.mp h
      refine cx_V (sk := []) (vs := [.int r6.2]) st_323_333 k323_73 ow_323 cl_12_551 (by decide) rfl (Nat.le_of_ble_eq_true rfl) sk_129 (ok333 r6.2 _ _ e9) (sk3 := [.int r8.2]) rfl rfl ?_
      refine sx_bipush (v := -2) k323_76 (by decide) ?_
      by_cases hb10 : r8.2 = (-2 : Int32)
      · rw [if_pos hb10] at h
        refine sx_icmp_ne (tgt := 86) k323_78 (by decide) (fun q => absurd hb10 q) (fun _ => ?_)
        refine sx_bipush (v := 23) k323_81 (by decide) ?_
        refine sx_goto (tgt := 87) k323_83 (by decide) ?_
        exact cx_reti k323_87 rt_323 h
      · rw [if_neg hb10] at h
        refine sx_icmp_ne (tgt := 86) k323_78 (by decide) (fun _ => ?_) (fun q => absurd q hb10)
        refine sx_iconst (v := 0) k323_86 (by decide) ?_
        exact cx_reti k323_87 rt_323 h
    · rw [if_neg hb2] at h
      refine sx_icmp_ne (tgt := 88) k323_59 (by decide) (fun _ => ?_) (fun q => absurd q hb2)
      refine sx_iload_n (i := 1) k323_88 rfl rfl ?_
      refine sx_bipush (v := 15) k323_89 (by decide) ?_
      by_cases hb3 : p1 = (15 : Int32)
      · rw [if_pos hb3] at h
        refine sx_icmp_ne (tgt := 157) k323_91 (by decide) (fun q => absurd hb3 q) (fun _ => ?_)
        refine sx_iconst (v := 0) k323_94 (by decide) ?_
        refine cx_istore_n (lo2 := [(3, .int (0 : Int32)), (0, .ref 129), (1, .int p1), (2, .int p2)]) k323_95 rfl (by rw [mx_323]; decide) rfl ?_
        refine sx_pick (lo2 := [(0, .ref 129), (3, .int (0 : Int32))]) [1, 0] rfl ?_
        exact l323_96_ok gF (0 : Int32) _ _ h
      · rw [if_neg hb3] at h
        refine sx_icmp_ne (tgt := 157) k323_91 (by decide) (fun _ => ?_) (fun q => absurd q hb3)
        refine sx_iload_n (i := 1) k323_157 rfl rfl ?_
        refine sx_bipush (v := 20) k323_158 (by decide) ?_
        by_cases hb4 : p1 = (20 : Int32)
        · rw [if_pos hb4] at h
          refine sx_icmp_eq (tgt := 169) k323_160 (by decide) (fun _ => ?_) (fun q => absurd hb4 q)
          refine sx_pick (lo2 := [(2, .int p2)]) [2] rfl ?_
          exact c323_169_ok p2 _ _ h
        · rw [if_neg hb4] at h
          refine sx_icmp_eq (tgt := 169) k323_160 (by decide) (fun q => absurd q hb4) (fun _ => ?_)
          refine sx_iload_n (i := 1) k323_163 rfl rfl ?_
          refine sx_bipush (v := 21) k323_164 (by decide) ?_
          by_cases hb5 : p1 = (21 : Int32)
          · rw [if_pos hb5] at h
            refine sx_icmp_ne (tgt := 179) k323_166 (by decide) (fun q => absurd hb5 q) (fun _ => ?_)
            refine sx_pick (lo2 := [(2, .int p2)]) [2] rfl ?_
            exact c323_169_ok p2 _ _ h
          · rw [if_neg hb5] at h
            refine sx_icmp_ne (tgt := 179) k323_166 (by decide) (fun _ => ?_) (fun q => absurd q hb5)
            refine sx_iconst (v := 0) k323_179 (by decide) ?_
            exact cx_reti k323_180 rt_323 h
theorem k324_0 : decode (gb 324) 0 = .ok (.iload_n 2, 1) := by decide +kernel
theorem k324_1 : decode (gb 324) 1 = .ok (.iconst 1, 1) := by decide +kernel
theorem k324_2 : decode (gb 324) 2 = .ok (.if_icmp .le 6, 3) := by decide +kernel
theorem k324_5 : decode (gb 324) 5 = .ok (.bipush 24, 2) := by decide +kernel
theorem k324_7 : decode (gb 324) 7 = .ok (.ireturn, 1) := by decide +kernel
theorem k324_8 : decode (gb 324) 8 = .ok (.iload_n 1, 1) := by decide +kernel
theorem k324_9 : decode (gb 324) 9 = .ok (.iconst 3, 1) := by decide +kernel
theorem k324_10 : decode (gb 324) 10 = .ok (.if_icmp .ne 43, 3) := by decide +kernel
theorem k324_13 : decode (gb 324) 13 = .ok (.aload_n 0, 1) := by decide +kernel
theorem k324_14 : decode (gb 324) 14 = .ok (.iload_n 2, 1) := by decide +kernel
theorem k324_15 : decode (gb 324) 15 = .ok (.aload_n 0, 1) := by decide +kernel
theorem k324_16 : decode (gb 324) 16 = .ok (.getfield 513, 3) := by decide +kernel
theorem k324_19 : decode (gb 324) 19 = .ok (.bipush 12, 2) := by decide +kernel
theorem k324_21 : decode (gb 324) 21 = .ok (.iaload, 1) := by decide +kernel
theorem k324_22 : decode (gb 324) 22 = .ok (.aload_n 0, 1) := by decide +kernel
theorem k324_23 : decode (gb 324) 23 = .ok (.getfield 513, 3) := by decide +kernel
theorem k324_26 : decode (gb 324) 26 = .ok (.bipush 13, 2) := by decide +kernel
theorem k324_28 : decode (gb 324) 28 = .ok (.iaload, 1) := by decide +kernel
theorem k324_29 : decode (gb 324) 29 = .ok (.invokevirtual 420, 3) := by decide +kernel
theorem k324_32 : decode (gb 324) 32 = .ok (.ifCond .ne 19, 3) := by decide +kernel
theorem k324_35 : decode (gb 324) 35 = .ok (.aload_n 0, 1) := by decide +kernel
theorem k324_36 : decode (gb 324) 36 = .ok (.getfield 438, 3) := by decide +kernel
theorem k324_39 : decode (gb 324) 39 = .ok (.iload_n 2, 1) := by decide +kernel
theorem k324_40 : decode (gb 324) 40 = .ok (.iaload, 1) := by decide +kernel
theorem k324_41 : decode (gb 324) 41 = .ok (.bipush 6, 2) := by decide +kernel
theorem k324_43 : decode (gb 324) 43 = .ok (.if_icmp .ne 8, 3) := by decide +kernel
theorem k324_46 : decode (gb 324) 46 = .ok (.bipush 25, 2) := by decide +kernel
theorem k324_48 : decode (gb 324) 48 = .ok (.goto 4, 3) := by decide +kernel
theorem k324_51 : decode (gb 324) 51 = .ok (.iconst 0, 1) := by decide +kernel
theorem k324_52 : decode (gb 324) 52 = .ok (.ireturn, 1) := by decide +kernel
theorem k324_53 : decode (gb 324) 53 = .ok (.iload_n 1, 1) := by decide +kernel
theorem k324_54 : decode (gb 324) 54 = .ok (.bipush 9, 2) := by decide +kernel
theorem k324_56 : decode (gb 324) 56 = .ok (.if_icmp .ne 15, 3) := by decide +kernel
theorem k324_59 : decode (gb 324) 59 = .ok (.aload_n 0, 1) := by decide +kernel
theorem k324_60 : decode (gb 324) 60 = .ok (.getfield 559, 3) := by decide +kernel
theorem k324_63 : decode (gb 324) 63 = .ok (.ifCond .le 8, 3) := by decide +kernel
theorem k324_66 : decode (gb 324) 66 = .ok (.bipush 26, 2) := by decide +kernel
theorem k324_68 : decode (gb 324) 68 = .ok (.goto 4, 3) := by decide +kernel
theorem k324_71 : decode (gb 324) 71 = .ok (.iconst 0, 1) := by decide +kernel
theorem k324_72 : decode (gb 324) 72 = .ok (.ireturn, 1) := by decide +kernel
/-- CraftHouseModel.aheadOfStore(II)I -/
def f324 (p1 : Int32) (p2 : Int32) (μ : Mem) : Option (Mem × Int32) :=
  if p2 ≤ (1 : Int32) then
    if p1 = (3 : Int32) then
      (ldA 182 (12 : Int32) μ).bind fun x5 =>
      (ldA 182 (13 : Int32) μ).bind fun x7 =>
      (f306 p2 x5 x7 μ).bind fun r9 =>
      if r9.2 = 0 then
        (ldA 174 p2 r9.1).bind fun x12 =>
        if x12 = (6 : Int32) then
          some (r9.1, (25 : Int32))
        else
          some (r9.1, (0 : Int32))
      else
        some (r9.1, (0 : Int32))
    else
      if p1 = (9 : Int32) then
        if (μ.1 129 90) ≤ 0 then
          some (μ, (0 : Int32))
        else
          some (μ, (26 : Int32))
      else
        some (μ, (0 : Int32))
  else
    some (μ, (24 : Int32))
theorem ok324 {L : Nat} (p1 : Int32) (p2 : Int32) (μ : Mem) (res : Mem × Int32) (h : f324 p1 p2 μ = some res) : Mx 324 [.ref 129, .int p1, .int p2] (mk L μ) (mk L res.1, some (.int res.2)) := by
  refine Mx_of ml_324 (by rw [mx_324]; exact Nat.le_of_ble_eq_true rfl) ?_
  show Sx 324 0 [(0, .ref 129), (1, .int p1), (2, .int p2)] [] 0 0 (mk L μ) _
  unfold f324 at h
  refine sx_iload_n (i := 2) k324_0 rfl rfl ?_
  refine sx_iconst (v := 1) k324_1 (by decide) ?_
  by_cases hb1 : p2 ≤ (1 : Int32)
  · rw [if_pos hb1] at h
    refine sx_icmp_le (tgt := 8) k324_2 (by decide) (fun _ => ?_) (fun q => absurd hb1 q)
    refine sx_iload_n (i := 1) k324_8 rfl rfl ?_
    refine sx_iconst (v := 3) k324_9 (by decide) ?_
    by_cases hb2 : p1 = (3 : Int32)
    · rw [if_pos hb2] at h
      refine sx_icmp_ne (tgt := 53) k324_10 (by decide) (fun q => absurd hb2 q) (fun _ => ?_)
      refine sx_aload_n (i := 0) k324_13 rfl rfl ?_
      refine sx_iload_n (i := 2) k324_14 rfl rfl ?_
      refine sx_aload_n (i := 0) k324_15 rfl rfl ?_
      refine cx_getR (k := 105) k324_16 ow_324 fl_12_513 (by decide) sk_129 ft_11_105 sr_129_105 ?_
      refine sx_bipush (v := 12) k324_19 (by decide) ?_
      obtain ⟨x5, e6, h⟩ := Option.bind_eq_some_iff.mp h
      refine cx_iald k324_21 sk_182 e6 ?_
      refine sx_aload_n (i := 0) k324_22 rfl rfl ?_
      refine cx_getR (k := 105) k324_23 ow_324 fl_12_513 (by decide) sk_129 ft_11_105 sr_129_105 ?_
      refine sx_bipush (v := 13) k324_26 (by decide) ?_
      obtain ⟨x7, e8, h⟩ := Option.bind_eq_some_iff.mp h
      refine cx_iald k324_28 sk_182 e8 ?_
      obtain ⟨r9, e10, h⟩ := Option.bind_eq_some_iff.mp h
      refine cx_V (sk := []) (vs := [.int p2, .int x5, .int x7]) st_324_306 k324_29 ow_324 cl_12_420 (by decide) rfl (Nat.le_of_ble_eq_true rfl) sk_129 (ok306 p2 x5 x7 _ _ e10) (sk3 := [.int r9.2]) rfl rfl ?_
      by_cases hb11 : r9.2 = 0
      · rw [if_pos hb11] at h
        refine sx_if_ne (tgt := 51) k324_32 (by decide) (fun q => absurd hb11 q) (fun _ => ?_)
        refine sx_aload_n (i := 0) k324_35 rfl rfl ?_
        refine cx_getR (k := 96) k324_36 ow_324 fl_12_438 (by decide) sk_129 ft_11_96 sr_129_96 ?_
        refine sx_iload_n (i := 2) k324_39 rfl rfl ?_
        obtain ⟨x12, e13, h⟩ := Option.bind_eq_some_iff.mp h
        refine cx_iald k324_40 sk_174 e13 ?_
        refine sx_bipush (v := 6) k324_41 (by decide) ?_
        by_cases hb14 : x12 = (6 : Int32)
        · rw [if_pos hb14] at h
          refine sx_icmp_ne (tgt := 51) k324_43 (by decide) (fun q => absurd hb14 q) (fun _ => ?_)
          refine sx_bipush (v := 25) k324_46 (by decide) ?_
          refine sx_goto (tgt := 52) k324_48 (by decide) ?_
          exact cx_reti k324_52 rt_324 h
        · rw [if_neg hb14] at h
          refine sx_icmp_ne (tgt := 51) k324_43 (by decide) (fun _ => ?_) (fun q => absurd q hb14)
          refine sx_iconst (v := 0) k324_51 (by decide) ?_
          exact cx_reti k324_52 rt_324 h
      · rw [if_neg hb11] at h
        refine sx_if_ne (tgt := 51) k324_32 (by decide) (fun _ => ?_) (fun q => absurd q hb11)
        refine sx_iconst (v := 0) k324_51 (by decide) ?_
        exact cx_reti k324_52 rt_324 h
    · rw [if_neg hb2] at h
      refine sx_icmp_ne (tgt := 53) k324_10 (by decide) (fun _ => ?_) (fun q => absurd q hb2)
      refine sx_iload_n (i := 1) k324_53 rfl rfl ?_
      refine sx_bipush (v := 9) k324_54 (by decide) ?_
      by_cases hb3 : p1 = (9 : Int32)
      · rw [if_pos hb3] at h
        refine sx_icmp_ne (tgt := 71) k324_56 (by decide) (fun q => absurd hb3 q) (fun _ => ?_)
        refine sx_aload_n (i := 0) k324_59 rfl rfl ?_
        refine cx_getI (k := 90) k324_60 ow_324 fl_12_559 (by decide) sk_129 ft_11_90 ?_
        by_cases hb4 : (μ.1 129 90) ≤ 0
        · rw [if_pos hb4] at h
          refine sx_if_le (tgt := 71) k324_63 (by decide) (fun _ => ?_) (fun q => absurd hb4 q)
          refine sx_iconst (v := 0) k324_71 (by decide) ?_
          exact cx_reti k324_72 rt_324 h
        · rw [if_neg hb4] at h
          refine sx_if_le (tgt := 71) k324_63 (by decide) (fun q => absurd q hb4) (fun _ => ?_)
          refine sx_bipush (v := 26) k324_66 (by decide) ?_
          refine sx_goto (tgt := 72) k324_68 (by decide) ?_
          exact cx_reti k324_72 rt_324 h
      · rw [if_neg hb3] at h
        refine sx_icmp_ne (tgt := 71) k324_56 (by decide) (fun _ => ?_) (fun q => absurd q hb3)
        refine sx_iconst (v := 0) k324_71 (by decide) ?_
        exact cx_reti k324_72 rt_324 h
  · rw [if_neg hb1] at h
    refine sx_icmp_le (tgt := 8) k324_2 (by decide) (fun q => absurd q hb1) (fun _ => ?_)
    refine sx_bipush (v := 24) k324_5 (by decide) ?_
    exact cx_reti k324_7 rt_324 h
theorem k321_0 : decode (gb 321) 0 = .ok (.aload_n 0, 1) := by decide +kernel
theorem k321_1 : decode (gb 321) 1 = .ok (.getfield 507, 3) := by decide +kernel
theorem k321_4 : decode (gb 321) 4 = .ok (.bipush 13, 2) := by decide +kernel
theorem k321_6 : decode (gb 321) 6 = .ok (.if_icmp .le 13, 3) := by decide +kernel
theorem k321_9 : decode (gb 321) 9 = .ok (.aload_n 0, 1) := by decide +kernel
theorem k321_10 : decode (gb 321) 10 = .ok (.getfield 513, 3) := by decide +kernel
theorem k321_13 : decode (gb 321) 13 = .ok (.bipush 11, 2) := by decide +kernel
theorem k321_15 : decode (gb 321) 15 = .ok (.iaload, 1) := by decide +kernel
theorem k321_16 : decode (gb 321) 16 = .ok (.goto 4, 3) := by decide +kernel
theorem k321_19 : decode (gb 321) 19 = .ok (.iconst 0, 1) := by decide +kernel
theorem k321_20 : decode (gb 321) 20 = .ok (.istore_n 3, 1) := by decide +kernel
theorem k321_21 : decode (gb 321) 21 = .ok (.iload_n 1, 1) := by decide +kernel
theorem k321_22 : decode (gb 321) 22 = .ok (.tableswitch 379 3 20 #[211, 379, 296, 133, 379, 309, 379, 379, 365, 321, 379, 379, 372, 379, 379, 379, 328, 86], 86) := by decide +kernel
theorem k321_108 : decode (gb 321) 108 = .ok (.iload_n 2, 1) := by decide +kernel
theorem k321_109 : decode (gb 321) 109 = .ok (.iconst 1, 1) := by decide +kernel
theorem k321_110 : decode (gb 321) 110 = .ok (.if_icmp .ne 25, 3) := by decide +kernel
theorem k321_113 : decode (gb 321) 113 = .ok (.aload_n 0, 1) := by decide +kernel
theorem k321_114 : decode (gb 321) 114 = .ok (.bipush 12, 2) := by decide +kernel
theorem k321_116 : decode (gb 321) 116 = .ok (.iload_n 3, 1) := by decide +kernel
theorem k321_117 : decode (gb 321) 117 = .ok (.iconst 1, 1) := by decide +kernel
theorem k321_118 : decode (gb 321) 118 = .ok (.bipush 23, 2) := by decide +kernel
theorem k321_120 : decode (gb 321) 120 = .ok (.invokevirtual 523, 3) := by decide +kernel
theorem k321_123 : decode (gb 321) 123 = .ok (.ifCond .eq 7, 3) := by decide +kernel
theorem k321_126 : decode (gb 321) 126 = .ok (.iconst 0, 1) := by decide +kernel
theorem k321_127 : decode (gb 321) 127 = .ok (.goto 27, 3) := by decide +kernel
theorem k321_130 : decode (gb 321) 130 = .ok (.bipush 10, 2) := by decide +kernel
theorem k321_132 : decode (gb 321) 132 = .ok (.goto 22, 3) := by decide +kernel
theorem k321_135 : decode (gb 321) 135 = .ok (.aload_n 0, 1) := by decide +kernel
theorem k321_136 : decode (gb 321) 136 = .ok (.bipush 12, 2) := by decide +kernel
theorem k321_138 : decode (gb 321) 138 = .ok (.iload_n 3, 1) := by decide +kernel
theorem k321_139 : decode (gb 321) 139 = .ok (.iconst 5, 1) := by decide +kernel
theorem k321_140 : decode (gb 321) 140 = .ok (.bipush 15, 2) := by decide +kernel
theorem k321_142 : decode (gb 321) 142 = .ok (.invokevirtual 523, 3) := by decide +kernel
theorem k321_145 : decode (gb 321) 145 = .ok (.ifCond .eq 7, 3) := by decide +kernel
theorem k321_148 : decode (gb 321) 148 = .ok (.iconst 0, 1) := by decide +kernel
theorem k321_149 : decode (gb 321) 149 = .ok (.goto 5, 3) := by decide +kernel
theorem k321_152 : decode (gb 321) 152 = .ok (.bipush 10, 2) := by decide +kernel
theorem k321_154 : decode (gb 321) 154 = .ok (.ireturn, 1) := by decide +kernel
theorem k321_155 : decode (gb 321) 155 = .ok (.iload_n 2, 1) := by decide +kernel
theorem k321_156 : decode (gb 321) 156 = .ok (.bipush 9, 2) := by decide +kernel
theorem k321_158 : decode (gb 321) 158 = .ok (.if_icmp .ne 16, 3) := by decide +kernel
theorem k321_161 : decode (gb 321) 161 = .ok (.aload_n 0, 1) := by decide +kernel
theorem k321_162 : decode (gb 321) 162 = .ok (.aload_n 0, 1) := by decide +kernel
theorem k321_163 : decode (gb 321) 163 = .ok (.getfield 513, 3) := by decide +kernel
theorem k321_166 : decode (gb 321) 166 = .ok (.bipush 13, 2) := by decide +kernel
theorem k321_168 : decode (gb 321) 168 = .ok (.invokevirtual 472, 3) := by decide +kernel
theorem k321_171 : decode (gb 321) 171 = .ok (.goto 10, 3) := by decide +kernel
theorem k321_174 : decode (gb 321) 174 = .ok (.aload_n 0, 1) := by decide +kernel
theorem k321_175 : decode (gb 321) 175 = .ok (.getfield 513, 3) := by decide +kernel
theorem k321_178 : decode (gb 321) 178 = .ok (.bipush 13, 2) := by decide +kernel
theorem k321_180 : decode (gb 321) 180 = .ok (.iaload, 1) := by decide +kernel
theorem k321_181 : decode (gb 321) 181 = .ok (.istore 4, 2) := by decide +kernel
theorem k321_183 : decode (gb 321) 183 = .ok (.aload_n 0, 1) := by decide +kernel
theorem k321_184 : decode (gb 321) 184 = .ok (.aload_n 0, 1) := by decide +kernel
theorem k321_185 : decode (gb 321) 185 = .ok (.getfield 513, 3) := by decide +kernel
theorem k321_188 : decode (gb 321) 188 = .ok (.bipush 11, 2) := by decide +kernel
theorem k321_190 : decode (gb 321) 190 = .ok (.invokevirtual 472, 3) := by decide +kernel
theorem k321_193 : decode (gb 321) 193 = .ok (.iload 4, 2) := by decide +kernel
theorem k321_195 : decode (gb 321) 195 = .ok (.iadd, 1) := by decide +kernel
theorem k321_196 : decode (gb 321) 196 = .ok (.iconst 1, 1) := by decide +kernel
theorem k321_197 : decode (gb 321) 197 = .ok (.isub, 1) := by decide +kernel
theorem k321_198 : decode (gb 321) 198 = .ok (.istore 5, 2) := by decide +kernel
theorem k321_200 : decode (gb 321) 200 = .ok (.iload 5, 2) := by decide +kernel
theorem k321_202 : decode (gb 321) 202 = .ok (.sipush 1023, 3) := by decide +kernel
theorem k321_205 : decode (gb 321) 205 = .ok (.if_icmp .le 8, 3) := by decide +kernel
theorem k321_208 : decode (gb 321) 208 = .ok (.bipush 11, 2) := by decide +kernel
theorem k321_210 : decode (gb 321) 210 = .ok (.goto 22, 3) := by decide +kernel
theorem k321_213 : decode (gb 321) 213 = .ok (.iload_n 2, 1) := by decide +kernel
theorem k321_214 : decode (gb 321) 214 = .ok (.iconst 2, 1) := by decide +kernel
theorem k321_215 : decode (gb 321) 215 = .ok (.if_icmp .ne 16, 3) := by decide +kernel
theorem k321_218 : decode (gb 321) 218 = .ok (.iload 5, 2) := by decide +kernel
theorem k321_220 : decode (gb 321) 220 = .ok (.sipush 768, 3) := by decide +kernel
theorem k321_223 : decode (gb 321) 223 = .ok (.if_icmp .lt 8, 3) := by decide +kernel
theorem k321_226 : decode (gb 321) 226 = .ok (.bipush 12, 2) := by decide +kernel
theorem k321_228 : decode (gb 321) 228 = .ok (.goto 4, 3) := by decide +kernel
theorem k321_231 : decode (gb 321) 231 = .ok (.iconst 0, 1) := by decide +kernel
theorem k321_232 : decode (gb 321) 232 = .ok (.ireturn, 1) := by decide +kernel
theorem k321_233 : decode (gb 321) 233 = .ok (.iload_n 2, 1) := by decide +kernel
theorem k321_234 : decode (gb 321) 234 = .ok (.iconst 1, 1) := by decide +kernel
theorem k321_235 : decode (gb 321) 235 = .ok (.if_icmp .ne 48, 3) := by decide +kernel
theorem k321_238 : decode (gb 321) 238 = .ok (.aload_n 0, 1) := by decide +kernel
theorem k321_239 : decode (gb 321) 239 = .ok (.bipush 15, 2) := by decide +kernel
theorem k321_241 : decode (gb 321) 241 = .ok (.aload_n 0, 1) := by decide +kernel
theorem k321_242 : decode (gb 321) 242 = .ok (.getfield 513, 3) := by decide +kernel
theorem k321_245 : decode (gb 321) 245 = .ok (.bipush 14, 2) := by decide +kernel
theorem k321_247 : decode (gb 321) 247 = .ok (.iaload, 1) := by decide +kernel
theorem k321_248 : decode (gb 321) 248 = .ok (.iconst 1, 1) := by decide +kernel
theorem k321_249 : decode (gb 321) 249 = .ok (.bipush 23, 2) := by decide +kernel
theorem k321_251 : decode (gb 321) 251 = .ok (.invokevirtual 523, 3) := by decide +kernel
theorem k321_254 : decode (gb 321) 254 = .ok (.ifCond .ne 8, 3) := by decide +kernel
theorem k321_257 : decode (gb 321) 257 = .ok (.bipush 10, 2) := by decide +kernel
theorem k321_259 : decode (gb 321) 259 = .ok (.goto 23, 3) := by decide +kernel
theorem k321_262 : decode (gb 321) 262 = .ok (.iload_n 3, 1) := by decide +kernel
theorem k321_263 : decode (gb 321) 263 = .ok (.iconst 5, 1) := by decide +kernel
theorem k321_264 : decode (gb 321) 264 = .ok (.if_icmp .gt 12, 3) := by decide +kernel
theorem k321_267 : decode (gb 321) 267 = .ok (.aload_n 0, 1) := by decide +kernel
theorem k321_268 : decode (gb 321) 268 = .ok (.getfield 527, 3) := by decide +kernel
theorem k321_271 : decode (gb 321) 271 = .ok (.iload_n 3, 1) := by decide +kernel
theorem k321_272 : decode (gb 321) 272 = .ok (.baload, 1) := by decide +kernel
theorem k321_273 : decode (gb 321) 273 = .ok (.ifCond .eq 8, 3) := by decide +kernel
theorem k321_276 : decode (gb 321) 276 = .ok (.bipush 13, 2) := by decide +kernel
theorem k321_278 : decode (gb 321) 278 = .ok (.goto 4, 3) := by decide +kernel
theorem k321_281 : decode (gb 321) 281 = .ok (.iconst 0, 1) := by decide +kernel
theorem k321_282 : decode (gb 321) 282 = .ok (.ireturn, 1) := by decide +kernel
theorem k321_283 : decode (gb 321) 283 = .ok (.iload_n 3, 1) := by decide +kernel
theorem k321_284 : decode (gb 321) 284 = .ok (.iconst 5, 1) := by decide +kernel
theorem k321_285 : decode (gb 321) 285 = .ok (.if_icmp .gt 26, 3) := by decide +kernel
theorem k321_288 : decode (gb 321) 288 = .ok (.aload_n 0, 1) := by decide +kernel
theorem k321_289 : decode (gb 321) 289 = .ok (.getfield 527, 3) := by decide +kernel
theorem k321_292 : decode (gb 321) 292 = .ok (.iload_n 3, 1) := by decide +kernel
theorem k321_293 : decode (gb 321) 293 = .ok (.baload, 1) := by decide +kernel
theorem k321_294 : decode (gb 321) 294 = .ok (.ifCond .eq 17, 3) := by decide +kernel
theorem k321_297 : decode (gb 321) 297 = .ok (.iload_n 2, 1) := by decide +kernel
theorem k321_298 : decode (gb 321) 298 = .ok (.iconst 3, 1) := by decide +kernel
theorem k321_299 : decode (gb 321) 299 = .ok (.if_icmp .ne 17, 3) := by decide +kernel
theorem k321_302 : decode (gb 321) 302 = .ok (.aload_n 0, 1) := by decide +kernel
theorem k321_303 : decode (gb 321) 303 = .ok (.getfield 530, 3) := by decide +kernel
theorem k321_306 : decode (gb 321) 306 = .ok (.iload_n 3, 1) := by decide +kernel
theorem k321_307 : decode (gb 321) 307 = .ok (.baload, 1) := by decide +kernel
theorem k321_308 : decode (gb 321) 308 = .ok (.ifCond .eq 8, 3) := by decide +kernel
theorem k321_311 : decode (gb 321) 311 = .ok (.bipush 13, 2) := by decide +kernel
theorem k321_313 : decode (gb 321) 313 = .ok (.goto 4, 3) := by decide +kernel
theorem k321_316 : decode (gb 321) 316 = .ok (.iconst 0, 1) := by decide +kernel
theorem k321_317 : decode (gb 321) 317 = .ok (.ireturn, 1) := by decide +kernel
theorem k321_318 : decode (gb 321) 318 = .ok (.iload_n 3, 1) := by decide +kernel
theorem k321_319 : decode (gb 321) 319 = .ok (.bipush 31, 2) := by decide +kernel
theorem k321_321 : decode (gb 321) 321 = .ok (.if_icmp .le 8, 3) := by decide +kernel
theorem k321_324 : decode (gb 321) 324 = .ok (.bipush 14, 2) := by decide +kernel
theorem k321_326 : decode (gb 321) 326 = .ok (.goto 4, 3) := by decide +kernel
theorem k321_329 : decode (gb 321) 329 = .ok (.iconst 0, 1) := by decide +kernel
theorem k321_330 : decode (gb 321) 330 = .ok (.ireturn, 1) := by decide +kernel
theorem k321_331 : decode (gb 321) 331 = .ok (.iload_n 3, 1) := by decide +kernel
theorem k321_332 : decode (gb 321) 332 = .ok (.iconst 3, 1) := by decide +kernel
theorem k321_333 : decode (gb 321) 333 = .ok (.if_icmp .le 8, 3) := by decide +kernel
theorem k321_336 : decode (gb 321) 336 = .ok (.bipush 15, 2) := by decide +kernel
theorem k321_338 : decode (gb 321) 338 = .ok (.goto 4, 3) := by decide +kernel
theorem k321_341 : decode (gb 321) 341 = .ok (.iconst 0, 1) := by decide +kernel
theorem k321_342 : decode (gb 321) 342 = .ok (.ireturn, 1) := by decide +kernel
theorem k321_343 : decode (gb 321) 343 = .ok (.aload_n 0, 1) := by decide +kernel
theorem k321_344 : decode (gb 321) 344 = .ok (.iload_n 2, 1) := by decide +kernel
theorem k321_345 : decode (gb 321) 345 = .ok (.iload_n 3, 1) := by decide +kernel
theorem k321_346 : decode (gb 321) 346 = .ok (.invokevirtual 533, 3) := by decide +kernel
theorem k321_349 : decode (gb 321) 349 = .ok (.ireturn, 1) := by decide +kernel
theorem k321_350 : decode (gb 321) 350 = .ok (.iload_n 3, 1) := by decide +kernel
theorem k321_351 : decode (gb 321) 351 = .ok (.bipush 31, 2) := by decide +kernel
theorem k321_353 : decode (gb 321) 353 = .ok (.if_icmp .le 8, 3) := by decide +kernel
theorem k321_356 : decode (gb 321) 356 = .ok (.bipush 14, 2) := by decide +kernel
theorem k321_358 : decode (gb 321) 358 = .ok (.goto 28, 3) := by decide +kernel
theorem k321_361 : decode (gb 321) 361 = .ok (.aload_n 0, 1) := by decide +kernel
theorem k321_362 : decode (gb 321) 362 = .ok (.getfield 536, 3) := by decide +kernel
theorem k321_365 : decode (gb 321) 365 = .ok (.iload_n 3, 1) := by decide +kernel
theorem k321_366 : decode (gb 321) 366 = .ok (.baload, 1) := by decide +kernel
theorem k321_367 : decode (gb 321) 367 = .ok (.iload_n 2, 1) := by decide +kernel
theorem k321_368 : decode (gb 321) 368 = .ok (.iconst 1, 1) := by decide +kernel
theorem k321_369 : decode (gb 321) 369 = .ok (.if_icmp .ne 7, 3) := by decide +kernel
theorem k321_372 : decode (gb 321) 372 = .ok (.iconst 1, 1) := by decide +kernel
theorem k321_373 : decode (gb 321) 373 = .ok (.goto 4, 3) := by decide +kernel
theorem k321_376 : decode (gb 321) 376 = .ok (.iconst 0, 1) := by decide +kernel
theorem k321_377 : decode (gb 321) 377 = .ok (.if_icmp .ne 8, 3) := by decide +kernel
theorem k321_380 : decode (gb 321) 380 = .ok (.bipush 19, 2) := by decide +kernel
theorem k321_382 : decode (gb 321) 382 = .ok (.goto 4, 3) := by decide +kernel
theorem k321_385 : decode (gb 321) 385 = .ok (.iconst 0, 1) := by decide +kernel
theorem k321_386 : decode (gb 321) 386 = .ok (.ireturn, 1) := by decide +kernel
theorem k321_387 : decode (gb 321) 387 = .ok (.aload_n 0, 1) := by decide +kernel
theorem k321_388 : decode (gb 321) 388 = .ok (.iload_n 2, 1) := by decide +kernel
theorem k321_389 : decode (gb 321) 389 = .ok (.iload_n 3, 1) := by decide +kernel
theorem k321_390 : decode (gb 321) 390 = .ok (.invokevirtual 539, 3) := by decide +kernel
theorem k321_393 : decode (gb 321) 393 = .ok (.ireturn, 1) := by decide +kernel
theorem k321_394 : decode (gb 321) 394 = .ok (.aload_n 0, 1) := by decide +kernel
theorem k321_395 : decode (gb 321) 395 = .ok (.iload_n 2, 1) := by decide +kernel
theorem k321_396 : decode (gb 321) 396 = .ok (.iload_n 3, 1) := by decide +kernel
theorem k321_397 : decode (gb 321) 397 = .ok (.invokevirtual 542, 3) := by decide +kernel
theorem k321_400 : decode (gb 321) 400 = .ok (.ireturn, 1) := by decide +kernel
theorem k321_401 : decode (gb 321) 401 = .ok (.iconst 0, 1) := by decide +kernel
theorem k321_402 : decode (gb 321) 402 = .ok (.ireturn, 1) := by decide +kernel
def c321_181 (v2 : Int32) (s0 : Int32) (μ : Mem) : Option (Mem × Int32) :=
  (f313 182 (11 : Int32) μ).bind fun r1 =>
  nm ((r1.2 + s0) - (1 : Int32)) fun x3 =>
  if x3 ≤ (1023 : Int32) then
    if v2 = (2 : Int32) then
      if x3 < (768 : Int32) then
        some (r1.1, (0 : Int32))
      else
        some (r1.1, (12 : Int32))
    else
      some (r1.1, (0 : Int32))
  else
    some (r1.1, (11 : Int32))
theorem c321_181_ok {L : Nat} (v2 : Int32) (s0 : Int32) (μ : Mem) (res : Mem × Int32) (h : c321_181 v2 s0 μ = some res) : Sx 321 181 [(0, .ref 129), (2, .int v2)] [.int s0] 0 0 (mk L μ) (mk L res.1, some (.int res.2)) := by
  unfold c321_181 at h
  refine cx_istore (lo2 := [(4, .int s0), (0, .ref 129), (2, .int v2)]) k321_181 (by rw [mx_321]; decide) rfl ?_
  refine sx_aload_n (i := 0) k321_183 rfl rfl ?_
  refine sx_aload_n (i := 0) k321_184 rfl rfl ?_
  refine cx_getR (k := 105) k321_185 ow_321 fl_12_513 (by decide) sk_129 ft_11_105 sr_129_105 ?_
  refine sx_bipush (v := 11) k321_188 (by decide) ?_
  obtain ⟨r1, e2, h⟩ := Option.bind_eq_some_iff.mp h
  refine cx_V (sk := []) (vs := [.ref 182, .int (11 : Int32)]) st_321_313 k321_190 ow_321 cl_12_472 (by decide) rfl (Nat.le_of_ble_eq_true rfl) sk_129 (ok313 182 (11 : Int32) sk_182 _ _ e2) (sk3 := [.int r1.2]) rfl rfl ?_
  refine sx_iload k321_193 rfl ?_
  refine sx_iadd k321_195 ?_
  refine sx_iconst (v := 1) k321_196 (by decide) ?_
  refine sx_isub k321_197 ?_
  refine cx_nm h (fun x3 h => ?_)
  refine cx_istore (lo2 := [(5, .int x3), (4, .int s0), (0, .ref 129), (2, .int v2)]) k321_198 (by rw [mx_321]; decide) rfl ?_
  refine sx_iload k321_200 rfl ?_
  refine sx_sipush (v := 1023) k321_202 (by decide) ?_
  by_cases hb4 : x3 ≤ (1023 : Int32)
  · rw [if_pos hb4] at h
    refine sx_icmp_le (tgt := 213) k321_205 (by decide) (fun _ => ?_) (fun q => absurd hb4 q)
    refine sx_iload_n (i := 2) k321_213 rfl rfl ?_
    refine sx_iconst (v := 2) k321_214 (by decide) ?_
    by_cases hb5 : v2 = (2 : Int32)
    · rw [if_pos hb5] at h
      refine sx_icmp_ne (tgt := 231) k321_215 (by decide) (fun q => absurd hb5 q) (fun _ => ?_)
      refine sx_iload k321_218 rfl ?_
      refine sx_sipush (v := 768) k321_220 (by decide) ?_
      by_cases hb6 : x3 < (768 : Int32)
      · rw [if_pos hb6] at h
        refine sx_icmp_lt (tgt := 231) k321_223 (by decide) (fun _ => ?_) (fun q => absurd hb6 q)
        refine sx_iconst (v := 0) k321_231 (by decide) ?_
        exact cx_reti k321_232 rt_321 h
      · rw [if_neg hb6] at h
        refine sx_icmp_lt (tgt := 231) k321_223 (by decide) (fun q => absurd q hb6) (fun _ => ?_)
        refine sx_bipush (v := 12) k321_226 (by decide) ?_
        refine sx_goto (tgt := 232) k321_228 (by decide) ?_
        exact cx_reti k321_232 rt_321 h
    · rw [if_neg hb5] at h
      refine sx_icmp_ne (tgt := 231) k321_215 (by decide) (fun _ => ?_) (fun q => absurd q hb5)
      refine sx_iconst (v := 0) k321_231 (by decide) ?_
      exact cx_reti k321_232 rt_321 h
  · rw [if_neg hb4] at h
    refine sx_icmp_le (tgt := 213) k321_205 (by decide) (fun q => absurd q hb4) (fun _ => ?_)
    refine sx_bipush (v := 11) k321_208 (by decide) ?_
    refine sx_goto (tgt := 232) k321_210 (by decide) ?_
    exact cx_reti k321_232 rt_321 h
def c321_276 (μ : Mem) : Option (Mem × Int32) :=
  some (μ, (13 : Int32))
theorem c321_276_ok {L : Nat} (μ : Mem) (res : Mem × Int32) (h : c321_276 μ = some res) : Sx 321 276 [] [] 0 0 (mk L μ) (mk L res.1, some (.int res.2)) := by
  unfold c321_276 at h
  refine sx_bipush (v := 13) k321_276 (by decide) ?_
  refine sx_goto (tgt := 282) k321_278 (by decide) ?_
  exact cx_reti k321_282 rt_321 h
def c321_311 (μ : Mem) : Option (Mem × Int32) :=
  some (μ, (13 : Int32))
theorem c321_311_ok {L : Nat} (μ : Mem) (res : Mem × Int32) (h : c321_311 μ = some res) : Sx 321 311 [] [] 0 0 (mk L μ) (mk L res.1, some (.int res.2)) := by
  unfold c321_311 at h
  refine sx_bipush (v := 13) k321_311 (by decide) ?_
  refine sx_goto (tgt := 317) k321_313 (by decide) ?_
  exact cx_reti k321_317 rt_321 h
def c321_377 (s0 : Int32) (s1 : Int32) (μ : Mem) : Option (Mem × Int32) :=
  if s0 = s1 then
    some (μ, (19 : Int32))
  else
    some (μ, (0 : Int32))
theorem c321_377_ok {L : Nat} (s0 : Int32) (s1 : Int32) (μ : Mem) (res : Mem × Int32) (h : c321_377 s0 s1 μ = some res) : Sx 321 377 [] [.int s1, .int s0] 0 0 (mk L μ) (mk L res.1, some (.int res.2)) := by
  unfold c321_377 at h
  by_cases hb1 : s0 = s1
  · rw [if_pos hb1] at h
    refine sx_icmp_ne (tgt := 385) k321_377 (by decide) (fun q => absurd hb1 q) (fun _ => ?_)
    refine sx_bipush (v := 19) k321_380 (by decide) ?_
    refine sx_goto (tgt := 386) k321_382 (by decide) ?_
    exact cx_reti k321_386 rt_321 h
  · rw [if_neg hb1] at h
    refine sx_icmp_ne (tgt := 385) k321_377 (by decide) (fun _ => ?_) (fun q => absurd q hb1)
    refine sx_iconst (v := 0) k321_385 (by decide) ?_
    exact cx_reti k321_386 rt_321 h
def c321_20 (v1 : Int32) (v2 : Int32) (s0 : Int32) (μ : Mem) : Option (Mem × Int32) :=
  if v1 = (3 : Int32) then
    if v2 = (1 : Int32) then
      (ldA 182 (14 : Int32) μ).bind fun x10 =>
      (f320 (15 : Int32) x10 (1 : Int32) (23 : Int32) μ).bind fun r12 =>
      if r12.2 = 0 then
        some (r12.1, (10 : Int32))
      else
        if (5 : Int32) < s0 then
          c321_276 r12.1
        else
          (ldA 183 s0 r12.1).bind fun x16 =>
          if x16 = 0 then
            some (r12.1, (0 : Int32))
          else
            c321_276 r12.1
    else
      if (5 : Int32) < s0 then
        c321_311 μ
      else
        (ldA 183 s0 μ).bind fun x3 =>
        if x3 = 0 then
          c321_311 μ
        else
          if v2 = (3 : Int32) then
            (ldA 184 s0 μ).bind fun x7 =>
            if x7 = 0 then
              some (μ, (0 : Int32))
            else
              c321_311 μ
          else
            some (μ, (0 : Int32))
  else if v1 = (4 : Int32) then
    some (μ, (0 : Int32))
  else if v1 = (5 : Int32) then
    if s0 ≤ (31 : Int32) then
      some (μ, (0 : Int32))
    else
      some (μ, (14 : Int32))
  else if v1 = (6 : Int32) then
    if v2 = (9 : Int32) then
      (f313 182 (13 : Int32) μ).bind fun r26 =>
      c321_181 v2 r26.2 r26.1
    else
      (ldA 182 (13 : Int32) μ).bind fun x24 =>
      c321_181 v2 x24 μ
  else if v1 = (7 : Int32) then
    some (μ, (0 : Int32))
  else if v1 = (8 : Int32) then
    if s0 ≤ (3 : Int32) then
      some (μ, (0 : Int32))
    else
      some (μ, (15 : Int32))
  else if v1 = (9 : Int32) then
    some (μ, (0 : Int32))
  else if v1 = (10 : Int32) then
    some (μ, (0 : Int32))
  else if v1 = (11 : Int32) then
    (f323 v2 s0 μ).bind fun r34 =>
    some (r34.1, r34.2)
  else if v1 = (12 : Int32) then
    (f322 v2 s0 μ).bind fun r37 =>
    some (r37.1, r37.2)
  else if v1 = (13 : Int32) then
    some (μ, (0 : Int32))
  else if v1 = (14 : Int32) then
    some (μ, (0 : Int32))
  else if v1 = (15 : Int32) then
    (f324 v2 s0 μ).bind fun r42 =>
    some (r42.1, r42.2)
  else if v1 = (16 : Int32) then
    some (μ, (0 : Int32))
  else if v1 = (17 : Int32) then
    some (μ, (0 : Int32))
  else if v1 = (18 : Int32) then
    some (μ, (0 : Int32))
  else if v1 = (19 : Int32) then
    if s0 ≤ (31 : Int32) then
      (ldA 191 s0 μ).bind fun x49 =>
      if v2 = (1 : Int32) then
        c321_377 x49 (1 : Int32) μ
      else
        c321_377 x49 (0 : Int32) μ
    else
      some (μ, (14 : Int32))
  else if v1 = (20 : Int32) then
    if v2 = (1 : Int32) then
      (f320 (12 : Int32) s0 (1 : Int32) (23 : Int32) μ).bind fun r57 =>
      if r57.2 = 0 then
        some (r57.1, (10 : Int32))
      else
        some (r57.1, (0 : Int32))
    else
      (f320 (12 : Int32) s0 (5 : Int32) (15 : Int32) μ).bind fun r54 =>
      if r54.2 = 0 then
        some (r54.1, (10 : Int32))
      else
        some (r54.1, (0 : Int32))
  else 
    some (μ, (0 : Int32))
theorem c321_20_ok {L : Nat} (v1 : Int32) (v2 : Int32) (s0 : Int32) (μ : Mem) (res : Mem × Int32) (h : c321_20 v1 v2 s0 μ = some res) : Sx 321 20 [(0, .ref 129), (1, .int v1), (2, .int v2)] [.int s0] 0 0 (mk L μ) (mk L res.1, some (.int res.2)) := by
  unfold c321_20 at h
  refine cx_istore_n (lo2 := [(3, .int s0), (0, .ref 129), (1, .int v1), (2, .int v2)]) k321_20 rfl (by rw [mx_321]; decide) rfl ?_
  refine sx_iload_n (i := 1) k321_21 rfl rfl ?_
  by_cases hb19 : v1 = (3 : Int32)
  · rw [if_pos hb19] at h
    refine sx_tableIn (off := 211) (tgt := 233) k321_22 (by rw [hb19]; decide) (by rw [hb19]; decide) (by rw [hb19]; rfl) (by decide) ?_
    refine sx_iload_n (i := 2) k321_233 rfl rfl ?_
    refine sx_iconst (v := 1) k321_234 (by decide) ?_
    by_cases hb1 : v2 = (1 : Int32)
    · rw [if_pos hb1] at h
      refine sx_icmp_ne (tgt := 283) k321_235 (by decide) (fun q => absurd hb1 q) (fun _ => ?_)
      refine sx_aload_n (i := 0) k321_238 rfl rfl ?_
      refine sx_bipush (v := 15) k321_239 (by decide) ?_
      refine sx_aload_n (i := 0) k321_241 rfl rfl ?_
      refine cx_getR (k := 105) k321_242 ow_321 fl_12_513 (by decide) sk_129 ft_11_105 sr_129_105 ?_
      refine sx_bipush (v := 14) k321_245 (by decide) ?_
      obtain ⟨x10, e11, h⟩ := Option.bind_eq_some_iff.mp h
      refine cx_iald k321_247 sk_182 e11 ?_
      refine sx_iconst (v := 1) k321_248 (by decide) ?_
      refine sx_bipush (v := 23) k321_249 (by decide) ?_
      obtain ⟨r12, e13, h⟩ := Option.bind_eq_some_iff.mp h
      refine cx_V (sk := []) (vs := [.int (15 : Int32), .int x10, .int (1 : Int32), .int (23 : Int32)]) st_321_320 k321_251 ow_321 cl_12_523 (by decide) rfl (Nat.le_of_ble_eq_true rfl) sk_129 (ok320 (15 : Int32) x10 (1 : Int32) (23 : Int32) _ _ e13) (sk3 := [.int r12.2]) rfl rfl ?_
      by_cases hb14 : r12.2 = 0
      · rw [if_pos hb14] at h
        refine sx_if_ne (tgt := 262) k321_254 (by decide) (fun q => absurd hb14 q) (fun _ => ?_)
        refine sx_bipush (v := 10) k321_257 (by decide) ?_
        refine sx_goto (tgt := 282) k321_259 (by decide) ?_
        exact cx_reti k321_282 rt_321 h
      · rw [if_neg hb14] at h
        refine sx_if_ne (tgt := 262) k321_254 (by decide) (fun _ => ?_) (fun q => absurd q hb14)
        refine sx_iload_n (i := 3) k321_262 rfl rfl ?_
        refine sx_iconst (v := 5) k321_263 (by decide) ?_
        by_cases hb15 : (5 : Int32) < s0
        · rw [if_pos hb15] at h
          refine sx_icmp_gt (tgt := 276) k321_264 (by decide) (fun _ => ?_) (fun q => absurd hb15 q)
          refine sx_pick (lo2 := []) [] rfl ?_
          exact c321_276_ok _ _ h
        · rw [if_neg hb15] at h
          refine sx_icmp_gt (tgt := 276) k321_264 (by decide) (fun q => absurd q hb15) (fun _ => ?_)
          refine sx_aload_n (i := 0) k321_267 rfl rfl ?_
          refine cx_getR (k := 108) k321_268 ow_321 fl_12_527 (by decide) sk_129 ft_11_108 sr_129_108 ?_
          refine sx_iload_n (i := 3) k321_271 rfl rfl ?_
          obtain ⟨x16, e17, h⟩ := Option.bind_eq_some_iff.mp h
          refine cx_bald k321_272 (Or.inr sk_183) e17 ?_
          by_cases hb18 : x16 = 0
          · rw [if_pos hb18] at h
            refine sx_if_eq (tgt := 281) k321_273 (by decide) (fun _ => ?_) (fun q => absurd hb18 q)
            refine sx_iconst (v := 0) k321_281 (by decide) ?_
            exact cx_reti k321_282 rt_321 h
          · rw [if_neg hb18] at h
            refine sx_if_eq (tgt := 281) k321_273 (by decide) (fun q => absurd q hb18) (fun _ => ?_)
            refine sx_pick (lo2 := []) [] rfl ?_
            exact c321_276_ok _ _ h
    · rw [if_neg hb1] at h
      refine sx_icmp_ne (tgt := 283) k321_235 (by decide) (fun _ => ?_) (fun q => absurd q hb1)
      refine sx_iload_n (i := 3) k321_283 rfl rfl ?_
      refine sx_iconst (v := 5) k321_284 (by decide) ?_
      by_cases hb2 : (5 : Int32) < s0
      · rw [if_pos hb2] at h
        refine sx_icmp_gt (tgt := 311) k321_285 (by decide) (fun _ => ?_) (fun q => absurd hb2 q)
        refine sx_pick (lo2 := []) [] rfl ?_
        exact c321_311_ok _ _ h
      · rw [if_neg hb2] at h
        refine sx_icmp_gt (tgt := 311) k321_285 (by decide) (fun q => absurd q hb2) (fun _ => ?_)
        refine sx_aload_n (i := 0) k321_288 rfl rfl ?_
        refine cx_getR (k := 108) k321_289 ow_321 fl_12_527 (by decide) sk_129 ft_11_108 sr_129_108 ?_
        refine sx_iload_n (i := 3) k321_292 rfl rfl ?_
        obtain ⟨x3, e4, h⟩ := Option.bind_eq_some_iff.mp h
        refine cx_bald k321_293 (Or.inr sk_183) e4 ?_
        by_cases hb5 : x3 = 0
        · rw [if_pos hb5] at h
          refine sx_if_eq (tgt := 311) k321_294 (by decide) (fun _ => ?_) (fun q => absurd hb5 q)
          refine sx_pick (lo2 := []) [] rfl ?_
          exact c321_311_ok _ _ h
        · rw [if_neg hb5] at h
          refine sx_if_eq (tgt := 311) k321_294 (by decide) (fun q => absurd q hb5) (fun _ => ?_)
          refine sx_iload_n (i := 2) k321_297 rfl rfl ?_
          refine sx_iconst (v := 3) k321_298 (by decide) ?_
          by_cases hb6 : v2 = (3 : Int32)
          · rw [if_pos hb6] at h
            refine sx_icmp_ne (tgt := 316) k321_299 (by decide) (fun q => absurd hb6 q) (fun _ => ?_)
            refine sx_aload_n (i := 0) k321_302 rfl rfl ?_
            refine cx_getR (k := 109) k321_303 ow_321 fl_12_530 (by decide) sk_129 ft_11_109 sr_129_109 ?_
            refine sx_iload_n (i := 3) k321_306 rfl rfl ?_
            obtain ⟨x7, e8, h⟩ := Option.bind_eq_some_iff.mp h
            refine cx_bald k321_307 (Or.inr sk_184) e8 ?_
            by_cases hb9 : x7 = 0
            · rw [if_pos hb9] at h
              refine sx_if_eq (tgt := 316) k321_308 (by decide) (fun _ => ?_) (fun q => absurd hb9 q)
              refine sx_iconst (v := 0) k321_316 (by decide) ?_
              exact cx_reti k321_317 rt_321 h
            · rw [if_neg hb9] at h
              refine sx_if_eq (tgt := 316) k321_308 (by decide) (fun q => absurd q hb9) (fun _ => ?_)
              refine sx_pick (lo2 := []) [] rfl ?_
              exact c321_311_ok _ _ h
          · rw [if_neg hb6] at h
            refine sx_icmp_ne (tgt := 316) k321_299 (by decide) (fun _ => ?_) (fun q => absurd q hb6)
            refine sx_iconst (v := 0) k321_316 (by decide) ?_
            exact cx_reti k321_317 rt_321 h
  · rw [if_neg hb19] at h
    by_cases hb20 : v1 = (4 : Int32)
    · rw [if_pos hb20] at h
      refine sx_tableIn (off := 379) (tgt := 401) k321_22 (by rw [hb20]; decide) (by rw [hb20]; decide) (by rw [hb20]; rfl) (by decide) ?_
      refine sx_iconst (v := 0) k321_401 (by decide) ?_
      exact cx_reti k321_402 rt_321 h
    · rw [if_neg hb20] at h
      by_cases hb22 : v1 = (5 : Int32)
      · rw [if_pos hb22] at h
        refine sx_tableIn (off := 296) (tgt := 318) k321_22 (by rw [hb22]; decide) (by rw [hb22]; decide) (by rw [hb22]; rfl) (by decide) ?_
        refine sx_iload_n (i := 3) k321_318 rfl rfl ?_
        refine sx_bipush (v := 31) k321_319 (by decide) ?_
        by_cases hb21 : s0 ≤ (31 : Int32)
        · rw [if_pos hb21] at h
          refine sx_icmp_le (tgt := 329) k321_321 (by decide) (fun _ => ?_) (fun q => absurd hb21 q)
          refine sx_iconst (v := 0) k321_329 (by decide) ?_
          exact cx_reti k321_330 rt_321 h
        · rw [if_neg hb21] at h
          refine sx_icmp_le (tgt := 329) k321_321 (by decide) (fun q => absurd q hb21) (fun _ => ?_)
          refine sx_bipush (v := 14) k321_324 (by decide) ?_
          refine sx_goto (tgt := 330) k321_326 (by decide) ?_
          exact cx_reti k321_330 rt_321 h
      · rw [if_neg hb22] at h
        by_cases hb28 : v1 = (6 : Int32)
        · rw [if_pos hb28] at h
          refine sx_tableIn (off := 133) (tgt := 155) k321_22 (by rw [hb28]; decide) (by rw [hb28]; decide) (by rw [hb28]; rfl) (by decide) ?_
          refine sx_iload_n (i := 2) k321_155 rfl rfl ?_
          refine sx_bipush (v := 9) k321_156 (by decide) ?_
          by_cases hb23 : v2 = (9 : Int32)
          · rw [if_pos hb23] at h
            refine sx_icmp_ne (tgt := 174) k321_158 (by decide) (fun q => absurd hb23 q) (fun _ => ?_)
            refine sx_aload_n (i := 0) k321_161 rfl rfl ?_
            refine sx_aload_n (i := 0) k321_162 rfl rfl ?_
            refine cx_getR (k := 105) k321_163 ow_321 fl_12_513 (by decide) sk_129 ft_11_105 sr_129_105 ?_
            refine sx_bipush (v := 13) k321_166 (by decide) ?_
            obtain ⟨r26, e27, h⟩ := Option.bind_eq_some_iff.mp h
            refine cx_V (sk := []) (vs := [.ref 182, .int (13 : Int32)]) st_321_313 k321_168 ow_321 cl_12_472 (by decide) rfl (Nat.le_of_ble_eq_true rfl) sk_129 (ok313 182 (13 : Int32) sk_182 _ _ e27) (sk3 := [.int r26.2]) rfl rfl ?_
            refine sx_goto (tgt := 181) k321_171 (by decide) ?_
            refine sx_pick (lo2 := [(0, .ref 129), (2, .int v2)]) [1, 3] rfl ?_
            exact c321_181_ok v2 r26.2 _ _ h
          · rw [if_neg hb23] at h
            refine sx_icmp_ne (tgt := 174) k321_158 (by decide) (fun _ => ?_) (fun q => absurd q hb23)
            refine sx_aload_n (i := 0) k321_174 rfl rfl ?_
            refine cx_getR (k := 105) k321_175 ow_321 fl_12_513 (by decide) sk_129 ft_11_105 sr_129_105 ?_
            refine sx_bipush (v := 13) k321_178 (by decide) ?_
            obtain ⟨x24, e25, h⟩ := Option.bind_eq_some_iff.mp h
            refine cx_iald k321_180 sk_182 e25 ?_
            refine sx_pick (lo2 := [(0, .ref 129), (2, .int v2)]) [1, 3] rfl ?_
            exact c321_181_ok v2 x24 _ _ h
        · rw [if_neg hb28] at h
          by_cases hb29 : v1 = (7 : Int32)
          · rw [if_pos hb29] at h
            refine sx_tableIn (off := 379) (tgt := 401) k321_22 (by rw [hb29]; decide) (by rw [hb29]; decide) (by rw [hb29]; rfl) (by decide) ?_
            refine sx_iconst (v := 0) k321_401 (by decide) ?_
            exact cx_reti k321_402 rt_321 h
          · rw [if_neg hb29] at h
            by_cases hb31 : v1 = (8 : Int32)
            · rw [if_pos hb31] at h
              refine sx_tableIn (off := 309) (tgt := 331) k321_22 (by rw [hb31]; decide) (by rw [hb31]; decide) (by rw [hb31]; rfl) (by decide) ?_
              refine sx_iload_n (i := 3) k321_331 rfl rfl ?_
              refine sx_iconst (v := 3) k321_332 (by decide) ?_
              by_cases hb30 : s0 ≤ (3 : Int32)
              · rw [if_pos hb30] at h
                refine sx_icmp_le (tgt := 341) k321_333 (by decide) (fun _ => ?_) (fun q => absurd hb30 q)
                refine sx_iconst (v := 0) k321_341 (by decide) ?_
                exact cx_reti k321_342 rt_321 h
              · rw [if_neg hb30] at h
                refine sx_icmp_le (tgt := 341) k321_333 (by decide) (fun q => absurd q hb30) (fun _ => ?_)
                refine sx_bipush (v := 15) k321_336 (by decide) ?_
                refine sx_goto (tgt := 342) k321_338 (by decide) ?_
                exact cx_reti k321_342 rt_321 h
            · rw [if_neg hb31] at h
              by_cases hb32 : v1 = (9 : Int32)
              · rw [if_pos hb32] at h
                refine sx_tableIn (off := 379) (tgt := 401) k321_22 (by rw [hb32]; decide) (by rw [hb32]; decide) (by rw [hb32]; rfl) (by decide) ?_
                refine sx_iconst (v := 0) k321_401 (by decide) ?_
                exact cx_reti k321_402 rt_321 h
              · rw [if_neg hb32] at h
                by_cases hb33 : v1 = (10 : Int32)
                · rw [if_pos hb33] at h
                  refine sx_tableIn (off := 379) (tgt := 401) k321_22 (by rw [hb33]; decide) (by rw [hb33]; decide) (by rw [hb33]; rfl) (by decide) ?_
                  refine sx_iconst (v := 0) k321_401 (by decide) ?_
                  exact cx_reti k321_402 rt_321 h
                · rw [if_neg hb33] at h
                  by_cases hb36 : v1 = (11 : Int32)
                  · rw [if_pos hb36] at h
                    refine sx_tableIn (off := 365) (tgt := 387) k321_22 (by rw [hb36]; decide) (by rw [hb36]; decide) (by rw [hb36]; rfl) (by decide) ?_
                    refine sx_aload_n (i := 0) k321_387 rfl rfl ?_
                    refine sx_iload_n (i := 2) k321_388 rfl rfl ?_
                    refine sx_iload_n (i := 3) k321_389 rfl rfl ?_
                    obtain ⟨r34, e35, h⟩ := Option.bind_eq_some_iff.mp h
                    refine cx_V (sk := []) (vs := [.int v2, .int s0]) st_321_323 k321_390 ow_321 cl_12_539 (by decide) rfl (Nat.le_of_ble_eq_true rfl) sk_129 (ok323 v2 s0 _ _ e35) (sk3 := [.int r34.2]) rfl rfl ?_
                    exact cx_reti k321_393 rt_321 h
                  · rw [if_neg hb36] at h
                    by_cases hb39 : v1 = (12 : Int32)
                    · rw [if_pos hb39] at h
                      refine sx_tableIn (off := 321) (tgt := 343) k321_22 (by rw [hb39]; decide) (by rw [hb39]; decide) (by rw [hb39]; rfl) (by decide) ?_
                      refine sx_aload_n (i := 0) k321_343 rfl rfl ?_
                      refine sx_iload_n (i := 2) k321_344 rfl rfl ?_
                      refine sx_iload_n (i := 3) k321_345 rfl rfl ?_
                      obtain ⟨r37, e38, h⟩ := Option.bind_eq_some_iff.mp h
                      refine cx_V (sk := []) (vs := [.int v2, .int s0]) st_321_322 k321_346 ow_321 cl_12_533 (by decide) rfl (Nat.le_of_ble_eq_true rfl) sk_129 (ok322 v2 s0 _ _ e38) (sk3 := [.int r37.2]) rfl rfl ?_
                      exact cx_reti k321_349 rt_321 h
                    · rw [if_neg hb39] at h
                      by_cases hb40 : v1 = (13 : Int32)
                      · rw [if_pos hb40] at h
                        refine sx_tableIn (off := 379) (tgt := 401) k321_22 (by rw [hb40]; decide) (by rw [hb40]; decide) (by rw [hb40]; rfl) (by decide) ?_
                        refine sx_iconst (v := 0) k321_401 (by decide) ?_
                        exact cx_reti k321_402 rt_321 h
                      · rw [if_neg hb40] at h
                        by_cases hb41 : v1 = (14 : Int32)
                        · rw [if_pos hb41] at h
                          refine sx_tableIn (off := 379) (tgt := 401) k321_22 (by rw [hb41]; decide) (by rw [hb41]; decide) (by rw [hb41]; rfl) (by decide) ?_
                          refine sx_iconst (v := 0) k321_401 (by decide) ?_
                          exact cx_reti k321_402 rt_321 h
                        · rw [if_neg hb41] at h
                          by_cases hb44 : v1 = (15 : Int32)
                          · rw [if_pos hb44] at h
                            refine sx_tableIn (off := 372) (tgt := 394) k321_22 (by rw [hb44]; decide) (by rw [hb44]; decide) (by rw [hb44]; rfl) (by decide) ?_
                            refine sx_aload_n (i := 0) k321_394 rfl rfl ?_
                            refine sx_iload_n (i := 2) k321_395 rfl rfl ?_
                            refine sx_iload_n (i := 3) k321_396 rfl rfl ?_
                            obtain ⟨r42, e43, h⟩ := Option.bind_eq_some_iff.mp h
                            refine cx_V (sk := []) (vs := [.int v2, .int s0]) st_321_324 k321_397 ow_321 cl_12_542 (by decide) rfl (Nat.le_of_ble_eq_true rfl) sk_129 (ok324 v2 s0 _ _ e43) (sk3 := [.int r42.2]) rfl rfl ?_
                            exact cx_reti k321_400 rt_321 h
                          · rw [if_neg hb44] at h
                            by_cases hb45 : v1 = (16 : Int32)
                            · rw [if_pos hb45] at h
                              refine sx_tableIn (off := 379) (tgt := 401) k321_22 (by rw [hb45]; decide) (by rw [hb45]; decide) (by rw [hb45]; rfl) (by decide) ?_
                              refine sx_iconst (v := 0) k321_401 (by decide) ?_
                              exact cx_reti k321_402 rt_321 h
                            · rw [if_neg hb45] at h
                              by_cases hb46 : v1 = (17 : Int32)
                              · rw [if_pos hb46] at h
                                refine sx_tableIn (off := 379) (tgt := 401) k321_22 (by rw [hb46]; decide) (by rw [hb46]; decide) (by rw [hb46]; rfl) (by decide) ?_
                                refine sx_iconst (v := 0) k321_401 (by decide) ?_
                                exact cx_reti k321_402 rt_321 h
                              · rw [if_neg hb46] at h
                                by_cases hb47 : v1 = (18 : Int32)
                                · rw [if_pos hb47] at h
                                  refine sx_tableIn (off := 379) (tgt := 401) k321_22 (by rw [hb47]; decide) (by rw [hb47]; decide) (by rw [hb47]; rfl) (by decide) ?_
                                  refine sx_iconst (v := 0) k321_401 (by decide) ?_
                                  exact cx_reti k321_402 rt_321 h
                                · rw [if_neg hb47] at h
                                  by_cases hb52 : v1 = (19 : Int32)
                                  · rw [if_pos hb52] at h
                                    refine sx_tableIn (off := 328) (tgt := 350) k321_22 (by rw [hb52]; decide) (by rw [hb52]; decide) (by rw [hb52]; rfl) (by decide) ?_
                                    refine sx_iload_n (i := 3) k321_350 rfl rfl ?_
                                    refine sx_bipush (v := 31) k321_351 (by decide) ?_
                                    by_cases hb48 : s0 ≤ (31 : Int32)
                                    · rw [if_pos hb48] at h
                                      refine sx_icmp_le (tgt := 361) k321_353 (by decide) (fun _ => ?_) (fun q => absurd hb48 q)
                                      refine sx_aload_n (i := 0) k321_361 rfl rfl ?_
                                      refine cx_getR (k := 116) k321_362 ow_321 fl_12_536 (by decide) sk_129 ft_11_116 sr_129_116 ?_
                                      refine sx_iload_n (i := 3) k321_365 rfl rfl ?_
                                      obtain ⟨x49, e50, h⟩ := Option.bind_eq_some_iff.mp h
                                      refine cx_bald k321_366 (Or.inr sk_191) e50 ?_
                                      refine sx_iload_n (i := 2) k321_367 rfl rfl ?_
                                      refine sx_iconst (v := 1) k321_368 (by decide) ?_
                                      by_cases hb51 : v2 = (1 : Int32)
                                      · rw [if_pos hb51] at h
                                        refine sx_icmp_ne (tgt := 376) k321_369 (by decide) (fun q => absurd hb51 q) (fun _ => ?_)
                                        refine sx_iconst (v := 1) k321_372 (by decide) ?_
                                        refine sx_goto (tgt := 377) k321_373 (by decide) ?_
                                        refine sx_pick (lo2 := []) [] rfl ?_
                                        exact c321_377_ok x49 (1 : Int32) _ _ h
                                      · rw [if_neg hb51] at h
                                        refine sx_icmp_ne (tgt := 376) k321_369 (by decide) (fun _ => ?_) (fun q => absurd q hb51)
                                        refine sx_iconst (v := 0) k321_376 (by decide) ?_
                                        refine sx_pick (lo2 := []) [] rfl ?_
                                        exact c321_377_ok x49 (0 : Int32) _ _ h
                                    · rw [if_neg hb48] at h
                                      refine sx_icmp_le (tgt := 361) k321_353 (by decide) (fun q => absurd q hb48) (fun _ => ?_)
                                      refine sx_bipush (v := 14) k321_356 (by decide) ?_
                                      refine sx_goto (tgt := 386) k321_358 (by decide) ?_
                                      exact cx_reti k321_386 rt_321 h
                                  · rw [if_neg hb52] at h
                                    by_cases hb60 : v1 = (20 : Int32)
                                    · rw [if_pos hb60] at h
                                      refine sx_tableIn (off := 86) (tgt := 108) k321_22 (by rw [hb60]; decide) (by rw [hb60]; decide) (by rw [hb60]; rfl) (by decide) ?_
                                      refine sx_iload_n (i := 2) k321_108 rfl rfl ?_
                                      refine sx_iconst (v := 1) k321_109 (by decide) ?_
                                      by_cases hb53 : v2 = (1 : Int32)
                                      · rw [if_pos hb53] at h
                                        refine sx_icmp_ne (tgt := 135) k321_110 (by decide) (fun q => absurd hb53 q) (fun _ => ?_)
                                        refine sx_aload_n (i := 0) k321_113 rfl rfl ?_
                                        refine sx_bipush (v := 12) k321_114 (by decide) ?_
                                        refine sx_iload_n (i := 3) k321_116 rfl rfl ?_
                                        refine sx_iconst (v := 1) k321_117 (by decide) ?_
                                        refine sx_bipush (v := 23) k321_118 (by decide) ?_
                                        obtain ⟨r57, e58, h⟩ := Option.bind_eq_some_iff.mp h
                                        refine cx_V (sk := []) (vs := [.int (12 : Int32), .int s0, .int (1 : Int32), .int (23 : Int32)]) st_321_320 k321_120 ow_321 cl_12_523 (by decide) rfl (Nat.le_of_ble_eq_true rfl) sk_129 (ok320 (12 : Int32) s0 (1 : Int32) (23 : Int32) _ _ e58) (sk3 := [.int r57.2]) rfl rfl ?_
                                        by_cases hb59 : r57.2 = 0
                                        · rw [if_pos hb59] at h
                                          refine sx_if_eq (tgt := 130) k321_123 (by decide) (fun _ => ?_) (fun q => absurd hb59 q)
                                          refine sx_bipush (v := 10) k321_130 (by decide) ?_
                                          refine sx_goto (tgt := 154) k321_132 (by decide) ?_
                                          exact cx_reti k321_154 rt_321 h
                                        · rw [if_neg hb59] at h
                                          refine sx_if_eq (tgt := 130) k321_123 (by decide) (fun q => absurd q hb59) (fun _ => ?_)
                                          refine sx_iconst (v := 0) k321_126 (by decide) ?_
                                          refine sx_goto (tgt := 154) k321_127 (by decide) ?_
                                          exact cx_reti k321_154 rt_321 h
                                      · rw [if_neg hb53] at h
                                        refine sx_icmp_ne (tgt := 135) k321_110 (by decide) (fun _ => ?_) (fun q => absurd q hb53)
                                        refine sx_aload_n (i := 0) k321_135 rfl rfl ?_
                                        refine sx_bipush (v := 12) k321_136 (by decide) ?_
                                        refine sx_iload_n (i := 3) k321_138 rfl rfl ?_
                                        refine sx_iconst (v := 5) k321_139 (by decide) ?_
                                        refine sx_bipush (v := 15) k321_140 (by decide) ?_
                                        obtain ⟨r54, e55, h⟩ := Option.bind_eq_some_iff.mp h
                                        refine cx_V (sk := []) (vs := [.int (12 : Int32), .int s0, .int (5 : Int32), .int (15 : Int32)]) st_321_320 k321_142 ow_321 cl_12_523 (by decide) rfl (Nat.le_of_ble_eq_true rfl) sk_129 (ok320 (12 : Int32) s0 (5 : Int32) (15 : Int32) _ _ e55) (sk3 := [.int r54.2]) rfl rfl ?_
                                        by_cases hb56 : r54.2 = 0
                                        · rw [if_pos hb56] at h
                                          refine sx_if_eq (tgt := 152) k321_145 (by decide) (fun _ => ?_) (fun q => absurd hb56 q)
                                          refine sx_bipush (v := 10) k321_152 (by decide) ?_
                                          exact cx_reti k321_154 rt_321 h
                                        · rw [if_neg hb56] at h
                                          refine sx_if_eq (tgt := 152) k321_145 (by decide) (fun q => absurd q hb56) (fun _ => ?_)
                                          refine sx_iconst (v := 0) k321_148 (by decide) ?_
                                          refine sx_goto (tgt := 154) k321_149 (by decide) ?_
                                          exact cx_reti k321_154 rt_321 h
                                    · rw [if_neg hb60] at h
                                      refine sx_tableOut (tgt := 401) k321_22 (sw_out (n := 18) (fun j hj => ?_)) (by decide) ?_
                                      · intro hj2
                                        exact sw_no [(3 : Int32), (4 : Int32), (5 : Int32), (6 : Int32), (7 : Int32), (8 : Int32), (9 : Int32), (10 : Int32), (11 : Int32), (12 : Int32), (13 : Int32), (14 : Int32), (15 : Int32), (16 : Int32), (17 : Int32), (18 : Int32), (19 : Int32), (20 : Int32)] (by decide) hj hj2 ⟨hb19, hb20, hb22, hb28, hb29, hb31, hb32, hb33, hb36, hb39, hb40, hb41, hb44, hb45, hb46, hb47, hb52, hb60, trivial⟩
                                      ·
                                        refine sx_iconst (v := 0) k321_401 (by decide) ?_
                                        exact cx_reti k321_402 rt_321 h
/-- CraftHouseModel.ahead(II)I -/
def f321 (p1 : Int32) (p2 : Int32) (μ : Mem) : Option (Mem × Int32) :=
  if (μ.1 129 106) ≤ (13 : Int32) then
    c321_20 p1 p2 (0 : Int32) μ
  else
    (ldA 182 (11 : Int32) μ).bind fun x2 =>
    c321_20 p1 p2 x2 μ
theorem ok321 {L : Nat} (p1 : Int32) (p2 : Int32) (μ : Mem) (res : Mem × Int32) (h : f321 p1 p2 μ = some res) : Mx 321 [.ref 129, .int p1, .int p2] (mk L μ) (mk L res.1, some (.int res.2)) := by
  refine Mx_of ml_321 (by rw [mx_321]; exact Nat.le_of_ble_eq_true rfl) ?_
  show Sx 321 0 [(0, .ref 129), (1, .int p1), (2, .int p2)] [] 0 0 (mk L μ) _
  unfold f321 at h
  refine sx_aload_n (i := 0) k321_0 rfl rfl ?_
  refine cx_getI (k := 106) k321_1 ow_321 fl_12_507 (by decide) sk_129 ft_11_106 ?_
  refine sx_bipush (v := 13) k321_4 (by decide) ?_
  by_cases hb1 : (μ.1 129 106) ≤ (13 : Int32)
  · rw [if_pos hb1] at h
    refine sx_icmp_le (tgt := 19) k321_6 (by decide) (fun _ => ?_) (fun q => absurd hb1 q)
    refine sx_iconst (v := 0) k321_19 (by decide) ?_
    refine sx_pick (lo2 := [(0, .ref 129), (1, .int p1), (2, .int p2)]) [0, 1, 2] rfl ?_
    exact c321_20_ok p1 p2 (0 : Int32) _ _ h
  · rw [if_neg hb1] at h
    refine sx_icmp_le (tgt := 19) k321_6 (by decide) (fun q => absurd q hb1) (fun _ => ?_)
    refine sx_aload_n (i := 0) k321_9 rfl rfl ?_
    refine cx_getR (k := 105) k321_10 ow_321 fl_12_513 (by decide) sk_129 ft_11_105 sr_129_105 ?_
    refine sx_bipush (v := 11) k321_13 (by decide) ?_
    obtain ⟨x2, e3, h⟩ := Option.bind_eq_some_iff.mp h
    refine cx_iald k321_15 sk_182 e3 ?_
    refine sx_goto (tgt := 20) k321_16 (by decide) ?_
    refine sx_pick (lo2 := [(0, .ref 129), (1, .int p1), (2, .int p2)]) [0, 1, 2] rfl ?_
    exact c321_20_ok p1 p2 x2 _ _ h
