theorem k277_0 : decode (gb 277) 0 = .ok (.iload_n 1, 1) := by decide +kernel
theorem k277_1 : decode (gb 277) 1 = .ok (.aload_n 0, 1) := by decide +kernel
theorem k277_2 : decode (gb 277) 2 = .ok (.getfield 204, 3) := by decide +kernel
theorem k277_5 : decode (gb 277) 5 = .ok (.isub, 1) := by decide +kernel
theorem k277_6 : decode (gb 277) 6 = .ok (.sipush 255, 3) := by decide +kernel
theorem k277_9 : decode (gb 277) 9 = .ok (.iand, 1) := by decide +kernel
theorem k277_10 : decode (gb 277) 10 = .ok (.istore_n 2, 1) := by decide +kernel
theorem k277_11 : decode (gb 277) 11 = .ok (.iconst 0, 1) := by decide +kernel
theorem k277_12 : decode (gb 277) 12 = .ok (.istore_n 3, 1) := by decide +kernel
theorem k277_13 : decode (gb 277) 13 = .ok (.iload_n 3, 1) := by decide +kernel
theorem k277_14 : decode (gb 277) 14 = .ok (.iload_n 2, 1) := by decide +kernel
theorem k277_15 : decode (gb 277) 15 = .ok (.if_icmp .ge 34, 3) := by decide +kernel
theorem k277_18 : decode (gb 277) 18 = .ok (.aload_n 0, 1) := by decide +kernel
theorem k277_19 : decode (gb 277) 19 = .ok (.aload_n 0, 1) := by decide +kernel
theorem k277_20 : decode (gb 277) 20 = .ok (.getfield 238, 3) := by decide +kernel
theorem k277_23 : decode (gb 277) 23 = .ok (.iload_n 3, 1) := by decide +kernel
theorem k277_24 : decode (gb 277) 24 = .ok (.iaload, 1) := by decide +kernel
theorem k277_25 : decode (gb 277) 25 = .ok (.invokevirtual 247, 3) := by decide +kernel
theorem k277_28 : decode (gb 277) 28 = .ok (.iconst 2, 1) := by decide +kernel
theorem k277_29 : decode (gb 277) 29 = .ok (.if_icmp .ne 14, 3) := by decide +kernel
theorem k277_32 : decode (gb 277) 32 = .ok (.aload_n 0, 1) := by decide +kernel
theorem k277_33 : decode (gb 277) 33 = .ok (.aload_n 0, 1) := by decide +kernel
theorem k277_34 : decode (gb 277) 34 = .ok (.getfield 238, 3) := by decide +kernel
theorem k277_37 : decode (gb 277) 37 = .ok (.iload_n 3, 1) := by decide +kernel
theorem k277_38 : decode (gb 277) 38 = .ok (.iaload, 1) := by decide +kernel
theorem k277_39 : decode (gb 277) 39 = .ok (.iconst 3, 1) := by decide +kernel
theorem k277_40 : decode (gb 277) 40 = .ok (.invokevirtual 241, 3) := by decide +kernel
theorem k277_43 : decode (gb 277) 43 = .ok (.iinc 3 1, 3) := by decide +kernel
theorem k277_46 : decode (gb 277) 46 = .ok (.goto (-33), 3) := by decide +kernel
theorem k277_49 : decode (gb 277) 49 = .ok (.iload_n 2, 1) := by decide +kernel
theorem k277_50 : decode (gb 277) 50 = .ok (.istore_n 3, 1) := by decide +kernel
theorem k277_51 : decode (gb 277) 51 = .ok (.iload_n 3, 1) := by decide +kernel
theorem k277_52 : decode (gb 277) 52 = .ok (.aload_n 0, 1) := by decide +kernel
theorem k277_53 : decode (gb 277) 53 = .ok (.getfield 198, 3) := by decide +kernel
theorem k277_56 : decode (gb 277) 56 = .ok (.if_icmp .ge 78, 3) := by decide +kernel
theorem k277_59 : decode (gb 277) 59 = .ok (.aload_n 0, 1) := by decide +kernel
theorem k277_60 : decode (gb 277) 60 = .ok (.getfield 238, 3) := by decide +kernel
theorem k277_63 : decode (gb 277) 63 = .ok (.iload_n 3, 1) := by decide +kernel
theorem k277_64 : decode (gb 277) 64 = .ok (.iload_n 2, 1) := by decide +kernel
theorem k277_65 : decode (gb 277) 65 = .ok (.isub, 1) := by decide +kernel
theorem k277_66 : decode (gb 277) 66 = .ok (.aload_n 0, 1) := by decide +kernel
theorem k277_67 : decode (gb 277) 67 = .ok (.getfield 238, 3) := by decide +kernel
theorem k277_70 : decode (gb 277) 70 = .ok (.iload_n 3, 1) := by decide +kernel
theorem k277_71 : decode (gb 277) 71 = .ok (.iaload, 1) := by decide +kernel
theorem k277_72 : decode (gb 277) 72 = .ok (.iastore, 1) := by decide +kernel
theorem k277_73 : decode (gb 277) 73 = .ok (.aload_n 0, 1) := by decide +kernel
theorem k277_74 : decode (gb 277) 74 = .ok (.getfield 201, 3) := by decide +kernel
theorem k277_77 : decode (gb 277) 77 = .ok (.iload_n 3, 1) := by decide +kernel
theorem k277_78 : decode (gb 277) 78 = .ok (.iload_n 2, 1) := by decide +kernel
theorem k277_79 : decode (gb 277) 79 = .ok (.isub, 1) := by decide +kernel
theorem k277_80 : decode (gb 277) 80 = .ok (.aload_n 0, 1) := by decide +kernel
theorem k277_81 : decode (gb 277) 81 = .ok (.getfield 201, 3) := by decide +kernel
theorem k277_84 : decode (gb 277) 84 = .ok (.iload_n 3, 1) := by decide +kernel
theorem k277_85 : decode (gb 277) 85 = .ok (.baload, 1) := by decide +kernel
theorem k277_86 : decode (gb 277) 86 = .ok (.bastore, 1) := by decide +kernel
theorem k277_87 : decode (gb 277) 87 = .ok (.aload_n 0, 1) := by decide +kernel
theorem k277_88 : decode (gb 277) 88 = .ok (.getfield 210, 3) := by decide +kernel
theorem k277_91 : decode (gb 277) 91 = .ok (.iload_n 3, 1) := by decide +kernel
theorem k277_92 : decode (gb 277) 92 = .ok (.iload_n 2, 1) := by decide +kernel
theorem k277_93 : decode (gb 277) 93 = .ok (.isub, 1) := by decide +kernel
theorem k277_94 : decode (gb 277) 94 = .ok (.aload_n 0, 1) := by decide +kernel
theorem k277_95 : decode (gb 277) 95 = .ok (.getfield 210, 3) := by decide +kernel
theorem k277_98 : decode (gb 277) 98 = .ok (.iload_n 3, 1) := by decide +kernel
theorem k277_99 : decode (gb 277) 99 = .ok (.iaload, 1) := by decide +kernel
theorem k277_100 : decode (gb 277) 100 = .ok (.iastore, 1) := by decide +kernel
theorem k277_101 : decode (gb 277) 101 = .ok (.aload_n 0, 1) := by decide +kernel
theorem k277_102 : decode (gb 277) 102 = .ok (.getfield 207, 3) := by decide +kernel
theorem k277_105 : decode (gb 277) 105 = .ok (.bipush 60, 2) := by decide +kernel
theorem k277_107 : decode (gb 277) 107 = .ok (.iload_n 3, 1) := by decide +kernel
theorem k277_108 : decode (gb 277) 108 = .ok (.imul, 1) := by decide +kernel
theorem k277_109 : decode (gb 277) 109 = .ok (.aload_n 0, 1) := by decide +kernel
theorem k277_110 : decode (gb 277) 110 = .ok (.getfield 207, 3) := by decide +kernel
theorem k277_113 : decode (gb 277) 113 = .ok (.bipush 60, 2) := by decide +kernel
theorem k277_115 : decode (gb 277) 115 = .ok (.iload_n 3, 1) := by decide +kernel
theorem k277_116 : decode (gb 277) 116 = .ok (.iload_n 2, 1) := by decide +kernel
theorem k277_117 : decode (gb 277) 117 = .ok (.isub, 1) := by decide +kernel
theorem k277_118 : decode (gb 277) 118 = .ok (.imul, 1) := by decide +kernel
theorem k277_119 : decode (gb 277) 119 = .ok (.aload_n 0, 1) := by decide +kernel
theorem k277_120 : decode (gb 277) 120 = .ok (.getfield 210, 3) := by decide +kernel
theorem k277_123 : decode (gb 277) 123 = .ok (.iload_n 3, 1) := by decide +kernel
theorem k277_124 : decode (gb 277) 124 = .ok (.iaload, 1) := by decide +kernel
theorem k277_125 : decode (gb 277) 125 = .ok (.invokestatic 228, 3) := by decide +kernel
theorem k277_128 : decode (gb 277) 128 = .ok (.iinc 3 1, 3) := by decide +kernel
theorem k277_131 : decode (gb 277) 131 = .ok (.goto (-80), 3) := by decide +kernel
theorem k277_134 : decode (gb 277) 134 = .ok (.aload_n 0, 1) := by decide +kernel
theorem k277_135 : decode (gb 277) 135 = .ok (.dup, 1) := by decide +kernel
theorem k277_136 : decode (gb 277) 136 = .ok (.getfield 198, 3) := by decide +kernel
theorem k277_139 : decode (gb 277) 139 = .ok (.iload_n 2, 1) := by decide +kernel
theorem k277_140 : decode (gb 277) 140 = .ok (.isub, 1) := by decide +kernel
theorem k277_141 : decode (gb 277) 141 = .ok (.putfield 198, 3) := by decide +kernel
theorem k277_144 : decode (gb 277) 144 = .ok (.aload_n 0, 1) := by decide +kernel
theorem k277_145 : decode (gb 277) 145 = .ok (.iload_n 1, 1) := by decide +kernel
theorem k277_146 : decode (gb 277) 146 = .ok (.putfield 204, 3) := by decide +kernel
theorem k277_149 : decode (gb 277) 149 = .ok (.aload_n 0, 1) := by decide +kernel
theorem k277_150 : decode (gb 277) 150 = .ok (.iconst 1, 1) := by decide +kernel
theorem k277_151 : decode (gb 277) 151 = .ok (.putfield 232, 3) := by decide +kernel
theorem k277_154 : decode (gb 277) 154 = .ok (.aload_n 0, 1) := by decide +kernel
theorem k277_155 : decode (gb 277) 155 = .ok (.aload_n 0, 1) := by decide +kernel
theorem k277_156 : decode (gb 277) 156 = .ok (.getfield 198, 3) := by decide +kernel
theorem k277_159 : decode (gb 277) 159 = .ok (.ifCond .ne 7, 3) := by decide +kernel
theorem k277_162 : decode (gb 277) 162 = .ok (.iconst 0, 1) := by decide +kernel
theorem k277_163 : decode (gb 277) 163 = .ok (.goto 7, 3) := by decide +kernel
theorem k277_166 : decode (gb 277) 166 = .ok (.aload_n 0, 1) := by decide +kernel
theorem k277_167 : decode (gb 277) 167 = .ok (.getfield 192, 3) := by decide +kernel
theorem k277_170 : decode (gb 277) 170 = .ok (.putfield 192, 3) := by decide +kernel
theorem k277_173 : decode (gb 277) 173 = .ok (.return_, 1) := by decide +kernel
def c277_43 (kl13 : Int32 → Int32 → Int32 → Mem → Option (Mem)) (v1 : Int32) (v2 : Int32) (v3 : Int32) (μ : Mem) : Option (Mem) :=
  nm (v3 + (1 : Int32)) fun x1 =>
  kl13 v1 v2 x1 μ
theorem c277_43_ok {L : Nat} (kl13 : Int32 → Int32 → Int32 → Mem → Option (Mem)) (hk13 : (∀ (v1 : Int32) (v2 : Int32) (v3 : Int32) (μ : Mem) (res : Mem), kl13 v1 v2 v3 μ = some res → Sx 277 13 [(0, .ref 129), (1, .int v1), (2, .int v2), (3, .int v3)] [] 0 0 (mk L μ) (mk L res, none))) (v1 : Int32) (v2 : Int32) (v3 : Int32) (μ : Mem) (res : Mem) (h : c277_43 kl13 v1 v2 v3 μ = some res) : Sx 277 43 [(0, .ref 129), (1, .int v1), (2, .int v2), (3, .int v3)] [] 0 0 (mk L μ) (mk L res, none) := by
  unfold c277_43 at h
  refine cx_iinc (c := 1) (lo2 := fun x1 => [(3, .int x1), (0, .ref 129), (1, .int v1), (2, .int v2)]) k277_43 rfl (by decide) (by rw [mx_277]; decide) (fun _ => rfl) h (fun x1 h => ?_)
  refine sx_goto (tgt := 13) k277_46 (by decide) ?_
  refine sx_pick (lo2 := [(0, .ref 129), (1, .int v1), (2, .int v2), (3, .int x1)]) [1, 2, 3, 0] rfl ?_
  exact hk13 v1 v2 x1 _ _ h
def c277_170 (s1 : Int32) (μ : Mem) : Option (Mem) :=
  (pfI 129 34 s1 μ).bind fun m1 =>
  some m1
theorem c277_170_ok {L : Nat} (s1 : Int32) (μ : Mem) (res : Mem) (h : c277_170 s1 μ = some res) : Sx 277 170 [] [.int s1, .ref 129] 0 0 (mk L μ) (mk L res, none) := by
  unfold c277_170 at h
  obtain ⟨m1, e2, h⟩ := Option.bind_eq_some_iff.mp h
  refine cx_putI (k := 34) k277_170 ow_277 fl_12_192 (by decide) sk_129 nf_11_34 fu_11_34 e2 ?_
  exact cx_retv k277_173 rt_277 h
def b277_51 (kl51 : Int32 → Int32 → Int32 → Mem → Option (Mem)) (v1 : Int32) (v2 : Int32) (v3 : Int32) (μ : Mem) : Option (Mem) :=
  if (μ.1 129 41) ≤ v3 then
    (pfI 129 41 ((μ.1 129 41) - v2) μ).bind fun m2 =>
    (pfI 129 30 v1 m2).bind fun m4 =>
    (pfI 129 31 (1 : Int32) m4).bind fun m6 =>
    if (m6.1 129 41) = 0 then
      c277_170 (0 : Int32) m6
    else
      c277_170 (m6.1 129 34) m6
  else
    (ldA 141 v3 μ).bind fun x9 =>
    (stA 141 (v3 - v2) x9 μ).bind fun m11 =>
    (ldA 142 v3 m11).bind fun x13 =>
    (stZ 142 (v3 - v2) x13 m11).bind fun m15 =>
    (ldA 145 v3 m15).bind fun x17 =>
    (stA 145 (v3 - v2) x17 m15).bind fun m19 =>
    (ldA 145 v3 m19).bind fun x21 =>
    (f273 144 ((60 : Int32) * v3) 144 ((60 : Int32) * (v3 - v2)) x21 m19).bind fun r23 =>
    nm (v3 + (1 : Int32)) fun x25 =>
    kl51 v1 v2 x25 r23
theorem b277_51_ok {L : Nat} (kl51 : Int32 → Int32 → Int32 → Mem → Option (Mem)) (hk51 : (∀ (v1 : Int32) (v2 : Int32) (v3 : Int32) (μ : Mem) (res : Mem), kl51 v1 v2 v3 μ = some res → Sx 277 51 [(0, .ref 129), (1, .int v1), (2, .int v2), (3, .int v3)] [] 0 0 (mk L μ) (mk L res, none))) (v1 : Int32) (v2 : Int32) (v3 : Int32) (μ : Mem) (res : Mem) (h : b277_51 kl51 v1 v2 v3 μ = some res) : Sx 277 51 [(0, .ref 129), (1, .int v1), (2, .int v2), (3, .int v3)] [] 0 0 (mk L μ) (mk L res, none) := by
  unfold b277_51 at h
  refine sx_iload_n (i := 3) k277_51 rfl rfl ?_
  refine sx_aload_n (i := 0) k277_52 rfl rfl ?_
  refine cx_getI (k := 41) k277_53 ow_277 fl_12_198 (by decide) sk_129 ft_11_41 ?_
  by_cases hb1 : (μ.1 129 41) ≤ v3
  · rw [if_pos hb1] at h
    refine sx_icmp_ge (tgt := 134) k277_56 (by decide) (fun _ => ?_) (fun q => absurd hb1 q)
    refine sx_aload_n (i := 0) k277_134 rfl rfl ?_
    refine sx_dup k277_135 rfl ?_
    refine cx_getI (k := 41) k277_136 ow_277 fl_12_198 (by decide) sk_129 ft_11_41 ?_
    refine sx_iload_n (i := 2) k277_139 rfl rfl ?_
    refine sx_isub k277_140 ?_
    obtain ⟨m2, e3, h⟩ := Option.bind_eq_some_iff.mp h
    refine cx_putI (k := 41) k277_141 ow_277 fl_12_198 (by decide) sk_129 nf_11_41 fu_11_41 e3 ?_
    refine sx_aload_n (i := 0) k277_144 rfl rfl ?_
    refine sx_iload_n (i := 1) k277_145 rfl rfl ?_
    obtain ⟨m4, e5, h⟩ := Option.bind_eq_some_iff.mp h
    refine cx_putI (k := 30) k277_146 ow_277 fl_12_204 (by decide) sk_129 nf_11_30 fu_11_30 e5 ?_
    refine sx_aload_n (i := 0) k277_149 rfl rfl ?_
    refine sx_iconst (v := 1) k277_150 (by decide) ?_
    obtain ⟨m6, e7, h⟩ := Option.bind_eq_some_iff.mp h
    refine cx_putI (k := 31) k277_151 ow_277 fl_12_232 (by decide) sk_129 nf_11_31 fu_11_31 e7 ?_
    refine sx_aload_n (i := 0) k277_154 rfl rfl ?_
    refine sx_aload_n (i := 0) k277_155 rfl rfl ?_
    refine cx_getI (k := 41) k277_156 ow_277 fl_12_198 (by decide) sk_129 ft_11_41 ?_
    by_cases hb8 : (m6.1 129 41) = 0
    · rw [if_pos hb8] at h
      refine sx_if_ne (tgt := 166) k277_159 (by decide) (fun q => absurd hb8 q) (fun _ => ?_)
      refine sx_iconst (v := 0) k277_162 (by decide) ?_
      refine sx_goto (tgt := 170) k277_163 (by decide) ?_
      refine sx_pick (lo2 := []) [] rfl ?_
      exact c277_170_ok (0 : Int32) _ _ h
    · rw [if_neg hb8] at h
      refine sx_if_ne (tgt := 166) k277_159 (by decide) (fun _ => ?_) (fun q => absurd q hb8)
      refine sx_aload_n (i := 0) k277_166 rfl rfl ?_
      refine cx_getI (k := 34) k277_167 ow_277 fl_12_192 (by decide) sk_129 ft_11_34 ?_
      refine sx_pick (lo2 := []) [] rfl ?_
      exact c277_170_ok (m6.1 129 34) _ _ h
  · rw [if_neg hb1] at h
    refine sx_icmp_ge (tgt := 134) k277_56 (by decide) (fun q => absurd q hb1) (fun _ => ?_)
    refine sx_aload_n (i := 0) k277_59 rfl rfl ?_
    refine cx_getR (k := 39) k277_60 ow_277 fl_12_238 (by decide) sk_129 ft_11_39 sr_129_39 ?_
    refine sx_iload_n (i := 3) k277_63 rfl rfl ?_
    refine sx_iload_n (i := 2) k277_64 rfl rfl ?_
    refine sx_isub k277_65 ?_
    refine sx_aload_n (i := 0) k277_66 rfl rfl ?_
    refine cx_getR (k := 39) k277_67 ow_277 fl_12_238 (by decide) sk_129 ft_11_39 sr_129_39 ?_
    refine sx_iload_n (i := 3) k277_70 rfl rfl ?_
    obtain ⟨x9, e10, h⟩ := Option.bind_eq_some_iff.mp h
    refine cx_iald k277_71 sk_141 e10 ?_
    obtain ⟨m11, e12, h⟩ := Option.bind_eq_some_iff.mp h
    refine cx_iast k277_72 sk_141 e12 ?_
    refine sx_aload_n (i := 0) k277_73 rfl rfl ?_
    refine cx_getR (k := 40) k277_74 ow_277 fl_12_201 (by decide) sk_129 ft_11_40 sr_129_40 ?_
    refine sx_iload_n (i := 3) k277_77 rfl rfl ?_
    refine sx_iload_n (i := 2) k277_78 rfl rfl ?_
    refine sx_isub k277_79 ?_
    refine sx_aload_n (i := 0) k277_80 rfl rfl ?_
    refine cx_getR (k := 40) k277_81 ow_277 fl_12_201 (by decide) sk_129 ft_11_40 sr_129_40 ?_
    refine sx_iload_n (i := 3) k277_84 rfl rfl ?_
    obtain ⟨x13, e14, h⟩ := Option.bind_eq_some_iff.mp h
    refine cx_bald k277_85 (Or.inr sk_142) e14 ?_
    obtain ⟨m15, e16, h⟩ := Option.bind_eq_some_iff.mp h
    refine cx_zast k277_86 sk_142 e16 ?_
    refine sx_aload_n (i := 0) k277_87 rfl rfl ?_
    refine cx_getR (k := 45) k277_88 ow_277 fl_12_210 (by decide) sk_129 ft_11_45 sr_129_45 ?_
    refine sx_iload_n (i := 3) k277_91 rfl rfl ?_
    refine sx_iload_n (i := 2) k277_92 rfl rfl ?_
    refine sx_isub k277_93 ?_
    refine sx_aload_n (i := 0) k277_94 rfl rfl ?_
    refine cx_getR (k := 45) k277_95 ow_277 fl_12_210 (by decide) sk_129 ft_11_45 sr_129_45 ?_
    refine sx_iload_n (i := 3) k277_98 rfl rfl ?_
    obtain ⟨x17, e18, h⟩ := Option.bind_eq_some_iff.mp h
    refine cx_iald k277_99 sk_145 e18 ?_
    obtain ⟨m19, e20, h⟩ := Option.bind_eq_some_iff.mp h
    refine cx_iast k277_100 sk_145 e20 ?_
    refine sx_aload_n (i := 0) k277_101 rfl rfl ?_
    refine cx_getR (k := 44) k277_102 ow_277 fl_12_207 (by decide) sk_129 ft_11_44 sr_129_44 ?_
    refine sx_bipush (v := 60) k277_105 (by decide) ?_
    refine sx_iload_n (i := 3) k277_107 rfl rfl ?_
    refine sx_imul k277_108 ?_
    refine sx_aload_n (i := 0) k277_109 rfl rfl ?_
    refine cx_getR (k := 44) k277_110 ow_277 fl_12_207 (by decide) sk_129 ft_11_44 sr_129_44 ?_
    refine sx_bipush (v := 60) k277_113 (by decide) ?_
    refine sx_iload_n (i := 3) k277_115 rfl rfl ?_
    refine sx_iload_n (i := 2) k277_116 rfl rfl ?_
    refine sx_isub k277_117 ?_
    refine sx_imul k277_118 ?_
    refine sx_aload_n (i := 0) k277_119 rfl rfl ?_
    refine cx_getR (k := 45) k277_120 ow_277 fl_12_210 (by decide) sk_129 ft_11_45 sr_129_45 ?_
    refine sx_iload_n (i := 3) k277_123 rfl rfl ?_
    obtain ⟨x21, e22, h⟩ := Option.bind_eq_some_iff.mp h
    refine cx_iald k277_124 sk_145 e22 ?_
    obtain ⟨r23, e24, h⟩ := Option.bind_eq_some_iff.mp h
    refine cx_S (sk := []) (vs := [.ref 144, .int ((60 : Int32) * v3), .ref 144, .int ((60 : Int32) * (v3 - v2)), .int x21]) st_277_273 k277_125 ow_277 cl_12_228 (by decide) rfl (Nat.le_of_ble_eq_true rfl) (ok273 144 ((60 : Int32) * v3) 144 ((60 : Int32) * (v3 - v2)) x21 sk_144 sk_144 _ _ e24) (sk3 := []) rfl rfl ?_
    refine cx_iinc (c := 1) (lo2 := fun x25 => [(3, .int x25), (0, .ref 129), (1, .int v1), (2, .int v2)]) k277_128 rfl (by decide) (by rw [mx_277]; decide) (fun _ => rfl) h (fun x25 h => ?_)
    refine sx_goto (tgt := 51) k277_131 (by decide) ?_
    refine sx_pick (lo2 := [(0, .ref 129), (1, .int v1), (2, .int v2), (3, .int x25)]) [1, 2, 3, 0] rfl ?_
    exact hk51 v1 v2 x25 _ _ h
def l277_51 : Nat → Int32 × Int32 × Int32 × Mem → Option (Mem) :=
  fixN (fun self x => b277_51 (fun v1 v2 v3 μ => self (v1, v2, v3, μ)) (x.1) (x.2.1) (x.2.2.1) (x.2.2.2))
theorem l277_51_ok {L : Nat} (n : Nat) (v1 : Int32) (v2 : Int32) (v3 : Int32) (μ : Mem) (res : Mem) (h : l277_51 n (v1, v2, v3, μ) = some res) : Sx 277 51 [(0, .ref 129), (1, .int v1), (2, .int v2), (3, .int v3)] [] 0 0 (mk L μ) (mk L res, none) := by
  have key := fixN_ind (P := fun x res => Sx 277 51 [(0, .ref 129), (1, .int (x.1)), (2, .int (x.2.1)), (3, .int (x.2.2.1))] [] 0 0 (mk L (x.2.2.2)) (mk L res, none)) (F := fun self x => b277_51 (fun v1 v2 v3 μ => self (v1, v2, v3, μ)) (x.1) (x.2.1) (x.2.2.1) (x.2.2.2)) (fun self hself x res h => b277_51_ok (fun v1 v2 v3 μ => self (v1, v2, v3, μ)) (fun v1 v2 v3 μ res hh => hself (v1, v2, v3, μ) res hh) (x.1) (x.2.1) (x.2.2.1) (x.2.2.2) res h) n (v1, v2, v3, μ) res h
  exact key
def b277_13 (kl13 : Int32 → Int32 → Int32 → Mem → Option (Mem)) (v1 : Int32) (v2 : Int32) (v3 : Int32) (μ : Mem) : Option (Mem) :=
  if v2 ≤ v3 then
    l277_51 gF (v1, v2, v2, μ)
  else
    (ldA 141 v3 μ).bind fun x2 =>
    (f290 x2 μ).bind fun r4 =>
    if r4.2 = (2 : Int32) then
      (ldA 141 v3 r4.1).bind fun x7 =>
      (f289 x7 (3 : Int32) r4.1).bind fun r9 =>
      c277_43 kl13 v1 v2 v3 r9
    else
      c277_43 kl13 v1 v2 v3 r4.1
theorem b277_13_ok {L : Nat} (kl13 : Int32 → Int32 → Int32 → Mem → Option (Mem)) (hk13 : (∀ (v1 : Int32) (v2 : Int32) (v3 : Int32) (μ : Mem) (res : Mem), kl13 v1 v2 v3 μ = some res → Sx 277 13 [(0, .ref 129), (1, .int v1), (2, .int v2), (3, .int v3)] [] 0 0 (mk L μ) (mk L res, none))) (v1 : Int32) (v2 : Int32) (v3 : Int32) (μ : Mem) (res : Mem) (h : b277_13 kl13 v1 v2 v3 μ = some res) : Sx 277 13 [(0, .ref 129), (1, .int v1), (2, .int v2), (3, .int v3)] [] 0 0 (mk L μ) (mk L res, none) := by
  unfold b277_13 at h
  refine sx_iload_n (i := 3) k277_13 rfl rfl ?_
  refine sx_iload_n (i := 2) k277_14 rfl rfl ?_
  by_cases hb1 : v2 ≤ v3
  · rw [if_pos hb1] at h
    refine sx_icmp_ge (tgt := 49) k277_15 (by decide) (fun _ => ?_) (fun q => absurd hb1 q)
    refine sx_iload_n (i := 2) k277_49 rfl rfl ?_
    refine cx_istore_n (lo2 := [(3, .int v2), (0, .ref 129), (1, .int v1), (2, .int v2)]) k277_50 rfl (by rw [mx_277]; decide) rfl ?_
    refine sx_pick (lo2 := [(0, .ref 129), (1, .int v1), (2, .int v2), (3, .int v2)]) [1, 2, 3, 0] rfl ?_
    exact l277_51_ok gF v1 v2 v2 _ _ h
  · rw [if_neg hb1] at h
    refine sx_icmp_ge (tgt := 49) k277_15 (by decide) (fun q => absurd q hb1) (fun _ => ?_)
    refine sx_aload_n (i := 0) k277_18 rfl rfl ?_
    refine sx_aload_n (i := 0) k277_19 rfl rfl ?_
    refine cx_getR (k := 39) k277_20 ow_277 fl_12_238 (by decide) sk_129 ft_11_39 sr_129_39 ?_
    refine sx_iload_n (i := 3) k277_23 rfl rfl ?_
    obtain ⟨x2, e3, h⟩ := Option.bind_eq_some_iff.mp h
    refine cx_iald k277_24 sk_141 e3 ?_
    obtain ⟨r4, e5, h⟩ := Option.bind_eq_some_iff.mp h
    refine cx_V (sk := []) (vs := [.int x2]) st_277_290 k277_25 ow_277 cl_12_247 (by decide) rfl (Nat.le_of_ble_eq_true rfl) sk_129 (ok290 x2 _ _ e5) (sk3 := [.int r4.2]) rfl rfl ?_
    refine sx_iconst (v := 2) k277_28 (by decide) ?_
    by_cases hb6 : r4.2 = (2 : Int32)
    · rw [if_pos hb6] at h
      refine sx_icmp_ne (tgt := 43) k277_29 (by decide) (fun q => absurd hb6 q) (fun _ => ?_)
      refine sx_aload_n (i := 0) k277_32 rfl rfl ?_
      refine sx_aload_n (i := 0) k277_33 rfl rfl ?_
      refine cx_getR (k := 39) k277_34 ow_277 fl_12_238 (by decide) sk_129 ft_11_39 sr_129_39 ?_
      refine sx_iload_n (i := 3) k277_37 rfl rfl ?_
      obtain ⟨x7, e8, h⟩ := Option.bind_eq_some_iff.mp h
      refine cx_iald k277_38 sk_141 e8 ?_
      refine sx_iconst (v := 3) k277_39 (by decide) ?_
      obtain ⟨r9, e10, h⟩ := Option.bind_eq_some_iff.mp h
      refine cx_V (sk := []) (vs := [.int x7, .int (3 : Int32)]) st_277_289 k277_40 ow_277 cl_12_241 (by decide) rfl (Nat.le_of_ble_eq_true rfl) sk_129 (ok289 x7 (3 : Int32) _ _ e10) (sk3 := []) rfl rfl ?_
      refine sx_pick (lo2 := [(0, .ref 129), (1, .int v1), (2, .int v2), (3, .int v3)]) [0, 1, 2, 3] rfl ?_
      exact c277_43_ok kl13 hk13 v1 v2 v3 _ _ h
    · rw [if_neg hb6] at h
      refine sx_icmp_ne (tgt := 43) k277_29 (by decide) (fun _ => ?_) (fun q => absurd q hb6)
      refine sx_pick (lo2 := [(0, .ref 129), (1, .int v1), (2, .int v2), (3, .int v3)]) [0, 1, 2, 3] rfl ?_
      exact c277_43_ok kl13 hk13 v1 v2 v3 _ _ h
def l277_13 : Nat → Int32 × Int32 × Int32 × Mem → Option (Mem) :=
  fixN (fun self x => b277_13 (fun v1 v2 v3 μ => self (v1, v2, v3, μ)) (x.1) (x.2.1) (x.2.2.1) (x.2.2.2))
theorem l277_13_ok {L : Nat} (n : Nat) (v1 : Int32) (v2 : Int32) (v3 : Int32) (μ : Mem) (res : Mem) (h : l277_13 n (v1, v2, v3, μ) = some res) : Sx 277 13 [(0, .ref 129), (1, .int v1), (2, .int v2), (3, .int v3)] [] 0 0 (mk L μ) (mk L res, none) := by
  have key := fixN_ind (P := fun x res => Sx 277 13 [(0, .ref 129), (1, .int (x.1)), (2, .int (x.2.1)), (3, .int (x.2.2.1))] [] 0 0 (mk L (x.2.2.2)) (mk L res, none)) (F := fun self x => b277_13 (fun v1 v2 v3 μ => self (v1, v2, v3, μ)) (x.1) (x.2.1) (x.2.2.1) (x.2.2.2)) (fun self hself x res h => b277_13_ok (fun v1 v2 v3 μ => self (v1, v2, v3, μ)) (fun v1 v2 v3 μ res hh => hself (v1, v2, v3, μ) res hh) (x.1) (x.2.1) (x.2.2.1) (x.2.2.2) res h) n (v1, v2, v3, μ) res h
  exact key
/-- CraftHouseModel.clearTo(I)V -/
def f277 (p1 : Int32) (μ : Mem) : Option (Mem) :=
  nm ((p1 - (μ.1 129 30)) &&& (255 : Int32)) fun x1 =>
  l277_13 gF (p1, x1, (0 : Int32), μ)
theorem ok277 {L : Nat} (p1 : Int32) (μ : Mem) (res : Mem) (h : f277 p1 μ = some res) : Mx 277 [.ref 129, .int p1] (mk L μ) (mk L res, none) := by
  refine Mx_of ml_277 (by rw [mx_277]; exact Nat.le_of_ble_eq_true rfl) ?_
  show Sx 277 0 [(0, .ref 129), (1, .int p1)] [] 0 0 (mk L μ) _
  unfold f277 at h
  refine sx_iload_n (i := 1) k277_0 rfl rfl ?_
  refine sx_aload_n (i := 0) k277_1 rfl rfl ?_
  refine cx_getI (k := 30) k277_2 ow_277 fl_12_204 (by decide) sk_129 ft_11_30 ?_
  refine sx_isub k277_5 ?_
  refine sx_sipush (v := 255) k277_6 (by decide) ?_
  refine sx_iand k277_9 ?_
  refine cx_nm h (fun x1 h => ?_)
  refine cx_istore_n (lo2 := [(2, .int x1), (0, .ref 129), (1, .int p1)]) k277_10 rfl (by rw [mx_277]; decide) rfl ?_
  refine sx_iconst (v := 0) k277_11 (by decide) ?_
  refine cx_istore_n (lo2 := [(3, .int (0 : Int32)), (2, .int x1), (0, .ref 129), (1, .int p1)]) k277_12 rfl (by rw [mx_277]; decide) rfl ?_
  refine sx_pick (lo2 := [(0, .ref 129), (1, .int p1), (2, .int x1), (3, .int (0 : Int32))]) [2, 3, 1, 0] rfl ?_
  exact l277_13_ok gF p1 x1 (0 : Int32) _ _ h
theorem k281_0 : decode (gb 281) 0 = .ok (.iload_n 3, 1) := by decide +kernel
theorem k281_1 : decode (gb 281) 1 = .ok (.ifCond .ne 7, 3) := by decide +kernel
theorem k281_4 : decode (gb 281) 4 = .ok (.iload_n 2, 1) := by decide +kernel
theorem k281_5 : decode (gb 281) 5 = .ok (.ifCond .eq 27, 3) := by decide +kernel
theorem k281_8 : decode (gb 281) 8 = .ok (.aload_n 0, 1) := by decide +kernel
theorem k281_9 : decode (gb 281) 9 = .ok (.getfield 195, 3) := by decide +kernel
theorem k281_12 : decode (gb 281) 12 = .ok (.iconst 5, 1) := by decide +kernel
theorem k281_13 : decode (gb 281) 13 = .ok (.if_icmp .eq 90, 3) := by decide +kernel
theorem k281_16 : decode (gb 281) 16 = .ok (.aload_n 0, 1) := by decide +kernel
theorem k281_17 : decode (gb 281) 17 = .ok (.iload_n 3, 1) := by decide +kernel
theorem k281_18 : decode (gb 281) 18 = .ok (.ifCond .eq 7, 3) := by decide +kernel
theorem k281_21 : decode (gb 281) 21 = .ok (.iconst 3, 1) := by decide +kernel
theorem k281_22 : decode (gb 281) 22 = .ok (.goto 4, 3) := by decide +kernel
theorem k281_25 : decode (gb 281) 25 = .ok (.iconst 4, 1) := by decide +kernel
theorem k281_26 : decode (gb 281) 26 = .ok (.invokevirtual 259, 3) := by decide +kernel
theorem k281_29 : decode (gb 281) 29 = .ok (.goto 74, 3) := by decide +kernel
theorem k281_32 : decode (gb 281) 32 = .ok (.iload_n 1, 1) := by decide +kernel
theorem k281_33 : decode (gb 281) 33 = .ok (.aload_n 0, 1) := by decide +kernel
theorem k281_34 : decode (gb 281) 34 = .ok (.getfield 204, 3) := by decide +kernel
theorem k281_37 : decode (gb 281) 37 = .ok (.if_icmp .ne 52, 3) := by decide +kernel
theorem k281_40 : decode (gb 281) 40 = .ok (.aload_n 0, 1) := by decide +kernel
theorem k281_41 : decode (gb 281) 41 = .ok (.getfield 195, 3) := by decide +kernel
theorem k281_44 : decode (gb 281) 44 = .ok (.iconst 2, 1) := by decide +kernel
theorem k281_45 : decode (gb 281) 45 = .ok (.if_icmp .eq 11, 3) := by decide +kernel
theorem k281_48 : decode (gb 281) 48 = .ok (.aload_n 0, 1) := by decide +kernel
theorem k281_49 : decode (gb 281) 49 = .ok (.getfield 195, 3) := by decide +kernel
theorem k281_52 : decode (gb 281) 52 = .ok (.iconst 3, 1) := by decide +kernel
theorem k281_53 : decode (gb 281) 53 = .ok (.if_icmp .ne 11, 3) := by decide +kernel
theorem k281_56 : decode (gb 281) 56 = .ok (.aload_n 0, 1) := by decide +kernel
theorem k281_57 : decode (gb 281) 57 = .ok (.iconst 3, 1) := by decide +kernel
theorem k281_58 : decode (gb 281) 58 = .ok (.invokevirtual 259, 3) := by decide +kernel
theorem k281_61 : decode (gb 281) 61 = .ok (.goto 42, 3) := by decide +kernel
theorem k281_64 : decode (gb 281) 64 = .ok (.aload_n 0, 1) := by decide +kernel
theorem k281_65 : decode (gb 281) 65 = .ok (.getfield 195, 3) := by decide +kernel
theorem k281_68 : decode (gb 281) 68 = .ok (.iconst 1, 1) := by decide +kernel
theorem k281_69 : decode (gb 281) 69 = .ok (.if_icmp .eq 34, 3) := by decide +kernel
theorem k281_72 : decode (gb 281) 72 = .ok (.aload_n 0, 1) := by decide +kernel
theorem k281_73 : decode (gb 281) 73 = .ok (.iconst 1, 1) := by decide +kernel
theorem k281_74 : decode (gb 281) 74 = .ok (.putfield 195, 3) := by decide +kernel
theorem k281_77 : decode (gb 281) 77 = .ok (.aload_n 0, 1) := by decide +kernel
theorem k281_78 : decode (gb 281) 78 = .ok (.iconst 0, 1) := by decide +kernel
theorem k281_79 : decode (gb 281) 79 = .ok (.putfield 192, 3) := by decide +kernel
theorem k281_82 : decode (gb 281) 82 = .ok (.aload_n 0, 1) := by decide +kernel
theorem k281_83 : decode (gb 281) 83 = .ok (.invokevirtual 268, 3) := by decide +kernel
theorem k281_86 : decode (gb 281) 86 = .ok (.goto 17, 3) := by decide +kernel
theorem k281_89 : decode (gb 281) 89 = .ok (.aload_n 0, 1) := by decide +kernel
theorem k281_90 : decode (gb 281) 90 = .ok (.iload_n 1, 1) := by decide +kernel
theorem k281_91 : decode (gb 281) 91 = .ok (.invokevirtual 265, 3) := by decide +kernel
theorem k281_94 : decode (gb 281) 94 = .ok (.aload_n 0, 1) := by decide +kernel
theorem k281_95 : decode (gb 281) 95 = .ok (.iconst 1, 1) := by decide +kernel
theorem k281_96 : decode (gb 281) 96 = .ok (.putfield 195, 3) := by decide +kernel
theorem k281_99 : decode (gb 281) 99 = .ok (.aload_n 0, 1) := by decide +kernel
theorem k281_100 : decode (gb 281) 100 = .ok (.invokevirtual 268, 3) := by decide +kernel
theorem k281_103 : decode (gb 281) 103 = .ok (.return_, 1) := by decide +kernel
def c281_26 (s1 : Int32) (μ : Mem) : Option (Mem) :=
  (f279 s1 μ).bind fun r1 =>
  some r1
theorem c281_26_ok {L : Nat} (s1 : Int32) (μ : Mem) (res : Mem) (h : c281_26 s1 μ = some res) : Sx 281 26 [] [.int s1, .ref 129] 0 0 (mk L μ) (mk L res, none) := by
  unfold c281_26 at h
  obtain ⟨r1, e2, h⟩ := Option.bind_eq_some_iff.mp h
  refine cx_V (sk := []) (vs := [.int s1]) st_281_279 k281_26 ow_281 cl_12_259 (by decide) rfl (Nat.le_of_ble_eq_true rfl) sk_129 (ok279 s1 _ _ e2) (sk3 := []) rfl rfl ?_
  refine sx_goto (tgt := 103) k281_29 (by decide) ?_
  exact cx_retv k281_103 rt_281 h
def c281_8 (v3 : Int32) (μ : Mem) : Option (Mem) :=
  if (μ.1 129 28) = (5 : Int32) then
    some μ
  else
    if v3 = 0 then
      c281_26 (4 : Int32) μ
    else
      c281_26 (3 : Int32) μ
theorem c281_8_ok {L : Nat} (v3 : Int32) (μ : Mem) (res : Mem) (h : c281_8 v3 μ = some res) : Sx 281 8 [(0, .ref 129), (3, .int v3)] [] 0 0 (mk L μ) (mk L res, none) := by
  unfold c281_8 at h
  refine sx_aload_n (i := 0) k281_8 rfl rfl ?_
  refine cx_getI (k := 28) k281_9 ow_281 fl_12_195 (by decide) sk_129 ft_11_28 ?_
  refine sx_iconst (v := 5) k281_12 (by decide) ?_
  by_cases hb1 : (μ.1 129 28) = (5 : Int32)
  · rw [if_pos hb1] at h
    refine sx_icmp_eq (tgt := 103) k281_13 (by decide) (fun _ => ?_) (fun q => absurd hb1 q)
    exact cx_retv k281_103 rt_281 h
  · rw [if_neg hb1] at h
    refine sx_icmp_eq (tgt := 103) k281_13 (by decide) (fun q => absurd q hb1) (fun _ => ?_)
    refine sx_aload_n (i := 0) k281_16 rfl rfl ?_
    refine sx_iload_n (i := 3) k281_17 rfl rfl ?_
    by_cases hb2 : v3 = 0
    · rw [if_pos hb2] at h
      refine sx_if_eq (tgt := 25) k281_18 (by decide) (fun _ => ?_) (fun q => absurd hb2 q)
      refine sx_iconst (v := 4) k281_25 (by decide) ?_
      refine sx_pick (lo2 := []) [] rfl ?_
      exact c281_26_ok (4 : Int32) _ _ h
    · rw [if_neg hb2] at h
      refine sx_if_eq (tgt := 25) k281_18 (by decide) (fun q => absurd q hb2) (fun _ => ?_)
      refine sx_iconst (v := 3) k281_21 (by decide) ?_
      refine sx_goto (tgt := 26) k281_22 (by decide) ?_
      refine sx_pick (lo2 := []) [] rfl ?_
      exact c281_26_ok (3 : Int32) _ _ h
def c281_56 (μ : Mem) : Option (Mem) :=
  (f279 (3 : Int32) μ).bind fun r1 =>
  some r1
theorem c281_56_ok {L : Nat} (μ : Mem) (res : Mem) (h : c281_56 μ = some res) : Sx 281 56 [(0, .ref 129)] [] 0 0 (mk L μ) (mk L res, none) := by
  unfold c281_56 at h
  refine sx_aload_n (i := 0) k281_56 rfl rfl ?_
  refine sx_iconst (v := 3) k281_57 (by decide) ?_
  obtain ⟨r1, e2, h⟩ := Option.bind_eq_some_iff.mp h
  refine cx_V (sk := []) (vs := [.int (3 : Int32)]) st_281_279 k281_58 ow_281 cl_12_259 (by decide) rfl (Nat.le_of_ble_eq_true rfl) sk_129 (ok279 (3 : Int32) _ _ e2) (sk3 := []) rfl rfl ?_
  refine sx_goto (tgt := 103) k281_61 (by decide) ?_
  exact cx_retv k281_103 rt_281 h
/-- CraftHouseModel.reportAll(IZZ)V -/
def f281 (p1 : Int32) (p2 : Int32) (p3 : Int32) (μ : Mem) : Option (Mem) :=
  if p3 = 0 then
    if p2 = 0 then
      if p1 = (μ.1 129 30) then
        if (μ.1 129 28) = (2 : Int32) then
          c281_56 μ
        else
          if (μ.1 129 28) = (3 : Int32) then
            c281_56 μ
          else
            if (μ.1 129 28) = (1 : Int32) then
              some μ
            else
              (pfI 129 28 (1 : Int32) μ).bind fun m13 =>
              (pfI 129 34 (0 : Int32) m13).bind fun m15 =>
              (f275 m15).bind fun r17 =>
              some r17
      else
        (f277 p1 μ).bind fun r4 =>
        (pfI 129 28 (1 : Int32) r4).bind fun m6 =>
        (f275 m6).bind fun r8 =>
        some r8
    else
      c281_8 p3 μ
  else
    c281_8 p3 μ
theorem ok281 {L : Nat} (p1 : Int32) (p2 : Int32) (p3 : Int32) (μ : Mem) (res : Mem) (h : f281 p1 p2 p3 μ = some res) : Mx 281 [.ref 129, .int p1, .int p2, .int p3] (mk L μ) (mk L res, none) := by
  refine Mx_of ml_281 (by rw [mx_281]; exact Nat.le_of_ble_eq_true rfl) ?_
  show Sx 281 0 [(0, .ref 129), (1, .int p1), (2, .int p2), (3, .int p3)] [] 0 0 (mk L μ) _
  unfold f281 at h
  refine sx_iload_n (i := 3) k281_0 rfl rfl ?_
  by_cases hb1 : p3 = 0
  · rw [if_pos hb1] at h
    refine sx_if_ne (tgt := 8) k281_1 (by decide) (fun q => absurd hb1 q) (fun _ => ?_)
    refine sx_iload_n (i := 2) k281_4 rfl rfl ?_
    by_cases hb2 : p2 = 0
    · rw [if_pos hb2] at h
      refine sx_if_eq (tgt := 32) k281_5 (by decide) (fun _ => ?_) (fun q => absurd hb2 q)
      refine sx_iload_n (i := 1) k281_32 rfl rfl ?_
      refine sx_aload_n (i := 0) k281_33 rfl rfl ?_
      refine cx_getI (k := 30) k281_34 ow_281 fl_12_204 (by decide) sk_129 ft_11_30 ?_
      by_cases hb3 : p1 = (μ.1 129 30)
      · rw [if_pos hb3] at h
        refine sx_icmp_ne (tgt := 89) k281_37 (by decide) (fun q => absurd hb3 q) (fun _ => ?_)
        refine sx_aload_n (i := 0) k281_40 rfl rfl ?_
        refine cx_getI (k := 28) k281_41 ow_281 fl_12_195 (by decide) sk_129 ft_11_28 ?_
        refine sx_iconst (v := 2) k281_44 (by decide) ?_
        by_cases hb10 : (μ.1 129 28) = (2 : Int32)
        · rw [if_pos hb10] at h
          refine sx_icmp_eq (tgt := 56) k281_45 (by decide) (fun _ => ?_) (fun q => absurd hb10 q)
          refine sx_pick (lo2 := [(0, .ref 129)]) [0] rfl ?_
          exact c281_56_ok _ _ h
        · rw [if_neg hb10] at h
          refine sx_icmp_eq (tgt := 56) k281_45 (by decide) (fun q => absurd q hb10) (fun _ => ?_)
          refine sx_aload_n (i := 0) k281_48 rfl rfl ?_
          refine cx_getI (k := 28) k281_49 ow_281 fl_12_195 (by decide) sk_129 ft_11_28 ?_
          refine sx_iconst (v := 3) k281_52 (by decide) ?_
          by_cases hb11 : (μ.1 129 28) = (3 : Int32)
          · rw [if_pos hb11] at h
            refine sx_icmp_ne (tgt := 64) k281_53 (by decide) (fun q => absurd hb11 q) (fun _ => ?_)
            refine sx_pick (lo2 := [(0, .ref 129)]) [0] rfl ?_
            exact c281_56_ok _ _ h
          · rw [if_neg hb11] at h
            refine sx_icmp_ne (tgt := 64) k281_53 (by decide) (fun _ => ?_) (fun q => absurd q hb11)
            refine sx_aload_n (i := 0) k281_64 rfl rfl ?_
            refine cx_getI (k := 28) k281_65 ow_281 fl_12_195 (by decide) sk_129 ft_11_28 ?_
            refine sx_iconst (v := 1) k281_68 (by decide) ?_
            by_cases hb12 : (μ.1 129 28) = (1 : Int32)
            · rw [if_pos hb12] at h
              refine sx_icmp_eq (tgt := 103) k281_69 (by decide) (fun _ => ?_) (fun q => absurd hb12 q)
              exact cx_retv k281_103 rt_281 h
            · rw [if_neg hb12] at h
              refine sx_icmp_eq (tgt := 103) k281_69 (by decide) (fun q => absurd q hb12) (fun _ => ?_)
              refine sx_aload_n (i := 0) k281_72 rfl rfl ?_
              refine sx_iconst (v := 1) k281_73 (by decide) ?_
              obtain ⟨m13, e14, h⟩ := Option.bind_eq_some_iff.mp h
              refine cx_putI (k := 28) k281_74 ow_281 fl_12_195 (by decide) sk_129 nf_11_28 fu_11_28 e14 ?_
              refine sx_aload_n (i := 0) k281_77 rfl rfl ?_
              refine sx_iconst (v := 0) k281_78 (by decide) ?_
              obtain ⟨m15, e16, h⟩ := Option.bind_eq_some_iff.mp h
              refine cx_putI (k := 34) k281_79 ow_281 fl_12_192 (by decide) sk_129 nf_11_34 fu_11_34 e16 ?_
              refine sx_aload_n (i := 0) k281_82 rfl rfl ?_
              obtain ⟨r17, e18, h⟩ := Option.bind_eq_some_iff.mp h
              refine cx_V (sk := []) (vs := []) st_281_275 k281_83 ow_281 cl_12_268 (by decide) rfl (Nat.le_of_ble_eq_true rfl) sk_129 (ok275 _ _ e18) (sk3 := []) rfl rfl ?_
              refine sx_goto (tgt := 103) k281_86 (by decide) ?_
              exact cx_retv k281_103 rt_281 h
      · rw [if_neg hb3] at h
        refine sx_icmp_ne (tgt := 89) k281_37 (by decide) (fun _ => ?_) (fun q => absurd q hb3)
        refine sx_aload_n (i := 0) k281_89 rfl rfl ?_
        refine sx_iload_n (i := 1) k281_90 rfl rfl ?_
        obtain ⟨r4, e5, h⟩ := Option.bind_eq_some_iff.mp h
        refine cx_V (sk := []) (vs := [.int p1]) st_281_277 k281_91 ow_281 cl_12_265 (by decide) rfl (Nat.le_of_ble_eq_true rfl) sk_129 (ok277 p1 _ _ e5) (sk3 := []) rfl rfl ?_
        refine sx_aload_n (i := 0) k281_94 rfl rfl ?_
        refine sx_iconst (v := 1) k281_95 (by decide) ?_
        obtain ⟨m6, e7, h⟩ := Option.bind_eq_some_iff.mp h
        refine cx_putI (k := 28) k281_96 ow_281 fl_12_195 (by decide) sk_129 nf_11_28 fu_11_28 e7 ?_
        refine sx_aload_n (i := 0) k281_99 rfl rfl ?_
        obtain ⟨r8, e9, h⟩ := Option.bind_eq_some_iff.mp h
        refine cx_V (sk := []) (vs := []) st_281_275 k281_100 ow_281 cl_12_268 (by decide) rfl (Nat.le_of_ble_eq_true rfl) sk_129 (ok275 _ _ e9) (sk3 := []) rfl rfl ?_
        exact cx_retv k281_103 rt_281 h
    · rw [if_neg hb2] at h
      refine sx_if_eq (tgt := 32) k281_5 (by decide) (fun q => absurd q hb2) (fun _ => ?_)
      refine sx_pick (lo2 := [(0, .ref 129), (3, .int p3)]) [0, 3] rfl ?_
      exact c281_8_ok p3 _ _ h
  · rw [if_neg hb1] at h
    refine sx_if_ne (tgt := 8) k281_1 (by decide) (fun _ => ?_) (fun q => absurd q hb1)
    refine sx_pick (lo2 := [(0, .ref 129), (3, .int p3)]) [0, 3] rfl ?_
    exact c281_8_ok p3 _ _ h
theorem k276_0 : decode (gb 276) 0 = .ok (.aload_n 0, 1) := by decide +kernel
theorem k276_1 : decode (gb 276) 1 = .ok (.dup, 1) := by decide +kernel
theorem k276_2 : decode (gb 276) 2 = .ok (.getfield 232, 3) := by decide +kernel
theorem k276_5 : decode (gb 276) 5 = .ok (.iconst 1, 1) := by decide +kernel
theorem k276_6 : decode (gb 276) 6 = .ok (.iadd, 1) := by decide +kernel
theorem k276_7 : decode (gb 276) 7 = .ok (.putfield 232, 3) := by decide +kernel
theorem k276_10 : decode (gb 276) 10 = .ok (.aload_n 0, 1) := by decide +kernel
theorem k276_11 : decode (gb 276) 11 = .ok (.invokevirtual 244, 3) := by decide +kernel
theorem k276_14 : decode (gb 276) 14 = .ok (.iconst 0, 1) := by decide +kernel
theorem k276_15 : decode (gb 276) 15 = .ok (.istore_n 1, 1) := by decide +kernel
theorem k276_16 : decode (gb 276) 16 = .ok (.iload_n 1, 1) := by decide +kernel
theorem k276_17 : decode (gb 276) 17 = .ok (.aload_n 0, 1) := by decide +kernel
theorem k276_18 : decode (gb 276) 18 = .ok (.getfield 198, 3) := by decide +kernel
theorem k276_21 : decode (gb 276) 21 = .ok (.if_icmp .ge 16, 3) := by decide +kernel
theorem k276_24 : decode (gb 276) 24 = .ok (.aload_n 0, 1) := by decide +kernel
theorem k276_25 : decode (gb 276) 25 = .ok (.getfield 201, 3) := by decide +kernel
theorem k276_28 : decode (gb 276) 28 = .ok (.iload_n 1, 1) := by decide +kernel
theorem k276_29 : decode (gb 276) 29 = .ok (.iconst 1, 1) := by decide +kernel
theorem k276_30 : decode (gb 276) 30 = .ok (.bastore, 1) := by decide +kernel
theorem k276_31 : decode (gb 276) 31 = .ok (.iinc 1 1, 3) := by decide +kernel
theorem k276_34 : decode (gb 276) 34 = .ok (.goto (-18), 3) := by decide +kernel
theorem k276_37 : decode (gb 276) 37 = .ok (.return_, 1) := by decide +kernel
def b276_16 (kl16 : Int32 → Mem → Option (Mem)) (v1 : Int32) (μ : Mem) : Option (Mem) :=
  if (μ.1 129 41) ≤ v1 then
    some μ
  else
    (stZ 142 v1 (1 : Int32) μ).bind fun m2 =>
    nm (v1 + (1 : Int32)) fun x4 =>
    kl16 x4 m2
theorem b276_16_ok {L : Nat} (kl16 : Int32 → Mem → Option (Mem)) (hk16 : (∀ (v1 : Int32) (μ : Mem) (res : Mem), kl16 v1 μ = some res → Sx 276 16 [(0, .ref 129), (1, .int v1)] [] 0 0 (mk L μ) (mk L res, none))) (v1 : Int32) (μ : Mem) (res : Mem) (h : b276_16 kl16 v1 μ = some res) : Sx 276 16 [(0, .ref 129), (1, .int v1)] [] 0 0 (mk L μ) (mk L res, none) := by
  unfold b276_16 at h
  refine sx_iload_n (i := 1) k276_16 rfl rfl ?_
  refine sx_aload_n (i := 0) k276_17 rfl rfl ?_
  refine cx_getI (k := 41) k276_18 ow_276 fl_12_198 (by decide) sk_129 ft_11_41 ?_
  by_cases hb1 : (μ.1 129 41) ≤ v1
  · rw [if_pos hb1] at h
    refine sx_icmp_ge (tgt := 37) k276_21 (by decide) (fun _ => ?_) (fun q => absurd hb1 q)
    exact cx_retv k276_37 rt_276 h
  · rw [if_neg hb1] at h
    refine sx_icmp_ge (tgt := 37) k276_21 (by decide) (fun q => absurd q hb1) (fun _ => ?_)
    refine sx_aload_n (i := 0) k276_24 rfl rfl ?_
    refine cx_getR (k := 40) k276_25 ow_276 fl_12_201 (by decide) sk_129 ft_11_40 sr_129_40 ?_
    refine sx_iload_n (i := 1) k276_28 rfl rfl ?_
    refine sx_iconst (v := 1) k276_29 (by decide) ?_
    obtain ⟨m2, e3, h⟩ := Option.bind_eq_some_iff.mp h
    refine cx_zast k276_30 sk_142 e3 ?_
    refine cx_iinc (c := 1) (lo2 := fun x4 => [(1, .int x4), (0, .ref 129)]) k276_31 rfl (by decide) (by rw [mx_276]; decide) (fun _ => rfl) h (fun x4 h => ?_)
    refine sx_goto (tgt := 16) k276_34 (by decide) ?_
    refine sx_pick (lo2 := [(0, .ref 129), (1, .int x4)]) [1, 0] rfl ?_
    exact hk16 x4 _ _ h
def l276_16 : Nat → Int32 × Mem → Option (Mem) :=
  fixN (fun self x => b276_16 (fun v1 μ => self (v1, μ)) (x.1) (x.2))
theorem l276_16_ok {L : Nat} (n : Nat) (v1 : Int32) (μ : Mem) (res : Mem) (h : l276_16 n (v1, μ) = some res) : Sx 276 16 [(0, .ref 129), (1, .int v1)] [] 0 0 (mk L μ) (mk L res, none) := by
  have key := fixN_ind (P := fun x res => Sx 276 16 [(0, .ref 129), (1, .int (x.1))] [] 0 0 (mk L (x.2)) (mk L res, none)) (F := fun self x => b276_16 (fun v1 μ => self (v1, μ)) (x.1) (x.2)) (fun self hself x res h => b276_16_ok (fun v1 μ => self (v1, μ)) (fun v1 μ res hh => hself (v1, μ) res hh) (x.1) (x.2) res h) n (v1, μ) res h
  exact key
/-- CraftHouseModel.repeat()V -/
def f276 (μ : Mem) : Option (Mem) :=
  (pfI 129 31 ((μ.1 129 31) + (1 : Int32)) μ).bind fun m1 =>
  (f274 m1).bind fun r3 =>
  l276_16 gF ((0 : Int32), r3)
theorem ok276 {L : Nat} (μ : Mem) (res : Mem) (h : f276 μ = some res) : Mx 276 [.ref 129] (mk L μ) (mk L res, none) := by
  refine Mx_of ml_276 (by rw [mx_276]; exact Nat.le_of_ble_eq_true rfl) ?_
  show Sx 276 0 [(0, .ref 129)] [] 0 0 (mk L μ) _
  unfold f276 at h
  refine sx_aload_n (i := 0) k276_0 rfl rfl ?_
  refine sx_dup k276_1 rfl ?_
  refine cx_getI (k := 31) k276_2 ow_276 fl_12_232 (by decide) sk_129 ft_11_31 ?_
  refine sx_iconst (v := 1) k276_5 (by decide) ?_
  refine sx_iadd k276_6 ?_
  obtain ⟨m1, e2, h⟩ := Option.bind_eq_some_iff.mp h
  refine cx_putI (k := 31) k276_7 ow_276 fl_12_232 (by decide) sk_129 nf_11_31 fu_11_31 e2 ?_
  refine sx_aload_n (i := 0) k276_10 rfl rfl ?_
  obtain ⟨r3, e4, h⟩ := Option.bind_eq_some_iff.mp h
  refine cx_V (sk := []) (vs := []) st_276_274 k276_11 ow_276 cl_12_244 (by decide) rfl (Nat.le_of_ble_eq_true rfl) sk_129 (ok274 _ _ e4) (sk3 := []) rfl rfl ?_
  refine sx_iconst (v := 0) k276_14 (by decide) ?_
  refine cx_istore_n (lo2 := [(1, .int (0 : Int32)), (0, .ref 129)]) k276_15 rfl (by rw [mx_276]; decide) rfl ?_
  refine sx_pick (lo2 := [(0, .ref 129), (1, .int (0 : Int32))]) [1, 0] rfl ?_
  exact l276_16_ok gF (0 : Int32) _ _ h
theorem k282_0 : decode (gb 282) 0 = .ok (.aload_n 0, 1) := by decide +kernel
theorem k282_1 : decode (gb 282) 1 = .ok (.getfield 275, 3) := by decide +kernel
theorem k282_4 : decode (gb 282) 4 = .ok (.iconst 1, 1) := by decide +kernel
theorem k282_5 : decode (gb 282) 5 = .ok (.if_icmp .ne 24, 3) := by decide +kernel
theorem k282_8 : decode (gb 282) 8 = .ok (.iload_n 1, 1) := by decide +kernel
theorem k282_9 : decode (gb 282) 9 = .ok (.aload_n 0, 1) := by decide +kernel
theorem k282_10 : decode (gb 282) 10 = .ok (.getfield 204, 3) := by decide +kernel
theorem k282_13 : decode (gb 282) 13 = .ok (.if_icmp .eq 8, 3) := by decide +kernel
theorem k282_16 : decode (gb 282) 16 = .ok (.aload_n 0, 1) := by decide +kernel
theorem k282_17 : decode (gb 282) 17 = .ok (.iload_n 1, 1) := by decide +kernel
theorem k282_18 : decode (gb 282) 18 = .ok (.invokevirtual 265, 3) := by decide +kernel
theorem k282_21 : decode (gb 282) 21 = .ok (.aload_n 0, 1) := by decide +kernel
theorem k282_22 : decode (gb 282) 22 = .ok (.iconst 5, 1) := by decide +kernel
theorem k282_23 : decode (gb 282) 23 = .ok (.invokevirtual 259, 3) := by decide +kernel
theorem k282_26 : decode (gb 282) 26 = .ok (.goto 96, 3) := by decide +kernel
theorem k282_29 : decode (gb 282) 29 = .ok (.iload_n 1, 1) := by decide +kernel
theorem k282_30 : decode (gb 282) 30 = .ok (.aload_n 0, 1) := by decide +kernel
theorem k282_31 : decode (gb 282) 31 = .ok (.getfield 204, 3) := by decide +kernel
theorem k282_34 : decode (gb 282) 34 = .ok (.if_icmp .eq 36, 3) := by decide +kernel
theorem k282_37 : decode (gb 282) 37 = .ok (.aload_n 0, 1) := by decide +kernel
theorem k282_38 : decode (gb 282) 38 = .ok (.iload_n 1, 1) := by decide +kernel
theorem k282_39 : decode (gb 282) 39 = .ok (.invokevirtual 265, 3) := by decide +kernel
theorem k282_42 : decode (gb 282) 42 = .ok (.iload_n 2, 1) := by decide +kernel
theorem k282_43 : decode (gb 282) 43 = .ok (.ifCond .eq 11, 3) := by decide +kernel
theorem k282_46 : decode (gb 282) 46 = .ok (.aload_n 0, 1) := by decide +kernel
theorem k282_47 : decode (gb 282) 47 = .ok (.iconst 3, 1) := by decide +kernel
theorem k282_48 : decode (gb 282) 48 = .ok (.putfield 195, 3) := by decide +kernel
theorem k282_51 : decode (gb 282) 51 = .ok (.goto 71, 3) := by decide +kernel
theorem k282_54 : decode (gb 282) 54 = .ok (.aload_n 0, 1) := by decide +kernel
theorem k282_55 : decode (gb 282) 55 = .ok (.invokevirtual 278, 3) := by decide +kernel
theorem k282_58 : decode (gb 282) 58 = .ok (.aload_n 0, 1) := by decide +kernel
theorem k282_59 : decode (gb 282) 59 = .ok (.iconst 2, 1) := by decide +kernel
theorem k282_60 : decode (gb 282) 60 = .ok (.putfield 195, 3) := by decide +kernel
theorem k282_63 : decode (gb 282) 63 = .ok (.aload_n 0, 1) := by decide +kernel
theorem k282_64 : decode (gb 282) 64 = .ok (.invokevirtual 268, 3) := by decide +kernel
theorem k282_67 : decode (gb 282) 67 = .ok (.goto 55, 3) := by decide +kernel
theorem k282_70 : decode (gb 282) 70 = .ok (.iload_n 2, 1) := by decide +kernel
theorem k282_71 : decode (gb 282) 71 = .ok (.ifCond .eq 11, 3) := by decide +kernel
theorem k282_74 : decode (gb 282) 74 = .ok (.aload_n 0, 1) := by decide +kernel
theorem k282_75 : decode (gb 282) 75 = .ok (.iconst 3, 1) := by decide +kernel
theorem k282_76 : decode (gb 282) 76 = .ok (.putfield 195, 3) := by decide +kernel
theorem k282_79 : decode (gb 282) 79 = .ok (.goto 43, 3) := by decide +kernel
theorem k282_82 : decode (gb 282) 82 = .ok (.aload_n 0, 1) := by decide +kernel
theorem k282_83 : decode (gb 282) 83 = .ok (.getfield 232, 3) := by decide +kernel
theorem k282_86 : decode (gb 282) 86 = .ok (.aload_n 0, 1) := by decide +kernel
theorem k282_87 : decode (gb 282) 87 = .ok (.getfield 275, 3) := by decide +kernel
theorem k282_90 : decode (gb 282) 90 = .ok (.if_icmp .lt 11, 3) := by decide +kernel
theorem k282_93 : decode (gb 282) 93 = .ok (.aload_n 0, 1) := by decide +kernel
theorem k282_94 : decode (gb 282) 94 = .ok (.iconst 2, 1) := by decide +kernel
theorem k282_95 : decode (gb 282) 95 = .ok (.putfield 195, 3) := by decide +kernel
theorem k282_98 : decode (gb 282) 98 = .ok (.goto 24, 3) := by decide +kernel
theorem k282_101 : decode (gb 282) 101 = .ok (.aload_n 0, 1) := by decide +kernel
theorem k282_102 : decode (gb 282) 102 = .ok (.getfield 195, 3) := by decide +kernel
theorem k282_105 : decode (gb 282) 105 = .ok (.iconst 2, 1) := by decide +kernel
theorem k282_106 : decode (gb 282) 106 = .ok (.if_icmp .eq 16, 3) := by decide +kernel
theorem k282_109 : decode (gb 282) 109 = .ok (.aload_n 0, 1) := by decide +kernel
theorem k282_110 : decode (gb 282) 110 = .ok (.invokevirtual 278, 3) := by decide +kernel
theorem k282_113 : decode (gb 282) 113 = .ok (.aload_n 0, 1) := by decide +kernel
theorem k282_114 : decode (gb 282) 114 = .ok (.iconst 2, 1) := by decide +kernel
theorem k282_115 : decode (gb 282) 115 = .ok (.putfield 195, 3) := by decide +kernel
theorem k282_118 : decode (gb 282) 118 = .ok (.aload_n 0, 1) := by decide +kernel
theorem k282_119 : decode (gb 282) 119 = .ok (.invokevirtual 268, 3) := by decide +kernel
theorem k282_122 : decode (gb 282) 122 = .ok (.return_, 1) := by decide +kernel
def c282_21 (μ : Mem) : Option (Mem) :=
  (f279 (5 : Int32) μ).bind fun r1 =>
  some r1
theorem c282_21_ok {L : Nat} (μ : Mem) (res : Mem) (h : c282_21 μ = some res) : Sx 282 21 [(0, .ref 129)] [] 0 0 (mk L μ) (mk L res, none) := by
  unfold c282_21 at h
  refine sx_aload_n (i := 0) k282_21 rfl rfl ?_
  refine sx_iconst (v := 5) k282_22 (by decide) ?_
  obtain ⟨r1, e2, h⟩ := Option.bind_eq_some_iff.mp h
  refine cx_V (sk := []) (vs := [.int (5 : Int32)]) st_282_279 k282_23 ow_282 cl_12_259 (by decide) rfl (Nat.le_of_ble_eq_true rfl) sk_129 (ok279 (5 : Int32) _ _ e2) (sk3 := []) rfl rfl ?_
  refine sx_goto (tgt := 122) k282_26 (by decide) ?_
  exact cx_retv k282_122 rt_282 h
/-- CraftHouseModel.reportAgain(IZ)V -/
def f282 (p1 : Int32) (p2 : Int32) (μ : Mem) : Option (Mem) :=
  if (μ.1 129 32) = (1 : Int32) then
    if p1 = (μ.1 129 30) then
      c282_21 μ
    else
      (f277 p1 μ).bind fun r28 =>
      c282_21 r28
  else
    if p1 = (μ.1 129 30) then
      if p2 = 0 then
        if (μ.1 129 31) < (μ.1 129 32) then
          if (μ.1 129 28) = (2 : Int32) then
            some μ
          else
            (f276 μ).bind fun r6 =>
            (pfI 129 28 (2 : Int32) r6).bind fun m8 =>
            (f275 m8).bind fun r10 =>
            some r10
        else
          (pfI 129 28 (2 : Int32) μ).bind fun m12 =>
          some m12
      else
        (pfI 129 28 (3 : Int32) μ).bind fun m14 =>
        some m14
    else
      (f277 p1 μ).bind fun r16 =>
      if p2 = 0 then
        (f276 r16).bind fun r19 =>
        (pfI 129 28 (2 : Int32) r19).bind fun m21 =>
        (f275 m21).bind fun r23 =>
        some r23
      else
        (pfI 129 28 (3 : Int32) r16).bind fun m25 =>
        some m25
theorem ok282 {L : Nat} (p1 : Int32) (p2 : Int32) (μ : Mem) (res : Mem) (h : f282 p1 p2 μ = some res) : Mx 282 [.ref 129, .int p1, .int p2] (mk L μ) (mk L res, none) := by
  refine Mx_of ml_282 (by rw [mx_282]; exact Nat.le_of_ble_eq_true rfl) ?_
  show Sx 282 0 [(0, .ref 129), (1, .int p1), (2, .int p2)] [] 0 0 (mk L μ) _
  unfold f282 at h
  refine sx_aload_n (i := 0) k282_0 rfl rfl ?_
  refine cx_getI (k := 32) k282_1 ow_282 fl_12_275 (by decide) sk_129 ft_11_32 ?_
  refine sx_iconst (v := 1) k282_4 (by decide) ?_
  by_cases hb1 : (μ.1 129 32) = (1 : Int32)
  · rw [if_pos hb1] at h
    refine sx_icmp_ne (tgt := 29) k282_5 (by decide) (fun q => absurd hb1 q) (fun _ => ?_)
    refine sx_iload_n (i := 1) k282_8 rfl rfl ?_
    refine sx_aload_n (i := 0) k282_9 rfl rfl ?_
    refine cx_getI (k := 30) k282_10 ow_282 fl_12_204 (by decide) sk_129 ft_11_30 ?_
    by_cases hb27 : p1 = (μ.1 129 30)
    · rw [if_pos hb27] at h
      refine sx_icmp_eq (tgt := 21) k282_13 (by decide) (fun _ => ?_) (fun q => absurd hb27 q)
      refine sx_pick (lo2 := [(0, .ref 129)]) [0] rfl ?_
      exact c282_21_ok _ _ h
    · rw [if_neg hb27] at h
      refine sx_icmp_eq (tgt := 21) k282_13 (by decide) (fun q => absurd q hb27) (fun _ => ?_)
      refine sx_aload_n (i := 0) k282_16 rfl rfl ?_
      refine sx_iload_n (i := 1) k282_17 rfl rfl ?_
      obtain ⟨r28, e29, h⟩ := Option.bind_eq_some_iff.mp h
      refine cx_V (sk := []) (vs := [.int p1]) st_282_277 k282_18 ow_282 cl_12_265 (by decide) rfl (Nat.le_of_ble_eq_true rfl) sk_129 (ok277 p1 _ _ e29) (sk3 := []) rfl rfl ?_
      refine sx_pick (lo2 := [(0, .ref 129)]) [0] rfl ?_
      exact c282_21_ok _ _ h
  · rw [if_neg hb1] at h
    refine sx_icmp_ne (tgt := 29) k282_5 (by decide) (fun _ => ?_) (fun q => absurd q hb1)
    refine sx_iload_n (i := 1) k282_29 rfl rfl ?_
    refine sx_aload_n (i := 0) k282_30 rfl rfl ?_
    refine cx_getI (k := 30) k282_31 ow_282 fl_12_204 (by decide) sk_129 ft_11_30 ?_
    by_cases hb2 : p1 = (μ.1 129 30)
    · rw [if_pos hb2] at h
      refine sx_icmp_eq (tgt := 70) k282_34 (by decide) (fun _ => ?_) (fun q => absurd hb2 q)
      refine sx_iload_n (i := 2) k282_70 rfl rfl ?_
      by_cases hb3 : p2 = 0
      · rw [if_pos hb3] at h
        refine sx_if_eq (tgt := 82) k282_71 (by decide) (fun _ => ?_) (fun q => absurd hb3 q)
        refine sx_aload_n (i := 0) k282_82 rfl rfl ?_
        refine cx_getI (k := 31) k282_83 ow_282 fl_12_232 (by decide) sk_129 ft_11_31 ?_
        refine sx_aload_n (i := 0) k282_86 rfl rfl ?_
        refine cx_getI (k := 32) k282_87 ow_282 fl_12_275 (by decide) sk_129 ft_11_32 ?_
        by_cases hb4 : (μ.1 129 31) < (μ.1 129 32)
        · rw [if_pos hb4] at h
          refine sx_icmp_lt (tgt := 101) k282_90 (by decide) (fun _ => ?_) (fun q => absurd hb4 q)
          refine sx_aload_n (i := 0) k282_101 rfl rfl ?_
          refine cx_getI (k := 28) k282_102 ow_282 fl_12_195 (by decide) sk_129 ft_11_28 ?_
          refine sx_iconst (v := 2) k282_105 (by decide) ?_
          by_cases hb5 : (μ.1 129 28) = (2 : Int32)
          · rw [if_pos hb5] at h
            refine sx_icmp_eq (tgt := 122) k282_106 (by decide) (fun _ => ?_) (fun q => absurd hb5 q)
            exact cx_retv k282_122 rt_282 h
          · rw [if_neg hb5] at h
            refine sx_icmp_eq (tgt := 122) k282_106 (by decide) (fun q => absurd q hb5) (fun _ => ?_)
            refine sx_aload_n (i := 0) k282_109 rfl rfl ?_
            obtain ⟨r6, e7, h⟩ := Option.bind_eq_some_iff.mp h
            refine cx_V (sk := []) (vs := []) st_282_276 k282_110 ow_282 cl_12_278 (by decide) rfl (Nat.le_of_ble_eq_true rfl) sk_129 (ok276 _ _ e7) (sk3 := []) rfl rfl ?_
            refine sx_aload_n (i := 0) k282_113 rfl rfl ?_
            refine sx_iconst (v := 2) k282_114 (by decide) ?_
            obtain ⟨m8, e9, h⟩ := Option.bind_eq_some_iff.mp h
            refine cx_putI (k := 28) k282_115 ow_282 fl_12_195 (by decide) sk_129 nf_11_28 fu_11_28 e9 ?_
            refine sx_aload_n (i := 0) k282_118 rfl rfl ?_
            obtain ⟨r10, e11, h⟩ := Option.bind_eq_some_iff.mp h
            refine cx_V (sk := []) (vs := []) st_282_275 k282_119 ow_282 cl_12_268 (by decide) rfl (Nat.le_of_ble_eq_true rfl) sk_129 (ok275 _ _ e11) (sk3 := []) rfl rfl ?_
            exact cx_retv k282_122 rt_282 h
        · rw [if_neg hb4] at h
          refine sx_icmp_lt (tgt := 101) k282_90 (by decide) (fun q => absurd q hb4) (fun _ => ?_)
          refine sx_aload_n (i := 0) k282_93 rfl rfl ?_
          refine sx_iconst (v := 2) k282_94 (by decide) ?_
          obtain ⟨m12, e13, h⟩ := Option.bind_eq_some_iff.mp h
          refine cx_putI (k := 28) k282_95 ow_282 fl_12_195 (by decide) sk_129 nf_11_28 fu_11_28 e13 ?_
          refine sx_goto (tgt := 122) k282_98 (by decide) ?_
          exact cx_retv k282_122 rt_282 h
      · rw [if_neg hb3] at h
        refine sx_if_eq (tgt := 82) k282_71 (by decide) (fun q => absurd q hb3) (fun _ => ?_)
        refine sx_aload_n (i := 0) k282_74 rfl rfl ?_
        refine sx_iconst (v := 3) k282_75 (by decide) ?_
        obtain ⟨m14, e15, h⟩ := Option.bind_eq_some_iff.mp h
        refine cx_putI (k := 28) k282_76 ow_282 fl_12_195 (by decide) sk_129 nf_11_28 fu_11_28 e15 ?_
        refine sx_goto (tgt := 122) k282_79 (by decide) ?_
        exact cx_retv k282_122 rt_282 h
    · rw [if_neg hb2] at h
      refine sx_icmp_eq (tgt := 70) k282_34 (by decide) (fun q => absurd q hb2) (fun _ => ?_)
      refine sx_aload_n (i := 0) k282_37 rfl rfl ?_
      refine sx_iload_n (i := 1) k282_38 rfl rfl ?_
      obtain ⟨r16, e17, h⟩ := Option.bind_eq_some_iff.mp h
      refine cx_V (sk := []) (vs := [.int p1]) st_282_277 k282_39 ow_282 cl_12_265 (by decide) rfl (Nat.le_of_ble_eq_true rfl) sk_129 (ok277 p1 _ _ e17) (sk3 := []) rfl rfl ?_
      refine sx_iload_n (i := 2) k282_42 rfl rfl ?_
      by_cases hb18 : p2 = 0
      · rw [if_pos hb18] at h
        refine sx_if_eq (tgt := 54) k282_43 (by decide) (fun _ => ?_) (fun q => absurd hb18 q)
        refine sx_aload_n (i := 0) k282_54 rfl rfl ?_
        obtain ⟨r19, e20, h⟩ := Option.bind_eq_some_iff.mp h
        refine cx_V (sk := []) (vs := []) st_282_276 k282_55 ow_282 cl_12_278 (by decide) rfl (Nat.le_of_ble_eq_true rfl) sk_129 (ok276 _ _ e20) (sk3 := []) rfl rfl ?_
        refine sx_aload_n (i := 0) k282_58 rfl rfl ?_
        refine sx_iconst (v := 2) k282_59 (by decide) ?_
        obtain ⟨m21, e22, h⟩ := Option.bind_eq_some_iff.mp h
        refine cx_putI (k := 28) k282_60 ow_282 fl_12_195 (by decide) sk_129 nf_11_28 fu_11_28 e22 ?_
        refine sx_aload_n (i := 0) k282_63 rfl rfl ?_
        obtain ⟨r23, e24, h⟩ := Option.bind_eq_some_iff.mp h
        refine cx_V (sk := []) (vs := []) st_282_275 k282_64 ow_282 cl_12_268 (by decide) rfl (Nat.le_of_ble_eq_true rfl) sk_129 (ok275 _ _ e24) (sk3 := []) rfl rfl ?_
        refine sx_goto (tgt := 122) k282_67 (by decide) ?_
        exact cx_retv k282_122 rt_282 h
      · rw [if_neg hb18] at h
        refine sx_if_eq (tgt := 54) k282_43 (by decide) (fun q => absurd q hb18) (fun _ => ?_)
        refine sx_aload_n (i := 0) k282_46 rfl rfl ?_
        refine sx_iconst (v := 3) k282_47 (by decide) ?_
        obtain ⟨m25, e26, h⟩ := Option.bind_eq_some_iff.mp h
        refine cx_putI (k := 28) k282_48 ow_282 fl_12_195 (by decide) sk_129 nf_11_28 fu_11_28 e26 ?_
        refine sx_goto (tgt := 122) k282_51 (by decide) ?_
        exact cx_retv k282_122 rt_282 h
theorem k280_0 : decode (gb 280) 0 = .ok (.aload_n 0, 1) := by decide +kernel
theorem k280_1 : decode (gb 280) 1 = .ok (.getfield 195, 3) := by decide +kernel
theorem k280_4 : decode (gb 280) 4 = .ok (.bipush 6, 2) := by decide +kernel
theorem k280_6 : decode (gb 280) 6 = .ok (.if_icmp .ne 4, 3) := by decide +kernel
theorem k280_9 : decode (gb 280) 9 = .ok (.return_, 1) := by decide +kernel
theorem k280_10 : decode (gb 280) 10 = .ok (.iload_n 2, 1) := by decide +kernel
theorem k280_11 : decode (gb 280) 11 = .ok (.ifCond .eq 17, 3) := by decide +kernel
theorem k280_14 : decode (gb 280) 14 = .ok (.aload_n 0, 1) := by decide +kernel
theorem k280_15 : decode (gb 280) 15 = .ok (.getfield 195, 3) := by decide +kernel
theorem k280_18 : decode (gb 280) 18 = .ok (.iconst 5, 1) := by decide +kernel
theorem k280_19 : decode (gb 280) 19 = .ok (.if_icmp .eq 8, 3) := by decide +kernel
theorem k280_22 : decode (gb 280) 22 = .ok (.aload_n 0, 1) := by decide +kernel
theorem k280_23 : decode (gb 280) 23 = .ok (.iconst 1, 1) := by decide +kernel
theorem k280_24 : decode (gb 280) 24 = .ok (.invokevirtual 259, 3) := by decide +kernel
theorem k280_27 : decode (gb 280) 27 = .ok (.return_, 1) := by decide +kernel
theorem k280_28 : decode (gb 280) 28 = .ok (.iload_n 1, 1) := by decide +kernel
theorem k280_29 : decode (gb 280) 29 = .ok (.aload_n 0, 1) := by decide +kernel
theorem k280_30 : decode (gb 280) 30 = .ok (.getfield 204, 3) := by decide +kernel
theorem k280_33 : decode (gb 280) 33 = .ok (.isub, 1) := by decide +kernel
theorem k280_34 : decode (gb 280) 34 = .ok (.sipush 255, 3) := by decide +kernel
theorem k280_37 : decode (gb 280) 37 = .ok (.iand, 1) := by decide +kernel
theorem k280_38 : decode (gb 280) 38 = .ok (.aload_n 0, 1) := by decide +kernel
theorem k280_39 : decode (gb 280) 39 = .ok (.getfield 235, 3) := by decide +kernel
theorem k280_42 : decode (gb 280) 42 = .ok (.aload_n 0, 1) := by decide +kernel
theorem k280_43 : decode (gb 280) 43 = .ok (.getfield 204, 3) := by decide +kernel
theorem k280_46 : decode (gb 280) 46 = .ok (.isub, 1) := by decide +kernel
theorem k280_47 : decode (gb 280) 47 = .ok (.sipush 255, 3) := by decide +kernel
theorem k280_50 : decode (gb 280) 50 = .ok (.iand, 1) := by decide +kernel
theorem k280_51 : decode (gb 280) 51 = .ok (.if_icmp .le 11, 3) := by decide +kernel
theorem k280_54 : decode (gb 280) 54 = .ok (.aload_n 0, 1) := by decide +kernel
theorem k280_55 : decode (gb 280) 55 = .ok (.iconst 2, 1) := by decide +kernel
theorem k280_56 : decode (gb 280) 56 = .ok (.invokevirtual 259, 3) := by decide +kernel
theorem k280_59 : decode (gb 280) 59 = .ok (.goto 86, 3) := by decide +kernel
theorem k280_62 : decode (gb 280) 62 = .ok (.iload_n 1, 1) := by decide +kernel
theorem k280_63 : decode (gb 280) 63 = .ok (.aload_n 0, 1) := by decide +kernel
theorem k280_64 : decode (gb 280) 64 = .ok (.getfield 235, 3) := by decide +kernel
theorem k280_67 : decode (gb 280) 67 = .ok (.if_icmp .ne 14, 3) := by decide +kernel
theorem k280_70 : decode (gb 280) 70 = .ok (.aload_n 0, 1) := by decide +kernel
theorem k280_71 : decode (gb 280) 71 = .ok (.iload_n 1, 1) := by decide +kernel
theorem k280_72 : decode (gb 280) 72 = .ok (.iload_n 3, 1) := by decide +kernel
theorem k280_73 : decode (gb 280) 73 = .ok (.iload 4, 2) := by decide +kernel
theorem k280_75 : decode (gb 280) 75 = .ok (.invokevirtual 261, 3) := by decide +kernel
theorem k280_78 : decode (gb 280) 78 = .ok (.goto 67, 3) := by decide +kernel
theorem k280_81 : decode (gb 280) 81 = .ok (.iload 4, 2) := by decide +kernel
theorem k280_83 : decode (gb 280) 83 = .ok (.ifCond .ne 56, 3) := by decide +kernel
theorem k280_86 : decode (gb 280) 86 = .ok (.iload_n 3, 1) := by decide +kernel
theorem k280_87 : decode (gb 280) 87 = .ok (.ifCond .eq 11, 3) := by decide +kernel
theorem k280_90 : decode (gb 280) 90 = .ok (.aload_n 0, 1) := by decide +kernel
theorem k280_91 : decode (gb 280) 91 = .ok (.iconst 4, 1) := by decide +kernel
theorem k280_92 : decode (gb 280) 92 = .ok (.invokevirtual 259, 3) := by decide +kernel
theorem k280_95 : decode (gb 280) 95 = .ok (.goto 50, 3) := by decide +kernel
theorem k280_98 : decode (gb 280) 98 = .ok (.iload_n 1, 1) := by decide +kernel
theorem k280_99 : decode (gb 280) 99 = .ok (.aload_n 0, 1) := by decide +kernel
theorem k280_100 : decode (gb 280) 100 = .ok (.getfield 204, 3) := by decide +kernel
theorem k280_103 : decode (gb 280) 103 = .ok (.if_icmp .ne 19, 3) := by decide +kernel
theorem k280_106 : decode (gb 280) 106 = .ok (.aload_n 0, 1) := by decide +kernel
theorem k280_107 : decode (gb 280) 107 = .ok (.getfield 195, 3) := by decide +kernel
theorem k280_110 : decode (gb 280) 110 = .ok (.iconst 1, 1) := by decide +kernel
theorem k280_111 : decode (gb 280) 111 = .ok (.if_icmp .eq 34, 3) := by decide +kernel
theorem k280_114 : decode (gb 280) 114 = .ok (.aload_n 0, 1) := by decide +kernel
theorem k280_115 : decode (gb 280) 115 = .ok (.iconst 3, 1) := by decide +kernel
theorem k280_116 : decode (gb 280) 116 = .ok (.invokevirtual 259, 3) := by decide +kernel
theorem k280_119 : decode (gb 280) 119 = .ok (.goto 26, 3) := by decide +kernel
theorem k280_122 : decode (gb 280) 122 = .ok (.aload_n 0, 1) := by decide +kernel
theorem k280_123 : decode (gb 280) 123 = .ok (.iload_n 1, 1) := by decide +kernel
theorem k280_124 : decode (gb 280) 124 = .ok (.invokevirtual 265, 3) := by decide +kernel
theorem k280_127 : decode (gb 280) 127 = .ok (.aload_n 0, 1) := by decide +kernel
theorem k280_128 : decode (gb 280) 128 = .ok (.iconst 1, 1) := by decide +kernel
theorem k280_129 : decode (gb 280) 129 = .ok (.putfield 195, 3) := by decide +kernel
theorem k280_132 : decode (gb 280) 132 = .ok (.aload_n 0, 1) := by decide +kernel
theorem k280_133 : decode (gb 280) 133 = .ok (.invokevirtual 268, 3) := by decide +kernel
theorem k280_136 : decode (gb 280) 136 = .ok (.goto 9, 3) := by decide +kernel
theorem k280_139 : decode (gb 280) 139 = .ok (.aload_n 0, 1) := by decide +kernel
theorem k280_140 : decode (gb 280) 140 = .ok (.iload_n 1, 1) := by decide +kernel
theorem k280_141 : decode (gb 280) 141 = .ok (.iload_n 3, 1) := by decide +kernel
theorem k280_142 : decode (gb 280) 142 = .ok (.invokevirtual 271, 3) := by decide +kernel
theorem k280_145 : decode (gb 280) 145 = .ok (.return_, 1) := by decide +kernel
/-- CraftHouseModel.report(IZZZ)V -/
def f280 (p1 : Int32) (p2 : Int32) (p3 : Int32) (p4 : Int32) (μ : Mem) : Option (Mem) :=
  if (μ.1 129 28) = (6 : Int32) then
    some μ
  else
    if p2 = 0 then
      if ((p1 - (μ.1 129 30)) &&& (255 : Int32)) ≤ (((μ.1 129 29) - (μ.1 129 30)) &&& (255 : Int32)) then
        if p1 = (μ.1 129 29) then
          (f281 p1 p3 p4 μ).bind fun r21 =>
          some r21
        else
          if p4 = 0 then
            if p3 = 0 then
              if p1 = (μ.1 129 30) then
                if (μ.1 129 28) = (1 : Int32) then
                  some μ
                else
                  (f279 (3 : Int32) μ).bind fun r17 =>
                  some r17
              else
                (f277 p1 μ).bind fun r10 =>
                (pfI 129 28 (1 : Int32) r10).bind fun m12 =>
                (f275 m12).bind fun r14 =>
                some r14
            else
              (f279 (4 : Int32) μ).bind fun r19 =>
              some r19
          else
            (f282 p1 p3 μ).bind fun r6 =>
            some r6
      else
        (f279 (2 : Int32) μ).bind fun r23 =>
        some r23
    else
      if (μ.1 129 28) = (5 : Int32) then
        some μ
      else
        (f279 (1 : Int32) μ).bind fun r26 =>
        some r26
theorem ok280 {L : Nat} (p1 : Int32) (p2 : Int32) (p3 : Int32) (p4 : Int32) (μ : Mem) (res : Mem) (h : f280 p1 p2 p3 p4 μ = some res) : Mx 280 [.ref 129, .int p1, .int p2, .int p3, .int p4] (mk L μ) (mk L res, none) := by
  refine Mx_of ml_280 (by rw [mx_280]; exact Nat.le_of_ble_eq_true rfl) ?_
  show Sx 280 0 [(0, .ref 129), (1, .int p1), (2, .int p2), (3, .int p3), (4, .int p4)] [] 0 0 (mk L μ) _
  unfold f280 at h
  refine sx_aload_n (i := 0) k280_0 rfl rfl ?_
  refine cx_getI (k := 28) k280_1 ow_280 fl_12_195 (by decide) sk_129 ft_11_28 ?_
  refine sx_bipush (v := 6) k280_4 (by decide) ?_
  by_cases hb1 : (μ.1 129 28) = (6 : Int32)
  · rw [if_pos hb1] at h
    refine sx_icmp_ne (tgt := 10) k280_6 (by decide) (fun q => absurd hb1 q) (fun _ => ?_)
    exact cx_retv k280_9 rt_280 h
  · rw [if_neg hb1] at h
    refine sx_icmp_ne (tgt := 10) k280_6 (by decide) (fun _ => ?_) (fun q => absurd q hb1)
    refine sx_iload_n (i := 2) k280_10 rfl rfl ?_
    by_cases hb2 : p2 = 0
    · rw [if_pos hb2] at h
      refine sx_if_eq (tgt := 28) k280_11 (by decide) (fun _ => ?_) (fun q => absurd hb2 q)
      refine sx_iload_n (i := 1) k280_28 rfl rfl ?_
      refine sx_aload_n (i := 0) k280_29 rfl rfl ?_
      refine cx_getI (k := 30) k280_30 ow_280 fl_12_204 (by decide) sk_129 ft_11_30 ?_
      refine sx_isub k280_33 ?_
      refine sx_sipush (v := 255) k280_34 (by decide) ?_
      refine sx_iand k280_37 ?_
      refine sx_aload_n (i := 0) k280_38 rfl rfl ?_
      refine cx_getI (k := 29) k280_39 ow_280 fl_12_235 (by decide) sk_129 ft_11_29 ?_
      refine sx_aload_n (i := 0) k280_42 rfl rfl ?_
      refine cx_getI (k := 30) k280_43 ow_280 fl_12_204 (by decide) sk_129 ft_11_30 ?_
      refine sx_isub k280_46 ?_
      refine sx_sipush (v := 255) k280_47 (by decide) ?_
      refine sx_iand k280_50 ?_
      by_cases hb3 : ((p1 - (μ.1 129 30)) &&& (255 : Int32)) ≤ (((μ.1 129 29) - (μ.1 129 30)) &&& (255 : Int32))
      · rw [if_pos hb3] at h
        refine sx_icmp_le (tgt := 62) k280_51 (by decide) (fun _ => ?_) (fun q => absurd hb3 q)
        refine sx_iload_n (i := 1) k280_62 rfl rfl ?_
        refine sx_aload_n (i := 0) k280_63 rfl rfl ?_
        refine cx_getI (k := 29) k280_64 ow_280 fl_12_235 (by decide) sk_129 ft_11_29 ?_
        by_cases hb4 : p1 = (μ.1 129 29)
        · rw [if_pos hb4] at h
          refine sx_icmp_ne (tgt := 81) k280_67 (by decide) (fun q => absurd hb4 q) (fun _ => ?_)
          refine sx_aload_n (i := 0) k280_70 rfl rfl ?_
          refine sx_iload_n (i := 1) k280_71 rfl rfl ?_
          refine sx_iload_n (i := 3) k280_72 rfl rfl ?_
          refine sx_iload k280_73 rfl ?_
          obtain ⟨r21, e22, h⟩ := Option.bind_eq_some_iff.mp h
          refine cx_V (sk := []) (vs := [.int p1, .int p3, .int p4]) st_280_281 k280_75 ow_280 cl_12_261 (by decide) rfl (Nat.le_of_ble_eq_true rfl) sk_129 (ok281 p1 p3 p4 _ _ e22) (sk3 := []) rfl rfl ?_
          refine sx_goto (tgt := 145) k280_78 (by decide) ?_
          exact cx_retv k280_145 rt_280 h
        · rw [if_neg hb4] at h
          refine sx_icmp_ne (tgt := 81) k280_67 (by decide) (fun _ => ?_) (fun q => absurd q hb4)
          refine sx_iload k280_81 rfl ?_
          by_cases hb5 : p4 = 0
          · rw [if_pos hb5] at h
            refine sx_if_ne (tgt := 139) k280_83 (by decide) (fun q => absurd hb5 q) (fun _ => ?_)
            refine sx_iload_n (i := 3) k280_86 rfl rfl ?_
            by_cases hb8 : p3 = 0
            · rw [if_pos hb8] at h
              refine sx_if_eq (tgt := 98) k280_87 (by decide) (fun _ => ?_) (fun q => absurd hb8 q)
              refine sx_iload_n (i := 1) k280_98 rfl rfl ?_
              refine sx_aload_n (i := 0) k280_99 rfl rfl ?_
              refine cx_getI (k := 30) k280_100 ow_280 fl_12_204 (by decide) sk_129 ft_11_30 ?_
              by_cases hb9 : p1 = (μ.1 129 30)
              · rw [if_pos hb9] at h
                refine sx_icmp_ne (tgt := 122) k280_103 (by decide) (fun q => absurd hb9 q) (fun _ => ?_)
                refine sx_aload_n (i := 0) k280_106 rfl rfl ?_
                refine cx_getI (k := 28) k280_107 ow_280 fl_12_195 (by decide) sk_129 ft_11_28 ?_
                refine sx_iconst (v := 1) k280_110 (by decide) ?_
                by_cases hb16 : (μ.1 129 28) = (1 : Int32)
                · rw [if_pos hb16] at h
                  refine sx_icmp_eq (tgt := 145) k280_111 (by decide) (fun _ => ?_) (fun q => absurd hb16 q)
                  exact cx_retv k280_145 rt_280 h
                · rw [if_neg hb16] at h
                  refine sx_icmp_eq (tgt := 145) k280_111 (by decide) (fun q => absurd q hb16) (fun _ => ?_)
                  refine sx_aload_n (i := 0) k280_114 rfl rfl ?_
                  refine sx_iconst (v := 3) k280_115 (by decide) ?_
                  obtain ⟨r17, e18, h⟩ := Option.bind_eq_some_iff.mp h
                  refine cx_V (sk := []) (vs := [.int (3 : Int32)]) st_280_279 k280_116 ow_280 cl_12_259 (by decide) rfl (Nat.le_of_ble_eq_true rfl) sk_129 (ok279 (3 : Int32) _ _ e18) (sk3 := []) rfl rfl ?_
                  refine sx_goto (tgt := 145) k280_119 (by decide) ?_
                  exact cx_retv k280_145 rt_280 h
              · rw [if_neg hb9] at h
                refine sx_icmp_ne (tgt := 122) k280_103 (by decide) (fun _ => ?_) (fun q => absurd q hb9)
                refine sx_aload_n (i := 0) k280_122 rfl rfl ?_
                refine sx_iload_n (i := 1) k280_123 rfl rfl ?_
                obtain ⟨r10, e11, h⟩ := Option.bind_eq_some_iff.mp h
                refine cx_V (sk := []) (vs := [.int p1]) st_280_277 k280_124 ow_280 cl_12_265 (by decide) rfl (Nat.le_of_ble_eq_true rfl) sk_129 (ok277 p1 _ _ e11) (sk3 := []) rfl rfl ?_
                refine sx_aload_n (i := 0) k280_127 rfl rfl ?_
                refine sx_iconst (v := 1) k280_128 (by decide) ?_
                obtain ⟨m12, e13, h⟩ := Option.bind_eq_some_iff.mp h
                refine cx_putI (k := 28) k280_129 ow_280 fl_12_195 (by decide) sk_129 nf_11_28 fu_11_28 e13 ?_
                refine sx_aload_n (i := 0) k280_132 rfl rfl ?_
                obtain ⟨r14, e15, h⟩ := Option.bind_eq_some_iff.mp h
                refine cx_V (sk := []) (vs := []) st_280_275 k280_133 ow_280 cl_12_268 (by decide) rfl (Nat.le_of_ble_eq_true rfl) sk_129 (ok275 _ _ e15) (sk3 := []) rfl rfl ?_
                refine sx_goto (tgt := 145) k280_136 (by decide) ?_
                exact cx_retv k280_145 rt_280 h
            · rw [if_neg hb8] at h
              refine sx_if_eq (tgt := 98) k280_87 (by decide) (fun q => absurd q hb8) (fun _ => ?_)
              refine sx_aload_n (i := 0) k280_90 rfl rfl ?_
              refine sx_iconst (v := 4) k280_91 (by decide) ?_
              obtain ⟨r19, e20, h⟩ := Option.bind_eq_some_iff.mp h
              refine cx_V (sk := []) (vs := [.int (4 : Int32)]) st_280_279 k280_92 ow_280 cl_12_259 (by decide) rfl (Nat.le_of_ble_eq_true rfl) sk_129 (ok279 (4 : Int32) _ _ e20) (sk3 := []) rfl rfl ?_
              refine sx_goto (tgt := 145) k280_95 (by decide) ?_
              exact cx_retv k280_145 rt_280 h
          · rw [if_neg hb5] at h
            refine sx_if_ne (tgt := 139) k280_83 (by decide) (fun _ => ?_) (fun q => absurd q hb5)
            refine sx_aload_n (i := 0) k280_139 rfl rfl ?_
            refine sx_iload_n (i := 1) k280_140 rfl rfl ?_
            refine sx_iload_n (i := 3) k280_141 rfl rfl ?_
            obtain ⟨r6, e7, h⟩ := Option.bind_eq_some_iff.mp h
            refine cx_V (sk := []) (vs := [.int p1, .int p3]) st_280_282 k280_142 ow_280 cl_12_271 (by decide) rfl (Nat.le_of_ble_eq_true rfl) sk_129 (ok282 p1 p3 _ _ e7) (sk3 := []) rfl rfl ?_
            exact cx_retv k280_145 rt_280 h
      · rw [if_neg hb3] at h
        refine sx_icmp_le (tgt := 62) k280_51 (by decide) (fun q => absurd q hb3) (fun _ => ?_)
        refine sx_aload_n (i := 0) k280_54 rfl rfl ?_
        refine sx_iconst (v := 2) k280_55 (by decide) ?_
        obtain ⟨r23, e24, h⟩ := Option.bind_eq_some_iff.mp h
        refine cx_V (sk := []) (vs := [.int (2 : Int32)]) st_280_279 k280_56 ow_280 cl_12_259 (by decide) rfl (Nat.le_of_ble_eq_true rfl) sk_129 (ok279 (2 : Int32) _ _ e24) (sk3 := []) rfl rfl ?_
        refine sx_goto (tgt := 145) k280_59 (by decide) ?_
        exact cx_retv k280_145 rt_280 h
    · rw [if_neg hb2] at h
      refine sx_if_eq (tgt := 28) k280_11 (by decide) (fun q => absurd q hb2) (fun _ => ?_)
      refine sx_aload_n (i := 0) k280_14 rfl rfl ?_
      refine cx_getI (k := 28) k280_15 ow_280 fl_12_195 (by decide) sk_129 ft_11_28 ?_
      refine sx_iconst (v := 5) k280_18 (by decide) ?_
      by_cases hb25 : (μ.1 129 28) = (5 : Int32)
      · rw [if_pos hb25] at h
        refine sx_icmp_eq (tgt := 27) k280_19 (by decide) (fun _ => ?_) (fun q => absurd hb25 q)
        exact cx_retv k280_27 rt_280 h
      · rw [if_neg hb25] at h
        refine sx_icmp_eq (tgt := 27) k280_19 (by decide) (fun q => absurd q hb25) (fun _ => ?_)
        refine sx_aload_n (i := 0) k280_22 rfl rfl ?_
        refine sx_iconst (v := 1) k280_23 (by decide) ?_
        obtain ⟨r26, e27, h⟩ := Option.bind_eq_some_iff.mp h
        refine cx_V (sk := []) (vs := [.int (1 : Int32)]) st_280_279 k280_24 ow_280 cl_12_259 (by decide) rfl (Nat.le_of_ble_eq_true rfl) sk_129 (ok279 (1 : Int32) _ _ e27) (sk3 := []) rfl rfl ?_
        exact cx_retv k280_27 rt_280 h
theorem k314_0 : decode (gb 314) 0 = .ok (.aload_n 0, 1) := by decide +kernel
theorem k314_1 : decode (gb 314) 1 = .ok (.iload_n 1, 1) := by decide +kernel
theorem k314_2 : decode (gb 314) 2 = .ok (.iaload, 1) := by decide +kernel
theorem k314_3 : decode (gb 314) 3 = .ok (.bipush 24, 2) := by decide +kernel
theorem k314_5 : decode (gb 314) 5 = .ok (.ishl, 1) := by decide +kernel
theorem k314_6 : decode (gb 314) 6 = .ok (.aload_n 0, 1) := by decide +kernel
theorem k314_7 : decode (gb 314) 7 = .ok (.iload_n 1, 1) := by decide +kernel
theorem k314_8 : decode (gb 314) 8 = .ok (.iconst 1, 1) := by decide +kernel
theorem k314_9 : decode (gb 314) 9 = .ok (.iadd, 1) := by decide +kernel
theorem k314_10 : decode (gb 314) 10 = .ok (.iaload, 1) := by decide +kernel
theorem k314_11 : decode (gb 314) 11 = .ok (.bipush 16, 2) := by decide +kernel
theorem k314_13 : decode (gb 314) 13 = .ok (.ishl, 1) := by decide +kernel
theorem k314_14 : decode (gb 314) 14 = .ok (.ior, 1) := by decide +kernel
theorem k314_15 : decode (gb 314) 15 = .ok (.aload_n 0, 1) := by decide +kernel
theorem k314_16 : decode (gb 314) 16 = .ok (.iload_n 1, 1) := by decide +kernel
theorem k314_17 : decode (gb 314) 17 = .ok (.iconst 2, 1) := by decide +kernel
theorem k314_18 : decode (gb 314) 18 = .ok (.iadd, 1) := by decide +kernel
theorem k314_19 : decode (gb 314) 19 = .ok (.iaload, 1) := by decide +kernel
theorem k314_20 : decode (gb 314) 20 = .ok (.bipush 8, 2) := by decide +kernel
theorem k314_22 : decode (gb 314) 22 = .ok (.ishl, 1) := by decide +kernel
theorem k314_23 : decode (gb 314) 23 = .ok (.ior, 1) := by decide +kernel
theorem k314_24 : decode (gb 314) 24 = .ok (.aload_n 0, 1) := by decide +kernel
theorem k314_25 : decode (gb 314) 25 = .ok (.iload_n 1, 1) := by decide +kernel
theorem k314_26 : decode (gb 314) 26 = .ok (.iconst 3, 1) := by decide +kernel
theorem k314_27 : decode (gb 314) 27 = .ok (.iadd, 1) := by decide +kernel
theorem k314_28 : decode (gb 314) 28 = .ok (.iaload, 1) := by decide +kernel
theorem k314_29 : decode (gb 314) 29 = .ok (.ior, 1) := by decide +kernel
theorem k314_30 : decode (gb 314) 30 = .ok (.ireturn, 1) := by decide +kernel
/-- CraftHouseModel.four([II)I -/
def f314 (p1 : Nat) (p2 : Int32) (μ : Mem) : Option (Mem × Int32) :=
  (ldA p1 p2 μ).bind fun x1 =>
  (ldA p1 (p2 + (1 : Int32)) μ).bind fun x3 =>
  (ldA p1 (p2 + (2 : Int32)) μ).bind fun x5 =>
  (ldA p1 (p2 + (3 : Int32)) μ).bind fun x7 =>
  some (μ, ((((jshl x1 (24 : Int32)) ||| (jshl x3 (16 : Int32))) ||| (jshl x5 (8 : Int32))) ||| x7))
theorem ok314 {L : Nat} (p1 : Nat) (p2 : Int32) (h1 : SK0 p1 = (1, gln p1)) (μ : Mem) (res : Mem × Int32) (h : f314 p1 p2 μ = some res) : Mx 314 [.ref p1, .int p2] (mk L μ) (mk L res.1, some (.int res.2)) := by
  refine Mx_of ml_314 (by rw [mx_314]; exact Nat.le_of_ble_eq_true rfl) ?_
  show Sx 314 0 [(0, .ref p1), (1, .int p2)] [] 0 0 (mk L μ) _
  unfold f314 at h
  refine sx_aload_n (i := 0) k314_0 rfl rfl ?_
  refine sx_iload_n (i := 1) k314_1 rfl rfl ?_
  obtain ⟨x1, e2, h⟩ := Option.bind_eq_some_iff.mp h
  refine cx_iald k314_2 h1 e2 ?_
  refine sx_bipush (v := 24) k314_3 (by decide) ?_
  refine sx_ishl k314_5 ?_
  refine sx_aload_n (i := 0) k314_6 rfl rfl ?_
  refine sx_iload_n (i := 1) k314_7 rfl rfl ?_
  refine sx_iconst (v := 1) k314_8 (by decide) ?_
  refine sx_iadd k314_9 ?_
  obtain ⟨x3, e4, h⟩ := Option.bind_eq_some_iff.mp h
  refine cx_iald k314_10 h1 e4 ?_
  refine sx_bipush (v := 16) k314_11 (by decide) ?_
  refine sx_ishl k314_13 ?_
  refine sx_ior k314_14 ?_
  refine sx_aload_n (i := 0) k314_15 rfl rfl ?_
  refine sx_iload_n (i := 1) k314_16 rfl rfl ?_
  refine sx_iconst (v := 2) k314_17 (by decide) ?_
  refine sx_iadd k314_18 ?_
  obtain ⟨x5, e6, h⟩ := Option.bind_eq_some_iff.mp h
  refine cx_iald k314_19 h1 e6 ?_
  refine sx_bipush (v := 8) k314_20 (by decide) ?_
  refine sx_ishl k314_22 ?_
  refine sx_ior k314_23 ?_
  refine sx_aload_n (i := 0) k314_24 rfl rfl ?_
  refine sx_iload_n (i := 1) k314_25 rfl rfl ?_
  refine sx_iconst (v := 3) k314_26 (by decide) ?_
  refine sx_iadd k314_27 ?_
  obtain ⟨x7, e8, h⟩ := Option.bind_eq_some_iff.mp h
  refine cx_iald k314_28 h1 e8 ?_
  refine sx_ior k314_29 ?_
  exact cx_reti k314_30 rt_314 h
theorem k347_0 : decode (gb 347) 0 = .ok (.iconst 0, 1) := by decide +kernel
theorem k347_1 : decode (gb 347) 1 = .ok (.istore 5, 2) := by decide +kernel
theorem k347_3 : decode (gb 347) 3 = .ok (.iload 5, 2) := by decide +kernel
theorem k347_5 : decode (gb 347) 5 = .ok (.iload_n 2, 1) := by decide +kernel
theorem k347_6 : decode (gb 347) 6 = .ok (.if_icmp .ge 102, 3) := by decide +kernel
theorem k347_9 : decode (gb 347) 9 = .ok (.iload_n 1, 1) := by decide +kernel
theorem k347_10 : decode (gb 347) 10 = .ok (.iconst 5, 1) := by decide +kernel
theorem k347_11 : decode (gb 347) 11 = .ok (.iload 5, 2) := by decide +kernel
theorem k347_13 : decode (gb 347) 13 = .ok (.imul, 1) := by decide +kernel
theorem k347_14 : decode (gb 347) 14 = .ok (.iadd, 1) := by decide +kernel
theorem k347_15 : decode (gb 347) 15 = .ok (.iconst 5, 1) := by decide +kernel
theorem k347_16 : decode (gb 347) 16 = .ok (.iadd, 1) := by decide +kernel
theorem k347_17 : decode (gb 347) 17 = .ok (.iload_n 3, 1) := by decide +kernel
theorem k347_18 : decode (gb 347) 18 = .ok (.if_icmp .gt 90, 3) := by decide +kernel
theorem k347_21 : decode (gb 347) 21 = .ok (.aload_n 0, 1) := by decide +kernel
theorem k347_22 : decode (gb 347) 22 = .ok (.getfield 390, 3) := by decide +kernel
theorem k347_25 : decode (gb 347) 25 = .ok (.iload_n 1, 1) := by decide +kernel
theorem k347_26 : decode (gb 347) 26 = .ok (.iconst 5, 1) := by decide +kernel
theorem k347_27 : decode (gb 347) 27 = .ok (.iload 5, 2) := by decide +kernel
theorem k347_29 : decode (gb 347) 29 = .ok (.imul, 1) := by decide +kernel
theorem k347_30 : decode (gb 347) 30 = .ok (.iadd, 1) := by decide +kernel
theorem k347_31 : decode (gb 347) 31 = .ok (.iaload, 1) := by decide +kernel
theorem k347_32 : decode (gb 347) 32 = .ok (.istore 6, 2) := by decide +kernel
theorem k347_34 : decode (gb 347) 34 = .ok (.iload 6, 2) := by decide +kernel
theorem k347_36 : decode (gb 347) 36 = .ok (.bipush 24, 2) := by decide +kernel
theorem k347_38 : decode (gb 347) 38 = .ok (.if_icmp .ge 64, 3) := by decide +kernel
theorem k347_41 : decode (gb 347) 41 = .ok (.aload_n 0, 1) := by decide +kernel
theorem k347_42 : decode (gb 347) 42 = .ok (.getfield 748, 3) := by decide +kernel
theorem k347_45 : decode (gb 347) 45 = .ok (.iload 6, 2) := by decide +kernel
theorem k347_47 : decode (gb 347) 47 = .ok (.baload, 1) := by decide +kernel
theorem k347_48 : decode (gb 347) 48 = .ok (.ifCond .eq 15, 3) := by decide +kernel
theorem k347_51 : decode (gb 347) 51 = .ok (.iload 4, 2) := by decide +kernel
theorem k347_53 : decode (gb 347) 53 = .ok (.aload_n 0, 1) := by decide +kernel
theorem k347_54 : decode (gb 347) 54 = .ok (.getfield 751, 3) := by decide +kernel
theorem k347_57 : decode (gb 347) 57 = .ok (.iload 6, 2) := by decide +kernel
theorem k347_59 : decode (gb 347) 59 = .ok (.iaload, 1) := by decide +kernel
theorem k347_60 : decode (gb 347) 60 = .ok (.if_icmp .lt 42, 3) := by decide +kernel
theorem k347_63 : decode (gb 347) 63 = .ok (.aload_n 0, 1) := by decide +kernel
theorem k347_64 : decode (gb 347) 64 = .ok (.getfield 748, 3) := by decide +kernel
theorem k347_67 : decode (gb 347) 67 = .ok (.iload 6, 2) := by decide +kernel
theorem k347_69 : decode (gb 347) 69 = .ok (.iconst 1, 1) := by decide +kernel
theorem k347_70 : decode (gb 347) 70 = .ok (.bastore, 1) := by decide +kernel
theorem k347_71 : decode (gb 347) 71 = .ok (.aload_n 0, 1) := by decide +kernel
theorem k347_72 : decode (gb 347) 72 = .ok (.getfield 754, 3) := by decide +kernel
theorem k347_75 : decode (gb 347) 75 = .ok (.iload 6, 2) := by decide +kernel
theorem k347_77 : decode (gb 347) 77 = .ok (.aload_n 0, 1) := by decide +kernel
theorem k347_78 : decode (gb 347) 78 = .ok (.getfield 390, 3) := by decide +kernel
theorem k347_81 : decode (gb 347) 81 = .ok (.iload_n 1, 1) := by decide +kernel
theorem k347_82 : decode (gb 347) 82 = .ok (.iconst 5, 1) := by decide +kernel
theorem k347_83 : decode (gb 347) 83 = .ok (.iload 5, 2) := by decide +kernel
theorem k347_85 : decode (gb 347) 85 = .ok (.imul, 1) := by decide +kernel
theorem k347_86 : decode (gb 347) 86 = .ok (.iadd, 1) := by decide +kernel
theorem k347_87 : decode (gb 347) 87 = .ok (.iconst 1, 1) := by decide +kernel
theorem k347_88 : decode (gb 347) 88 = .ok (.iadd, 1) := by decide +kernel
theorem k347_89 : decode (gb 347) 89 = .ok (.invokestatic 545, 3) := by decide +kernel
theorem k347_92 : decode (gb 347) 92 = .ok (.iastore, 1) := by decide +kernel
theorem k347_93 : decode (gb 347) 93 = .ok (.aload_n 0, 1) := by decide +kernel
theorem k347_94 : decode (gb 347) 94 = .ok (.getfield 751, 3) := by decide +kernel
theorem k347_97 : decode (gb 347) 97 = .ok (.iload 6, 2) := by decide +kernel
theorem k347_99 : decode (gb 347) 99 = .ok (.iload 4, 2) := by decide +kernel
theorem k347_101 : decode (gb 347) 101 = .ok (.iastore, 1) := by decide +kernel
theorem k347_102 : decode (gb 347) 102 = .ok (.iinc 5 1, 3) := by decide +kernel
theorem k347_105 : decode (gb 347) 105 = .ok (.goto (-102), 3) := by decide +kernel
theorem k347_108 : decode (gb 347) 108 = .ok (.return_, 1) := by decide +kernel
def c347_102 (kl3 : Int32 → Int32 → Int32 → Int32 → Int32 → Mem → Option (Mem)) (v1 : Int32) (v2 : Int32) (v3 : Int32) (v4 : Int32) (v5 : Int32) (μ : Mem) : Option (Mem) :=
  nm (v5 + (1 : Int32)) fun x1 =>
  kl3 v1 v2 v3 v4 x1 μ
theorem c347_102_ok {L : Nat} (kl3 : Int32 → Int32 → Int32 → Int32 → Int32 → Mem → Option (Mem)) (hk3 : (∀ (v1 : Int32) (v2 : Int32) (v3 : Int32) (v4 : Int32) (v5 : Int32) (μ : Mem) (res : Mem), kl3 v1 v2 v3 v4 v5 μ = some res → Sx 347 3 [(0, .ref 129), (1, .int v1), (2, .int v2), (3, .int v3), (4, .int v4), (5, .int v5)] [] 0 0 (mk L μ) (mk L res, none))) (v1 : Int32) (v2 : Int32) (v3 : Int32) (v4 : Int32) (v5 : Int32) (μ : Mem) (res : Mem) (h : c347_102 kl3 v1 v2 v3 v4 v5 μ = some res) : Sx 347 102 [(0, .ref 129), (1, .int v1), (2, .int v2), (3, .int v3), (4, .int v4), (5, .int v5)] [] 0 0 (mk L μ) (mk L res, none) := by
  unfold c347_102 at h
  refine cx_iinc (c := 1) (lo2 := fun x1 => [(5, .int x1), (0, .ref 129), (1, .int v1), (2, .int v2), (3, .int v3), (4, .int v4)]) k347_102 rfl (by decide) (by rw [mx_347]; decide) (fun _ => rfl) h (fun x1 h => ?_)
  refine sx_goto (tgt := 3) k347_105 (by decide) ?_
  refine sx_pick (lo2 := [(0, .ref 129), (1, .int v1), (2, .int v2), (3, .int v3), (4, .int v4), (5, .int x1)]) [1, 2, 3, 4, 5, 0] rfl ?_
  exact hk3 v1 v2 v3 v4 x1 _ _ h
def c347_63 (kl3 : Int32 → Int32 → Int32 → Int32 → Int32 → Mem → Option (Mem)) (v1 : Int32) (v2 : Int32) (v3 : Int32) (v4 : Int32) (v5 : Int32) (v6 : Int32) (μ : Mem) : Option (Mem) :=
  (stZ 218 v6 (1 : Int32) μ).bind fun m1 =>
  (f314 161 ((v1 + ((5 : Int32) * v5)) + (1 : Int32)) m1).bind fun r3 =>
  (stA 219 v6 r3.2 r3.1).bind fun m5 =>
  (stA 220 v6 v4 m5).bind fun m7 =>
  c347_102 kl3 v1 v2 v3 v4 v5 m7
theorem c347_63_ok {L : Nat} (kl3 : Int32 → Int32 → Int32 → Int32 → Int32 → Mem → Option (Mem)) (hk3 : (∀ (v1 : Int32) (v2 : Int32) (v3 : Int32) (v4 : Int32) (v5 : Int32) (μ : Mem) (res : Mem), kl3 v1 v2 v3 v4 v5 μ = some res → Sx 347 3 [(0, .ref 129), (1, .int v1), (2, .int v2), (3, .int v3), (4, .int v4), (5, .int v5)] [] 0 0 (mk L μ) (mk L res, none))) (v1 : Int32) (v2 : Int32) (v3 : Int32) (v4 : Int32) (v5 : Int32) (v6 : Int32) (μ : Mem) (res : Mem) (h : c347_63 kl3 v1 v2 v3 v4 v5 v6 μ = some res) : Sx 347 63 [(0, .ref 129), (1, .int v1), (2, .int v2), (3, .int v3), (4, .int v4), (5, .int v5), (6, .int v6)] [] 0 0 (mk L μ) (mk L res, none) := by
  unfold c347_63 at h
  refine sx_aload_n (i := 0) k347_63 rfl rfl ?_
  refine cx_getR (k := 151) k347_64 ow_347 fl_12_748 (by decide) sk_129 ft_11_151 sr_129_151 ?_
  refine sx_iload k347_67 rfl ?_
  refine sx_iconst (v := 1) k347_69 (by decide) ?_
  obtain ⟨m1, e2, h⟩ := Option.bind_eq_some_iff.mp h
  refine cx_zast k347_70 sk_218 e2 ?_
  refine sx_aload_n (i := 0) k347_71 rfl rfl ?_
  refine cx_getR (k := 152) k347_72 ow_347 fl_12_754 (by decide) sk_129 ft_11_152 sr_129_152 ?_
  refine sx_iload k347_75 rfl ?_
  refine sx_aload_n (i := 0) k347_77 rfl rfl ?_
  refine cx_getR (k := 76) k347_78 ow_347 fl_12_390 (by decide) sk_129 ft_11_76 sr_129_76 ?_
  refine sx_iload_n (i := 1) k347_81 rfl rfl ?_
  refine sx_iconst (v := 5) k347_82 (by decide) ?_
  refine sx_iload k347_83 rfl ?_
  refine sx_imul k347_85 ?_
  refine sx_iadd k347_86 ?_
  refine sx_iconst (v := 1) k347_87 (by decide) ?_
  refine sx_iadd k347_88 ?_
  obtain ⟨r3, e4, h⟩ := Option.bind_eq_some_iff.mp h
  refine cx_S (sk := [.int v6, .ref 219]) (vs := [.ref 161, .int ((v1 + ((5 : Int32) * v5)) + (1 : Int32))]) st_347_314 k347_89 ow_347 cl_12_545 (by decide) rfl (Nat.le_of_ble_eq_true rfl) (ok314 161 ((v1 + ((5 : Int32) * v5)) + (1 : Int32)) sk_161 _ _ e4) (sk3 := [.int r3.2, .int v6, .ref 219]) rfl rfl ?_
  obtain ⟨m5, e6, h⟩ := Option.bind_eq_some_iff.mp h
  refine cx_iast k347_92 sk_219 e6 ?_
  refine sx_aload_n (i := 0) k347_93 rfl rfl ?_
  refine cx_getR (k := 153) k347_94 ow_347 fl_12_751 (by decide) sk_129 ft_11_153 sr_129_153 ?_
  refine sx_iload k347_97 rfl ?_
  refine sx_iload k347_99 rfl ?_
  obtain ⟨m7, e8, h⟩ := Option.bind_eq_some_iff.mp h
  refine cx_iast k347_101 sk_220 e8 ?_
  refine sx_pick (lo2 := [(0, .ref 129), (1, .int v1), (2, .int v2), (3, .int v3), (4, .int v4), (5, .int v5)]) [0, 1, 2, 3, 4, 5] rfl ?_
  exact c347_102_ok kl3 hk3 v1 v2 v3 v4 v5 _ _ h
def b347_3 (kl3 : Int32 → Int32 → Int32 → Int32 → Int32 → Mem → Option (Mem)) (v1 : Int32) (v2 : Int32) (v3 : Int32) (v4 : Int32) (v5 : Int32) (μ : Mem) : Option (Mem) :=
  if v2 ≤ v5 then
    some μ
  else
    if v3 < ((v1 + ((5 : Int32) * v5)) + (5 : Int32)) then
      some μ
    else
      (ldA 161 (v1 + ((5 : Int32) * v5)) μ).bind fun x3 =>
      if (24 : Int32) ≤ x3 then
        c347_102 kl3 v1 v2 v3 v4 v5 μ
      else
        (ldA 218 x3 μ).bind fun x6 =>
        if x6 = 0 then
          c347_63 kl3 v1 v2 v3 v4 v5 x3 μ
        else
          (ldA 220 x3 μ).bind fun x9 =>
          if v4 < x9 then
            c347_102 kl3 v1 v2 v3 v4 v5 μ
          else
            c347_63 kl3 v1 v2 v3 v4 v5 x3 μ
theorem b347_3_ok {L : Nat} (kl3 : Int32 → Int32 → Int32 → Int32 → Int32 → Mem → Option (Mem)) (hk3 : (∀ (v1 : Int32) (v2 : Int32) (v3 : Int32) (v4 : Int32) (v5 : Int32) (μ : Mem) (res : Mem), kl3 v1 v2 v3 v4 v5 μ = some res → Sx 347 3 [(0, .ref 129), (1, .int v1), (2, .int v2), (3, .int v3), (4, .int v4), (5, .int v5)] [] 0 0 (mk L μ) (mk L res, none))) (v1 : Int32) (v2 : Int32) (v3 : Int32) (v4 : Int32) (v5 : Int32) (μ : Mem) (res : Mem) (h : b347_3 kl3 v1 v2 v3 v4 v5 μ = some res) : Sx 347 3 [(0, .ref 129), (1, .int v1), (2, .int v2), (3, .int v3), (4, .int v4), (5, .int v5)] [] 0 0 (mk L μ) (mk L res, none) := by
  unfold b347_3 at h
  refine sx_iload k347_3 rfl ?_
  refine sx_iload_n (i := 2) k347_5 rfl rfl ?_
  by_cases hb1 : v2 ≤ v5
  · rw [if_pos hb1] at h
    refine sx_icmp_ge (tgt := 108) k347_6 (by decide) (fun _ => ?_) (fun q => absurd hb1 q)
    exact cx_retv k347_108 rt_347 h
  · rw [if_neg hb1] at h
    refine sx_icmp_ge (tgt := 108) k347_6 (by decide) (fun q => absurd q hb1) (fun _ => ?_)
    refine sx_iload_n (i := 1) k347_9 rfl rfl ?_
    refine sx_iconst (v := 5) k347_10 (by decide) ?_
    refine sx_iload k347_11 rfl ?_
    refine sx_imul k347_13 ?_
    refine sx_iadd k347_14 ?_
    refine sx_iconst (v := 5) k347_15 (by decide) ?_
    refine sx_iadd k347_16 ?_
    refine sx_iload_n (i := 3) k347_17 rfl rfl ?_
    by_cases hb2 : v3 < ((v1 + ((5 : Int32) * v5)) + (5 : Int32))
    · rw [if_pos hb2] at h
      refine sx_icmp_gt (tgt := 108) k347_18 (by decide) (fun _ => ?_) (fun q => absurd hb2 q)
      exact cx_retv k347_108 rt_347 h
    · rw [if_neg hb2] at h
      refine sx_icmp_gt (tgt := 108) k347_18 (by decide) (fun q => absurd q hb2) (fun _ => ?_)
      refine sx_aload_n (i := 0) k347_21 rfl rfl ?_
      refine cx_getR (k := 76) k347_22 ow_347 fl_12_390 (by decide) sk_129 ft_11_76 sr_129_76 ?_
      refine sx_iload_n (i := 1) k347_25 rfl rfl ?_
      refine sx_iconst (v := 5) k347_26 (by decide) ?_
      refine sx_iload k347_27 rfl ?_
      refine sx_imul k347_29 ?_
      refine sx_iadd k347_30 ?_
      obtain ⟨x3, e4, h⟩ := Option.bind_eq_some_iff.mp h
      refine cx_iald k347_31 sk_161 e4 ?_
      refine cx_istore (lo2 := [(6, .int x3), (0, .ref 129), (1, .int v1), (2, .int v2), (3, .int v3), (4, .int v4), (5, .int v5)]) k347_32 (by rw [mx_347]; decide) rfl ?_
      refine sx_iload k347_34 rfl ?_
      refine sx_bipush (v := 24) k347_36 (by decide) ?_
      by_cases hb5 : (24 : Int32) ≤ x3
      · rw [if_pos hb5] at h
        refine sx_icmp_ge (tgt := 102) k347_38 (by decide) (fun _ => ?_) (fun q => absurd hb5 q)
        refine sx_pick (lo2 := [(0, .ref 129), (1, .int v1), (2, .int v2), (3, .int v3), (4, .int v4), (5, .int v5)]) [1, 2, 3, 4, 5, 6] rfl ?_
        exact c347_102_ok kl3 hk3 v1 v2 v3 v4 v5 _ _ h
      · rw [if_neg hb5] at h
        refine sx_icmp_ge (tgt := 102) k347_38 (by decide) (fun q => absurd q hb5) (fun _ => ?_)
        refine sx_aload_n (i := 0) k347_41 rfl rfl ?_
        refine cx_getR (k := 151) k347_42 ow_347 fl_12_748 (by decide) sk_129 ft_11_151 sr_129_151 ?_
        refine sx_iload k347_45 rfl ?_
        obtain ⟨x6, e7, h⟩ := Option.bind_eq_some_iff.mp h
        refine cx_bald k347_47 (Or.inr sk_218) e7 ?_
        by_cases hb8 : x6 = 0
        · rw [if_pos hb8] at h
          refine sx_if_eq (tgt := 63) k347_48 (by decide) (fun _ => ?_) (fun q => absurd hb8 q)
          refine sx_pick (lo2 := [(0, .ref 129), (1, .int v1), (2, .int v2), (3, .int v3), (4, .int v4), (5, .int v5), (6, .int x3)]) [1, 2, 3, 4, 5, 6, 0] rfl ?_
          exact c347_63_ok kl3 hk3 v1 v2 v3 v4 v5 x3 _ _ h
        · rw [if_neg hb8] at h
          refine sx_if_eq (tgt := 63) k347_48 (by decide) (fun q => absurd q hb8) (fun _ => ?_)
          refine sx_iload k347_51 rfl ?_
          refine sx_aload_n (i := 0) k347_53 rfl rfl ?_
          refine cx_getR (k := 153) k347_54 ow_347 fl_12_751 (by decide) sk_129 ft_11_153 sr_129_153 ?_
          refine sx_iload k347_57 rfl ?_
          obtain ⟨x9, e10, h⟩ := Option.bind_eq_some_iff.mp h
          refine cx_iald k347_59 sk_220 e10 ?_
          by_cases hb11 : v4 < x9
          · rw [if_pos hb11] at h
            refine sx_icmp_lt (tgt := 102) k347_60 (by decide) (fun _ => ?_) (fun q => absurd hb11 q)
            refine sx_pick (lo2 := [(0, .ref 129), (1, .int v1), (2, .int v2), (3, .int v3), (4, .int v4), (5, .int v5)]) [1, 2, 3, 4, 5, 6] rfl ?_
            exact c347_102_ok kl3 hk3 v1 v2 v3 v4 v5 _ _ h
          · rw [if_neg hb11] at h
            refine sx_icmp_lt (tgt := 102) k347_60 (by decide) (fun q => absurd q hb11) (fun _ => ?_)
            refine sx_pick (lo2 := [(0, .ref 129), (1, .int v1), (2, .int v2), (3, .int v3), (4, .int v4), (5, .int v5), (6, .int x3)]) [1, 2, 3, 4, 5, 6, 0] rfl ?_
            exact c347_63_ok kl3 hk3 v1 v2 v3 v4 v5 x3 _ _ h
def l347_3 : Nat → Int32 × Int32 × Int32 × Int32 × Int32 × Mem → Option (Mem) :=
  fixN (fun self x => b347_3 (fun v1 v2 v3 v4 v5 μ => self (v1, v2, v3, v4, v5, μ)) (x.1) (x.2.1) (x.2.2.1) (x.2.2.2.1) (x.2.2.2.2.1) (x.2.2.2.2.2))
theorem l347_3_ok {L : Nat} (n : Nat) (v1 : Int32) (v2 : Int32) (v3 : Int32) (v4 : Int32) (v5 : Int32) (μ : Mem) (res : Mem) (h : l347_3 n (v1, v2, v3, v4, v5, μ) = some res) : Sx 347 3 [(0, .ref 129), (1, .int v1), (2, .int v2), (3, .int v3), (4, .int v4), (5, .int v5)] [] 0 0 (mk L μ) (mk L res, none) := by
  have key := fixN_ind (P := fun x res => Sx 347 3 [(0, .ref 129), (1, .int (x.1)), (2, .int (x.2.1)), (3, .int (x.2.2.1)), (4, .int (x.2.2.2.1)), (5, .int (x.2.2.2.2.1))] [] 0 0 (mk L (x.2.2.2.2.2)) (mk L res, none)) (F := fun self x => b347_3 (fun v1 v2 v3 v4 v5 μ => self (v1, v2, v3, v4, v5, μ)) (x.1) (x.2.1) (x.2.2.1) (x.2.2.2.1) (x.2.2.2.2.1) (x.2.2.2.2.2)) (fun self hself x res h => b347_3_ok (fun v1 v2 v3 v4 v5 μ => self (v1, v2, v3, v4, v5, μ)) (fun v1 v2 v3 v4 v5 μ res hh => hself (v1, v2, v3, v4, v5, μ) res hh) (x.1) (x.2.1) (x.2.2.1) (x.2.2.2.1) (x.2.2.2.2.1) (x.2.2.2.2.2) res h) n (v1, v2, v3, v4, v5, μ) res h
  exact key
/-- CraftHouseModel.shows(IIII)V -/
def f347 (p1 : Int32) (p2 : Int32) (p3 : Int32) (p4 : Int32) (μ : Mem) : Option (Mem) :=
  l347_3 gF (p1, p2, p3, p4, (0 : Int32), μ)
theorem ok347 {L : Nat} (p1 : Int32) (p2 : Int32) (p3 : Int32) (p4 : Int32) (μ : Mem) (res : Mem) (h : f347 p1 p2 p3 p4 μ = some res) : Mx 347 [.ref 129, .int p1, .int p2, .int p3, .int p4] (mk L μ) (mk L res, none) := by
  refine Mx_of ml_347 (by rw [mx_347]; exact Nat.le_of_ble_eq_true rfl) ?_
  show Sx 347 0 [(0, .ref 129), (1, .int p1), (2, .int p2), (3, .int p3), (4, .int p4)] [] 0 0 (mk L μ) _
  unfold f347 at h
  refine sx_iconst (v := 0) k347_0 (by decide) ?_
  refine cx_istore (lo2 := [(5, .int (0 : Int32)), (0, .ref 129), (1, .int p1), (2, .int p2), (3, .int p3), (4, .int p4)]) k347_1 (by rw [mx_347]; decide) rfl ?_
  refine sx_pick (lo2 := [(0, .ref 129), (1, .int p1), (2, .int p2), (3, .int p3), (4, .int p4), (5, .int (0 : Int32))]) [1, 2, 3, 4, 5, 0] rfl ?_
  exact l347_3_ok gF p1 p2 p3 p4 (0 : Int32) _ _ h
theorem k348_0 : decode (gb 348) 0 = .ok (.iload_n 1, 1) := by decide +kernel
theorem k348_1 : decode (gb 348) 1 = .ok (.iconst 2, 1) := by decide +kernel
theorem k348_2 : decode (gb 348) 2 = .ok (.if_icmp .eq 14, 3) := by decide +kernel
theorem k348_5 : decode (gb 348) 5 = .ok (.iload_n 1, 1) := by decide +kernel
theorem k348_6 : decode (gb 348) 6 = .ok (.iconst 4, 1) := by decide +kernel
theorem k348_7 : decode (gb 348) 7 = .ok (.if_icmp .eq 9, 3) := by decide +kernel
theorem k348_10 : decode (gb 348) 10 = .ok (.iload_n 1, 1) := by decide +kernel
theorem k348_11 : decode (gb 348) 11 = .ok (.bipush 8, 2) := by decide +kernel
theorem k348_13 : decode (gb 348) 13 = .ok (.if_icmp .ne 7, 3) := by decide +kernel
theorem k348_16 : decode (gb 348) 16 = .ok (.iconst 1, 1) := by decide +kernel
theorem k348_17 : decode (gb 348) 17 = .ok (.goto 4, 3) := by decide +kernel
theorem k348_20 : decode (gb 348) 20 = .ok (.iconst 0, 1) := by decide +kernel
theorem k348_21 : decode (gb 348) 21 = .ok (.istore 4, 2) := by decide +kernel
theorem k348_23 : decode (gb 348) 23 = .ok (.iload_n 1, 1) := by decide +kernel
theorem k348_24 : decode (gb 348) 24 = .ok (.iconst 1, 1) := by decide +kernel
theorem k348_25 : decode (gb 348) 25 = .ok (.if_icmp .eq 14, 3) := by decide +kernel
theorem k348_28 : decode (gb 348) 28 = .ok (.iload_n 1, 1) := by decide +kernel
theorem k348_29 : decode (gb 348) 29 = .ok (.iconst 3, 1) := by decide +kernel
theorem k348_30 : decode (gb 348) 30 = .ok (.if_icmp .eq 9, 3) := by decide +kernel
theorem k348_33 : decode (gb 348) 33 = .ok (.iload_n 1, 1) := by decide +kernel
theorem k348_34 : decode (gb 348) 34 = .ok (.bipush 7, 2) := by decide +kernel
theorem k348_36 : decode (gb 348) 36 = .ok (.if_icmp .ne 7, 3) := by decide +kernel
theorem k348_39 : decode (gb 348) 39 = .ok (.iconst 1, 1) := by decide +kernel
theorem k348_40 : decode (gb 348) 40 = .ok (.goto 4, 3) := by decide +kernel
theorem k348_43 : decode (gb 348) 43 = .ok (.iconst 0, 1) := by decide +kernel
theorem k348_44 : decode (gb 348) 44 = .ok (.istore 5, 2) := by decide +kernel
theorem k348_46 : decode (gb 348) 46 = .ok (.iload 4, 2) := by decide +kernel
theorem k348_48 : decode (gb 348) 48 = .ok (.ifCond .ne 8, 3) := by decide +kernel
theorem k348_51 : decode (gb 348) 51 = .ok (.iload 5, 2) := by decide +kernel
theorem k348_53 : decode (gb 348) 53 = .ok (.ifCond .eq 17, 3) := by decide +kernel
theorem k348_56 : decode (gb 348) 56 = .ok (.iload_n 3, 1) := by decide +kernel
theorem k348_57 : decode (gb 348) 57 = .ok (.iload 4, 2) := by decide +kernel
theorem k348_59 : decode (gb 348) 59 = .ok (.ifCond .eq 7, 3) := by decide +kernel
theorem k348_62 : decode (gb 348) 62 = .ok (.iconst 3, 1) := by decide +kernel
theorem k348_63 : decode (gb 348) 63 = .ok (.goto 4, 3) := by decide +kernel
theorem k348_66 : decode (gb 348) 66 = .ok (.iconst 2, 1) := by decide +kernel
theorem k348_67 : decode (gb 348) 67 = .ok (.if_icmp .ge 4, 3) := by decide +kernel
theorem k348_70 : decode (gb 348) 70 = .ok (.return_, 1) := by decide +kernel
theorem k348_71 : decode (gb 348) 71 = .ok (.aload_n 0, 1) := by decide +kernel
theorem k348_72 : decode (gb 348) 72 = .ok (.aload_n 0, 1) := by decide +kernel
theorem k348_73 : decode (gb 348) 73 = .ok (.getfield 390, 3) := by decide +kernel
theorem k348_76 : decode (gb 348) 76 = .ok (.iload_n 2, 1) := by decide +kernel
theorem k348_77 : decode (gb 348) 77 = .ok (.invokevirtual 472, 3) := by decide +kernel
theorem k348_80 : decode (gb 348) 80 = .ok (.sipush 16383, 3) := by decide +kernel
theorem k348_83 : decode (gb 348) 83 = .ok (.iand, 1) := by decide +kernel
theorem k348_84 : decode (gb 348) 84 = .ok (.istore 6, 2) := by decide +kernel
theorem k348_86 : decode (gb 348) 86 = .ok (.aload_n 0, 1) := by decide +kernel
theorem k348_87 : decode (gb 348) 87 = .ok (.getfield 294, 3) := by decide +kernel
theorem k348_90 : decode (gb 348) 90 = .ok (.iconst 1, 1) := by decide +kernel
theorem k348_91 : decode (gb 348) 91 = .ok (.isub, 1) := by decide +kernel
theorem k348_92 : decode (gb 348) 92 = .ok (.istore 7, 2) := by decide +kernel
theorem k348_94 : decode (gb 348) 94 = .ok (.iload 7, 2) := by decide +kernel
theorem k348_96 : decode (gb 348) 96 = .ok (.ifCond .lt 32, 3) := by decide +kernel
theorem k348_99 : decode (gb 348) 99 = .ok (.iload 7, 2) := by decide +kernel
theorem k348_101 : decode (gb 348) 101 = .ok (.aload_n 0, 1) := by decide +kernel
theorem k348_102 : decode (gb 348) 102 = .ok (.getfield 294, 3) := by decide +kernel
theorem k348_105 : decode (gb 348) 105 = .ok (.bipush 64, 2) := by decide +kernel
theorem k348_107 : decode (gb 348) 107 = .ok (.isub, 1) := by decide +kernel
theorem k348_108 : decode (gb 348) 108 = .ok (.if_icmp .lt 20, 3) := by decide +kernel
theorem k348_111 : decode (gb 348) 111 = .ok (.iload 7, 2) := by decide +kernel
theorem k348_113 : decode (gb 348) 113 = .ok (.sipush 16383, 3) := by decide +kernel
theorem k348_116 : decode (gb 348) 116 = .ok (.iand, 1) := by decide +kernel
theorem k348_117 : decode (gb 348) 117 = .ok (.iload 6, 2) := by decide +kernel
theorem k348_119 : decode (gb 348) 119 = .ok (.if_icmp .eq 9, 3) := by decide +kernel
theorem k348_122 : decode (gb 348) 122 = .ok (.iinc 7 (-1), 3) := by decide +kernel
theorem k348_125 : decode (gb 348) 125 = .ok (.goto (-31), 3) := by decide +kernel
theorem k348_128 : decode (gb 348) 128 = .ok (.aload_n 0, 1) := by decide +kernel
theorem k348_129 : decode (gb 348) 129 = .ok (.iload 7, 2) := by decide +kernel
theorem k348_131 : decode (gb 348) 131 = .ok (.invokevirtual 297, 3) := by decide +kernel
theorem k348_134 : decode (gb 348) 134 = .ok (.ifCond .eq 92, 3) := by decide +kernel
theorem k348_137 : decode (gb 348) 137 = .ok (.aload_n 0, 1) := by decide +kernel
theorem k348_138 : decode (gb 348) 138 = .ok (.getfield 300, 3) := by decide +kernel
theorem k348_141 : decode (gb 348) 141 = .ok (.iload 7, 2) := by decide +kernel
theorem k348_143 : decode (gb 348) 143 = .ok (.bipush 64, 2) := by decide +kernel
theorem k348_145 : decode (gb 348) 145 = .ok (.irem, 1) := by decide +kernel
theorem k348_146 : decode (gb 348) 146 = .ok (.iload_n 1, 1) := by decide +kernel
theorem k348_147 : decode (gb 348) 147 = .ok (.iconst 1, 1) := by decide +kernel
theorem k348_148 : decode (gb 348) 148 = .ok (.if_icmp .ne 7, 3) := by decide +kernel
theorem k348_151 : decode (gb 348) 151 = .ok (.iconst 5, 1) := by decide +kernel
theorem k348_152 : decode (gb 348) 152 = .ok (.goto 46, 3) := by decide +kernel
theorem k348_155 : decode (gb 348) 155 = .ok (.iload_n 1, 1) := by decide +kernel
theorem k348_156 : decode (gb 348) 156 = .ok (.iconst 2, 1) := by decide +kernel
theorem k348_157 : decode (gb 348) 157 = .ok (.if_icmp .ne 8, 3) := by decide +kernel
theorem k348_160 : decode (gb 348) 160 = .ok (.bipush 6, 2) := by decide +kernel
theorem k348_162 : decode (gb 348) 162 = .ok (.goto 36, 3) := by decide +kernel
theorem k348_165 : decode (gb 348) 165 = .ok (.iload_n 1, 1) := by decide +kernel
theorem k348_166 : decode (gb 348) 166 = .ok (.iconst 3, 1) := by decide +kernel
theorem k348_167 : decode (gb 348) 167 = .ok (.if_icmp .ne 8, 3) := by decide +kernel
theorem k348_170 : decode (gb 348) 170 = .ok (.bipush 7, 2) := by decide +kernel
theorem k348_172 : decode (gb 348) 172 = .ok (.goto 26, 3) := by decide +kernel
theorem k348_175 : decode (gb 348) 175 = .ok (.iload_n 1, 1) := by decide +kernel
theorem k348_176 : decode (gb 348) 176 = .ok (.iconst 4, 1) := by decide +kernel
theorem k348_177 : decode (gb 348) 177 = .ok (.if_icmp .ne 8, 3) := by decide +kernel
theorem k348_180 : decode (gb 348) 180 = .ok (.bipush 8, 2) := by decide +kernel
theorem k348_182 : decode (gb 348) 182 = .ok (.goto 16, 3) := by decide +kernel
theorem k348_185 : decode (gb 348) 185 = .ok (.iload_n 1, 1) := by decide +kernel
theorem k348_186 : decode (gb 348) 186 = .ok (.bipush 7, 2) := by decide +kernel
theorem k348_188 : decode (gb 348) 188 = .ok (.if_icmp .ne 8, 3) := by decide +kernel
theorem k348_191 : decode (gb 348) 191 = .ok (.bipush 9, 2) := by decide +kernel
theorem k348_193 : decode (gb 348) 193 = .ok (.goto 5, 3) := by decide +kernel
theorem k348_196 : decode (gb 348) 196 = .ok (.bipush 10, 2) := by decide +kernel
theorem k348_198 : decode (gb 348) 198 = .ok (.iastore, 1) := by decide +kernel
theorem k348_199 : decode (gb 348) 199 = .ok (.aload_n 0, 1) := by decide +kernel
theorem k348_200 : decode (gb 348) 200 = .ok (.getfield 309, 3) := by decide +kernel
theorem k348_203 : decode (gb 348) 203 = .ok (.iload 7, 2) := by decide +kernel
theorem k348_205 : decode (gb 348) 205 = .ok (.bipush 64, 2) := by decide +kernel
theorem k348_207 : decode (gb 348) 207 = .ok (.irem, 1) := by decide +kernel
theorem k348_208 : decode (gb 348) 208 = .ok (.iload 4, 2) := by decide +kernel
theorem k348_210 : decode (gb 348) 210 = .ok (.ifCond .eq 14, 3) := by decide +kernel
theorem k348_213 : decode (gb 348) 213 = .ok (.aload_n 0, 1) := by decide +kernel
theorem k348_214 : decode (gb 348) 214 = .ok (.getfield 390, 3) := by decide +kernel
theorem k348_217 : decode (gb 348) 217 = .ok (.iload_n 2, 1) := by decide +kernel
theorem k348_218 : decode (gb 348) 218 = .ok (.iconst 2, 1) := by decide +kernel
theorem k348_219 : decode (gb 348) 219 = .ok (.iadd, 1) := by decide +kernel
theorem k348_220 : decode (gb 348) 220 = .ok (.iaload, 1) := by decide +kernel
theorem k348_221 : decode (gb 348) 221 = .ok (.goto 4, 3) := by decide +kernel
theorem k348_224 : decode (gb 348) 224 = .ok (.iconst 0, 1) := by decide +kernel
theorem k348_225 : decode (gb 348) 225 = .ok (.iastore, 1) := by decide +kernel
theorem k348_226 : decode (gb 348) 226 = .ok (.return_, 1) := by decide +kernel
def c348_225 (s1 : Int32) (s2 : Int32) (μ : Mem) : Option (Mem) :=
  (stA 153 s1 s2 μ).bind fun m1 =>
  some m1
theorem c348_225_ok {L : Nat} (s1 : Int32) (s2 : Int32) (μ : Mem) (res : Mem) (h : c348_225 s1 s2 μ = some res) : Sx 348 225 [] [.int s2, .int s1, .ref 153] 0 0 (mk L μ) (mk L res, none) := by
  unfold c348_225 at h
  obtain ⟨m1, e2, h⟩ := Option.bind_eq_some_iff.mp h
  refine cx_iast k348_225 sk_153 e2 ?_
  exact cx_retv k348_226 rt_348 h
def c348_198 (v2 : Int32) (v4 : Int32) (v7 : Int32) (s1 : Int32) (s2 : Int32) (μ : Mem) : Option (Mem) :=
  (stA 152 s1 s2 μ).bind fun m1 =>
  if v4 = 0 then
    c348_225 (jrem v7 (64 : Int32)) (0 : Int32) m1
  else
    (ldA 161 (v2 + (2 : Int32)) m1).bind fun x4 =>
    c348_225 (jrem v7 (64 : Int32)) x4 m1
theorem c348_198_ok {L : Nat} (v2 : Int32) (v4 : Int32) (v7 : Int32) (s1 : Int32) (s2 : Int32) (μ : Mem) (res : Mem) (h : c348_198 v2 v4 v7 s1 s2 μ = some res) : Sx 348 198 [(0, .ref 129), (2, .int v2), (4, .int v4), (7, .int v7)] [.int s2, .int s1, .ref 152] 0 0 (mk L μ) (mk L res, none) := by
  unfold c348_198 at h
  obtain ⟨m1, e2, h⟩ := Option.bind_eq_some_iff.mp h
  refine cx_iast k348_198 sk_152 e2 ?_
  refine sx_aload_n (i := 0) k348_199 rfl rfl ?_
  refine cx_getR (k := 55) k348_200 ow_348 fl_12_309 (by decide) sk_129 ft_11_55 sr_129_55 ?_
  refine sx_iload k348_203 rfl ?_
  refine sx_bipush (v := 64) k348_205 (by decide) ?_
  refine sx_irem k348_207 (by decide) ?_
  refine sx_iload k348_208 rfl ?_
  by_cases hb3 : v4 = 0
  · rw [if_pos hb3] at h
    refine sx_if_eq (tgt := 224) k348_210 (by decide) (fun _ => ?_) (fun q => absurd hb3 q)
    refine sx_iconst (v := 0) k348_224 (by decide) ?_
    refine sx_pick (lo2 := []) [] rfl ?_
    exact c348_225_ok (jrem v7 (64 : Int32)) (0 : Int32) _ _ h
  · rw [if_neg hb3] at h
    refine sx_if_eq (tgt := 224) k348_210 (by decide) (fun q => absurd q hb3) (fun _ => ?_)
    refine sx_aload_n (i := 0) k348_213 rfl rfl ?_
    refine cx_getR (k := 76) k348_214 ow_348 fl_12_390 (by decide) sk_129 ft_11_76 sr_129_76 ?_
    refine sx_iload_n (i := 2) k348_217 rfl rfl ?_
    refine sx_iconst (v := 2) k348_218 (by decide) ?_
    refine sx_iadd k348_219 ?_
    obtain ⟨x4, e5, h⟩ := Option.bind_eq_some_iff.mp h
    refine cx_iald k348_220 sk_161 e5 ?_
    refine sx_goto (tgt := 225) k348_221 (by decide) ?_
    refine sx_pick (lo2 := []) [] rfl ?_
    exact c348_225_ok (jrem v7 (64 : Int32)) x4 _ _ h
def c348_128 (v1 : Int32) (v2 : Int32) (v4 : Int32) (v7 : Int32) (μ : Mem) : Option (Mem) :=
  (f288 v7 μ).bind fun r1 =>
  if r1.2 = 0 then
    some r1.1
  else
    if v1 = (1 : Int32) then
      c348_198 v2 v4 v7 (jrem v7 (64 : Int32)) (5 : Int32) r1.1
    else
      if v1 = (2 : Int32) then
        c348_198 v2 v4 v7 (jrem v7 (64 : Int32)) (6 : Int32) r1.1
      else
        if v1 = (3 : Int32) then
          c348_198 v2 v4 v7 (jrem v7 (64 : Int32)) (7 : Int32) r1.1
        else
          if v1 = (4 : Int32) then
            c348_198 v2 v4 v7 (jrem v7 (64 : Int32)) (8 : Int32) r1.1
          else
            if v1 = (7 : Int32) then
              c348_198 v2 v4 v7 (jrem v7 (64 : Int32)) (9 : Int32) r1.1
            else
              c348_198 v2 v4 v7 (jrem v7 (64 : Int32)) (10 : Int32) r1.1
theorem c348_128_ok {L : Nat} (v1 : Int32) (v2 : Int32) (v4 : Int32) (v7 : Int32) (μ : Mem) (res : Mem) (h : c348_128 v1 v2 v4 v7 μ = some res) : Sx 348 128 [(0, .ref 129), (1, .int v1), (2, .int v2), (4, .int v4), (7, .int v7)] [] 0 0 (mk L μ) (mk L res, none) := by
  unfold c348_128 at h
  refine sx_aload_n (i := 0) k348_128 rfl rfl ?_
  refine sx_iload k348_129 rfl ?_
  obtain ⟨r1, e2, h⟩ := Option.bind_eq_some_iff.mp h
  refine cx_V (sk := []) (vs := [.int v7]) st_348_288 k348_131 ow_348 cl_12_297 (by decide) rfl (Nat.le_of_ble_eq_true rfl) sk_129 (ok288 v7 _ _ e2) (sk3 := [.int r1.2]) rfl rfl ?_
  by_cases hb3 : r1.2 = 0
  · rw [if_pos hb3] at h
    refine sx_if_eq (tgt := 226) k348_134 (by decide) (fun _ => ?_) (fun q => absurd hb3 q)
    exact cx_retv k348_226 rt_348 h
  · rw [if_neg hb3] at h
    refine sx_if_eq (tgt := 226) k348_134 (by decide) (fun q => absurd q hb3) (fun _ => ?_)
    refine sx_aload_n (i := 0) k348_137 rfl rfl ?_
    refine cx_getR (k := 54) k348_138 ow_348 fl_12_300 (by decide) sk_129 ft_11_54 sr_129_54 ?_
    refine sx_iload k348_141 rfl ?_
    refine sx_bipush (v := 64) k348_143 (by decide) ?_
    refine sx_irem k348_145 (by decide) ?_
    refine sx_iload_n (i := 1) k348_146 rfl rfl ?_
    refine sx_iconst (v := 1) k348_147 (by decide) ?_
    by_cases hb4 : v1 = (1 : Int32)
    · rw [if_pos hb4] at h
      refine sx_icmp_ne (tgt := 155) k348_148 (by decide) (fun q => absurd hb4 q) (fun _ => ?_)
      refine sx_iconst (v := 5) k348_151 (by decide) ?_
      refine sx_goto (tgt := 198) k348_152 (by decide) ?_
      refine sx_pick (lo2 := [(0, .ref 129), (2, .int v2), (4, .int v4), (7, .int v7)]) [0, 2, 3, 4] rfl ?_
      exact c348_198_ok v2 v4 v7 (jrem v7 (64 : Int32)) (5 : Int32) _ _ h
    · rw [if_neg hb4] at h
      refine sx_icmp_ne (tgt := 155) k348_148 (by decide) (fun _ => ?_) (fun q => absurd q hb4)
      refine sx_iload_n (i := 1) k348_155 rfl rfl ?_
      refine sx_iconst (v := 2) k348_156 (by decide) ?_
      by_cases hb5 : v1 = (2 : Int32)
      · rw [if_pos hb5] at h
        refine sx_icmp_ne (tgt := 165) k348_157 (by decide) (fun q => absurd hb5 q) (fun _ => ?_)
        refine sx_bipush (v := 6) k348_160 (by decide) ?_
        refine sx_goto (tgt := 198) k348_162 (by decide) ?_
        refine sx_pick (lo2 := [(0, .ref 129), (2, .int v2), (4, .int v4), (7, .int v7)]) [0, 2, 3, 4] rfl ?_
        exact c348_198_ok v2 v4 v7 (jrem v7 (64 : Int32)) (6 : Int32) _ _ h
      · rw [if_neg hb5] at h
        refine sx_icmp_ne (tgt := 165) k348_157 (by decide) (fun _ => ?_) (fun q => absurd q hb5)
        refine sx_iload_n (i := 1) k348_165 rfl rfl ?_
        refine sx_iconst (v := 3) k348_166 (by decide) ?_
        by_cases hb6 : v1 = (3 : Int32)
        · rw [if_pos hb6] at h
          refine sx_icmp_ne (tgt := 175) k348_167 (by decide) (fun q => absurd hb6 q) (fun _ => ?_)
          refine sx_bipush (v := 7) k348_170 (by decide) ?_
          refine sx_goto (tgt := 198) k348_172 (by decide) ?_
          refine sx_pick (lo2 := [(0, .ref 129), (2, .int v2), (4, .int v4), (7, .int v7)]) [0, 2, 3, 4] rfl ?_
          exact c348_198_ok v2 v4 v7 (jrem v7 (64 : Int32)) (7 : Int32) _ _ h
        · rw [if_neg hb6] at h
          refine sx_icmp_ne (tgt := 175) k348_167 (by decide) (fun _ => ?_) (fun q => absurd q hb6)
          refine sx_iload_n (i := 1) k348_175 rfl rfl ?_
          refine sx_iconst (v := 4) k348_176 (by decide) ?_
          by_cases hb7 : v1 = (4 : Int32)
          · rw [if_pos hb7] at h
            refine sx_icmp_ne (tgt := 185) k348_177 (by decide) (fun q => absurd hb7 q) (fun _ => ?_)
            refine sx_bipush (v := 8) k348_180 (by decide) ?_
            refine sx_goto (tgt := 198) k348_182 (by decide) ?_
            refine sx_pick (lo2 := [(0, .ref 129), (2, .int v2), (4, .int v4), (7, .int v7)]) [0, 2, 3, 4] rfl ?_
            exact c348_198_ok v2 v4 v7 (jrem v7 (64 : Int32)) (8 : Int32) _ _ h
          · rw [if_neg hb7] at h
            refine sx_icmp_ne (tgt := 185) k348_177 (by decide) (fun _ => ?_) (fun q => absurd q hb7)
            refine sx_iload_n (i := 1) k348_185 rfl rfl ?_
            refine sx_bipush (v := 7) k348_186 (by decide) ?_
            by_cases hb8 : v1 = (7 : Int32)
            · rw [if_pos hb8] at h
              refine sx_icmp_ne (tgt := 196) k348_188 (by decide) (fun q => absurd hb8 q) (fun _ => ?_)
              refine sx_bipush (v := 9) k348_191 (by decide) ?_
              refine sx_goto (tgt := 198) k348_193 (by decide) ?_
              refine sx_pick (lo2 := [(0, .ref 129), (2, .int v2), (4, .int v4), (7, .int v7)]) [0, 2, 3, 4] rfl ?_
              exact c348_198_ok v2 v4 v7 (jrem v7 (64 : Int32)) (9 : Int32) _ _ h
            · rw [if_neg hb8] at h
              refine sx_icmp_ne (tgt := 196) k348_188 (by decide) (fun _ => ?_) (fun q => absurd q hb8)
              refine sx_bipush (v := 10) k348_196 (by decide) ?_
              refine sx_pick (lo2 := [(0, .ref 129), (2, .int v2), (4, .int v4), (7, .int v7)]) [0, 2, 3, 4] rfl ?_
              exact c348_198_ok v2 v4 v7 (jrem v7 (64 : Int32)) (10 : Int32) _ _ h
def b348_94 (kl94 : Int32 → Int32 → Int32 → Int32 → Int32 → Mem → Option (Mem)) (v1 : Int32) (v2 : Int32) (v4 : Int32) (v6 : Int32) (v7 : Int32) (μ : Mem) : Option (Mem) :=
  if v7 < 0 then
    c348_128 v1 v2 v4 v7 μ
  else
    if v7 < ((μ.1 129 58) - (64 : Int32)) then
      c348_128 v1 v2 v4 v7 μ
    else
      if (v7 &&& (16383 : Int32)) = v6 then
        c348_128 v1 v2 v4 v7 μ
      else
        nm (v7 + (-1 : Int32)) fun x4 =>
        kl94 v1 v2 v4 v6 x4 μ
theorem b348_94_ok {L : Nat} (kl94 : Int32 → Int32 → Int32 → Int32 → Int32 → Mem → Option (Mem)) (hk94 : (∀ (v1 : Int32) (v2 : Int32) (v4 : Int32) (v6 : Int32) (v7 : Int32) (μ : Mem) (res : Mem), kl94 v1 v2 v4 v6 v7 μ = some res → Sx 348 94 [(0, .ref 129), (1, .int v1), (2, .int v2), (4, .int v4), (6, .int v6), (7, .int v7)] [] 0 0 (mk L μ) (mk L res, none))) (v1 : Int32) (v2 : Int32) (v4 : Int32) (v6 : Int32) (v7 : Int32) (μ : Mem) (res : Mem) (h : b348_94 kl94 v1 v2 v4 v6 v7 μ = some res) : Sx 348 94 [(0, .ref 129), (1, .int v1), (2, .int v2), (4, .int v4), (6, .int v6), (7, .int v7)] [] 0 0 (mk L μ) (mk L res, none) := by
  unfold b348_94 at h
  refine sx_iload k348_94 rfl ?_
  by_cases hb1 : v7 < 0
  · rw [if_pos hb1] at h
    refine sx_if_lt (tgt := 128) k348_96 (by decide) (fun _ => ?_) (fun q => absurd hb1 q)
    refine sx_pick (lo2 := [(0, .ref 129), (1, .int v1), (2, .int v2), (4, .int v4), (7, .int v7)]) [0, 1, 2, 3, 5] rfl ?_
    exact c348_128_ok v1 v2 v4 v7 _ _ h
  · rw [if_neg hb1] at h
    refine sx_if_lt (tgt := 128) k348_96 (by decide) (fun q => absurd q hb1) (fun _ => ?_)
    refine sx_iload k348_99 rfl ?_
    refine sx_aload_n (i := 0) k348_101 rfl rfl ?_
    refine cx_getI (k := 58) k348_102 ow_348 fl_12_294 (by decide) sk_129 ft_11_58 ?_
    refine sx_bipush (v := 64) k348_105 (by decide) ?_
    refine sx_isub k348_107 ?_
    by_cases hb2 : v7 < ((μ.1 129 58) - (64 : Int32))
    · rw [if_pos hb2] at h
      refine sx_icmp_lt (tgt := 128) k348_108 (by decide) (fun _ => ?_) (fun q => absurd hb2 q)
      refine sx_pick (lo2 := [(0, .ref 129), (1, .int v1), (2, .int v2), (4, .int v4), (7, .int v7)]) [0, 1, 2, 3, 5] rfl ?_
      exact c348_128_ok v1 v2 v4 v7 _ _ h
    · rw [if_neg hb2] at h
      refine sx_icmp_lt (tgt := 128) k348_108 (by decide) (fun q => absurd q hb2) (fun _ => ?_)
      refine sx_iload k348_111 rfl ?_
      refine sx_sipush (v := 16383) k348_113 (by decide) ?_
      refine sx_iand k348_116 ?_
      refine sx_iload k348_117 rfl ?_
      by_cases hb3 : (v7 &&& (16383 : Int32)) = v6
      · rw [if_pos hb3] at h
        refine sx_icmp_eq (tgt := 128) k348_119 (by decide) (fun _ => ?_) (fun q => absurd hb3 q)
        refine sx_pick (lo2 := [(0, .ref 129), (1, .int v1), (2, .int v2), (4, .int v4), (7, .int v7)]) [0, 1, 2, 3, 5] rfl ?_
        exact c348_128_ok v1 v2 v4 v7 _ _ h
      · rw [if_neg hb3] at h
        refine sx_icmp_eq (tgt := 128) k348_119 (by decide) (fun q => absurd q hb3) (fun _ => ?_)
        refine cx_iinc (c := -1) (lo2 := fun x4 => [(7, .int x4), (0, .ref 129), (1, .int v1), (2, .int v2), (4, .int v4), (6, .int v6)]) k348_122 rfl (by decide) (by rw [mx_348]; decide) (fun _ => rfl) h (fun x4 h => ?_)
        refine sx_goto (tgt := 94) k348_125 (by decide) ?_
        refine sx_pick (lo2 := [(0, .ref 129), (1, .int v1), (2, .int v2), (4, .int v4), (6, .int v6), (7, .int x4)]) [1, 2, 3, 4, 5, 0] rfl ?_
        exact hk94 v1 v2 v4 v6 x4 _ _ h
def l348_94 : Nat → Int32 × Int32 × Int32 × Int32 × Int32 × Mem → Option (Mem) :=
  fixN (fun self x => b348_94 (fun v1 v2 v4 v6 v7 μ => self (v1, v2, v4, v6, v7, μ)) (x.1) (x.2.1) (x.2.2.1) (x.2.2.2.1) (x.2.2.2.2.1) (x.2.2.2.2.2))
theorem l348_94_ok {L : Nat} (n : Nat) (v1 : Int32) (v2 : Int32) (v4 : Int32) (v6 : Int32) (v7 : Int32) (μ : Mem) (res : Mem) (h : l348_94 n (v1, v2, v4, v6, v7, μ) = some res) : Sx 348 94 [(0, .ref 129), (1, .int v1), (2, .int v2), (4, .int v4), (6, .int v6), (7, .int v7)] [] 0 0 (mk L μ) (mk L res, none) := by
  have key := fixN_ind (P := fun x res => Sx 348 94 [(0, .ref 129), (1, .int (x.1)), (2, .int (x.2.1)), (4, .int (x.2.2.1)), (6, .int (x.2.2.2.1)), (7, .int (x.2.2.2.2.1))] [] 0 0 (mk L (x.2.2.2.2.2)) (mk L res, none)) (F := fun self x => b348_94 (fun v1 v2 v4 v6 v7 μ => self (v1, v2, v4, v6, v7, μ)) (x.1) (x.2.1) (x.2.2.1) (x.2.2.2.1) (x.2.2.2.2.1) (x.2.2.2.2.2)) (fun self hself x res h => b348_94_ok (fun v1 v2 v4 v6 v7 μ => self (v1, v2, v4, v6, v7, μ)) (fun v1 v2 v4 v6 v7 μ res hh => hself (v1, v2, v4, v6, v7, μ) res hh) (x.1) (x.2.1) (x.2.2.1) (x.2.2.2.1) (x.2.2.2.2.1) (x.2.2.2.2.2) res h) n (v1, v2, v4, v6, v7, μ) res h
  exact key
def c348_67 (v1 : Int32) (v2 : Int32) (v4 : Int32) (s0 : Int32) (s1 : Int32) (μ : Mem) : Option (Mem) :=
  if s1 ≤ s0 then
    (f313 161 v2 μ).bind fun r2 =>
    nm (r2.2 &&& (16383 : Int32)) fun x4 =>
    nm ((r2.1.1 129 58) - (1 : Int32)) fun x5 =>
    l348_94 gF (v1, v2, v4, x4, x5, r2.1)
  else
    some μ
theorem c348_67_ok {L : Nat} (v1 : Int32) (v2 : Int32) (v4 : Int32) (s0 : Int32) (s1 : Int32) (μ : Mem) (res : Mem) (h : c348_67 v1 v2 v4 s0 s1 μ = some res) : Sx 348 67 [(0, .ref 129), (1, .int v1), (2, .int v2), (4, .int v4)] [.int s1, .int s0] 0 0 (mk L μ) (mk L res, none) := by
  unfold c348_67 at h
  by_cases hb1 : s1 ≤ s0
  · rw [if_pos hb1] at h
    refine sx_icmp_ge (tgt := 71) k348_67 (by decide) (fun _ => ?_) (fun q => absurd hb1 q)
    refine sx_aload_n (i := 0) k348_71 rfl rfl ?_
    refine sx_aload_n (i := 0) k348_72 rfl rfl ?_
    refine cx_getR (k := 76) k348_73 ow_348 fl_12_390 (by decide) sk_129 ft_11_76 sr_129_76 ?_
    refine sx_iload_n (i := 2) k348_76 rfl rfl ?_
    obtain ⟨r2, e3, h⟩ := Option.bind_eq_some_iff.mp h
    refine cx_V (sk := []) (vs := [.ref 161, .int v2]) st_348_313 k348_77 ow_348 cl_12_472 (by decide) rfl (Nat.le_of_ble_eq_true rfl) sk_129 (ok313 161 v2 sk_161 _ _ e3) (sk3 := [.int r2.2]) rfl rfl ?_
    refine sx_sipush (v := 16383) k348_80 (by decide) ?_
    refine sx_iand k348_83 ?_
    refine cx_nm h (fun x4 h => ?_)
    refine cx_istore (lo2 := [(6, .int x4), (0, .ref 129), (1, .int v1), (2, .int v2), (4, .int v4)]) k348_84 (by rw [mx_348]; decide) rfl ?_
    refine sx_aload_n (i := 0) k348_86 rfl rfl ?_
    refine cx_getI (k := 58) k348_87 ow_348 fl_12_294 (by decide) sk_129 ft_11_58 ?_
    refine sx_iconst (v := 1) k348_90 (by decide) ?_
    refine sx_isub k348_91 ?_
    refine cx_nm h (fun x5 h => ?_)
    refine cx_istore (lo2 := [(7, .int x5), (6, .int x4), (0, .ref 129), (1, .int v1), (2, .int v2), (4, .int v4)]) k348_92 (by rw [mx_348]; decide) rfl ?_
    refine sx_pick (lo2 := [(0, .ref 129), (1, .int v1), (2, .int v2), (4, .int v4), (6, .int x4), (7, .int x5)]) [2, 3, 4, 5, 1, 0] rfl ?_
    exact l348_94_ok gF v1 v2 v4 x4 x5 _ _ h
  · rw [if_neg hb1] at h
    refine sx_icmp_ge (tgt := 71) k348_67 (by decide) (fun q => absurd q hb1) (fun _ => ?_)
    exact cx_retv k348_70 rt_348 h
def c348_56 (v1 : Int32) (v2 : Int32) (v3 : Int32) (v4 : Int32) (μ : Mem) : Option (Mem) :=
  if v4 = 0 then
    c348_67 v1 v2 v4 v3 (2 : Int32) μ
  else
    c348_67 v1 v2 v4 v3 (3 : Int32) μ
theorem c348_56_ok {L : Nat} (v1 : Int32) (v2 : Int32) (v3 : Int32) (v4 : Int32) (μ : Mem) (res : Mem) (h : c348_56 v1 v2 v3 v4 μ = some res) : Sx 348 56 [(0, .ref 129), (1, .int v1), (2, .int v2), (3, .int v3), (4, .int v4)] [] 0 0 (mk L μ) (mk L res, none) := by
  unfold c348_56 at h
  refine sx_iload_n (i := 3) k348_56 rfl rfl ?_
  refine sx_iload k348_57 rfl ?_
  by_cases hb1 : v4 = 0
  · rw [if_pos hb1] at h
    refine sx_if_eq (tgt := 66) k348_59 (by decide) (fun _ => ?_) (fun q => absurd hb1 q)
    refine sx_iconst (v := 2) k348_66 (by decide) ?_
    refine sx_pick (lo2 := [(0, .ref 129), (1, .int v1), (2, .int v2), (4, .int v4)]) [0, 1, 2, 4] rfl ?_
    exact c348_67_ok v1 v2 v4 v3 (2 : Int32) _ _ h
  · rw [if_neg hb1] at h
    refine sx_if_eq (tgt := 66) k348_59 (by decide) (fun q => absurd q hb1) (fun _ => ?_)
    refine sx_iconst (v := 3) k348_62 (by decide) ?_
    refine sx_goto (tgt := 67) k348_63 (by decide) ?_
    refine sx_pick (lo2 := [(0, .ref 129), (1, .int v1), (2, .int v2), (4, .int v4)]) [0, 1, 2, 4] rfl ?_
    exact c348_67_ok v1 v2 v4 v3 (3 : Int32) _ _ h
def c348_44 (v1 : Int32) (v2 : Int32) (v3 : Int32) (v4 : Int32) (s0 : Int32) (μ : Mem) : Option (Mem) :=
  if v4 = 0 then
    if s0 = 0 then
      some μ
    else
      c348_56 v1 v2 v3 v4 μ
  else
    c348_56 v1 v2 v3 v4 μ
theorem c348_44_ok {L : Nat} (v1 : Int32) (v2 : Int32) (v3 : Int32) (v4 : Int32) (s0 : Int32) (μ : Mem) (res : Mem) (h : c348_44 v1 v2 v3 v4 s0 μ = some res) : Sx 348 44 [(0, .ref 129), (1, .int v1), (2, .int v2), (3, .int v3), (4, .int v4)] [.int s0] 0 0 (mk L μ) (mk L res, none) := by
  unfold c348_44 at h
  refine cx_istore (lo2 := [(5, .int s0), (0, .ref 129), (1, .int v1), (2, .int v2), (3, .int v3), (4, .int v4)]) k348_44 (by rw [mx_348]; decide) rfl ?_
  refine sx_iload k348_46 rfl ?_
  by_cases hb1 : v4 = 0
  · rw [if_pos hb1] at h
    refine sx_if_ne (tgt := 56) k348_48 (by decide) (fun q => absurd hb1 q) (fun _ => ?_)
    refine sx_iload k348_51 rfl ?_
    by_cases hb2 : s0 = 0
    · rw [if_pos hb2] at h
      refine sx_if_eq (tgt := 70) k348_53 (by decide) (fun _ => ?_) (fun q => absurd hb2 q)
      exact cx_retv k348_70 rt_348 h
    · rw [if_neg hb2] at h
      refine sx_if_eq (tgt := 70) k348_53 (by decide) (fun q => absurd q hb2) (fun _ => ?_)
      refine sx_pick (lo2 := [(0, .ref 129), (1, .int v1), (2, .int v2), (3, .int v3), (4, .int v4)]) [1, 2, 3, 4, 5] rfl ?_
      exact c348_56_ok v1 v2 v3 v4 _ _ h
  · rw [if_neg hb1] at h
    refine sx_if_ne (tgt := 56) k348_48 (by decide) (fun _ => ?_) (fun q => absurd q hb1)
    refine sx_pick (lo2 := [(0, .ref 129), (1, .int v1), (2, .int v2), (3, .int v3), (4, .int v4)]) [1, 2, 3, 4, 5] rfl ?_
    exact c348_56_ok v1 v2 v3 v4 _ _ h
def c348_39 (v1 : Int32) (v2 : Int32) (v3 : Int32) (v4 : Int32) (μ : Mem) : Option (Mem) :=
  c348_44 v1 v2 v3 v4 (1 : Int32) μ
theorem c348_39_ok {L : Nat} (v1 : Int32) (v2 : Int32) (v3 : Int32) (v4 : Int32) (μ : Mem) (res : Mem) (h : c348_39 v1 v2 v3 v4 μ = some res) : Sx 348 39 [(0, .ref 129), (1, .int v1), (2, .int v2), (3, .int v3), (4, .int v4)] [] 0 0 (mk L μ) (mk L res, none) := by
  unfold c348_39 at h
  refine sx_iconst (v := 1) k348_39 (by decide) ?_
  refine sx_goto (tgt := 44) k348_40 (by decide) ?_
  refine sx_pick (lo2 := [(0, .ref 129), (1, .int v1), (2, .int v2), (3, .int v3), (4, .int v4)]) [0, 1, 2, 3, 4] rfl ?_
  exact c348_44_ok v1 v2 v3 v4 (1 : Int32) _ _ h
def c348_21 (v1 : Int32) (v2 : Int32) (v3 : Int32) (s0 : Int32) (μ : Mem) : Option (Mem) :=
  if v1 = (1 : Int32) then
    c348_39 v1 v2 v3 s0 μ
  else
    if v1 = (3 : Int32) then
      c348_39 v1 v2 v3 s0 μ
    else
      if v1 = (7 : Int32) then
        c348_39 v1 v2 v3 s0 μ
      else
        c348_44 v1 v2 v3 s0 (0 : Int32) μ
theorem c348_21_ok {L : Nat} (v1 : Int32) (v2 : Int32) (v3 : Int32) (s0 : Int32) (μ : Mem) (res : Mem) (h : c348_21 v1 v2 v3 s0 μ = some res) : Sx 348 21 [(0, .ref 129), (1, .int v1), (2, .int v2), (3, .int v3)] [.int s0] 0 0 (mk L μ) (mk L res, none) := by
  unfold c348_21 at h
  refine cx_istore (lo2 := [(4, .int s0), (0, .ref 129), (1, .int v1), (2, .int v2), (3, .int v3)]) k348_21 (by rw [mx_348]; decide) rfl ?_
  refine sx_iload_n (i := 1) k348_23 rfl rfl ?_
  refine sx_iconst (v := 1) k348_24 (by decide) ?_
  by_cases hb1 : v1 = (1 : Int32)
  · rw [if_pos hb1] at h
    refine sx_icmp_eq (tgt := 39) k348_25 (by decide) (fun _ => ?_) (fun q => absurd hb1 q)
    refine sx_pick (lo2 := [(0, .ref 129), (1, .int v1), (2, .int v2), (3, .int v3), (4, .int s0)]) [1, 2, 3, 4, 0] rfl ?_
    exact c348_39_ok v1 v2 v3 s0 _ _ h
  · rw [if_neg hb1] at h
    refine sx_icmp_eq (tgt := 39) k348_25 (by decide) (fun q => absurd q hb1) (fun _ => ?_)
    refine sx_iload_n (i := 1) k348_28 rfl rfl ?_
    refine sx_iconst (v := 3) k348_29 (by decide) ?_
    by_cases hb2 : v1 = (3 : Int32)
    · rw [if_pos hb2] at h
      refine sx_icmp_eq (tgt := 39) k348_30 (by decide) (fun _ => ?_) (fun q => absurd hb2 q)
      refine sx_pick (lo2 := [(0, .ref 129), (1, .int v1), (2, .int v2), (3, .int v3), (4, .int s0)]) [1, 2, 3, 4, 0] rfl ?_
      exact c348_39_ok v1 v2 v3 s0 _ _ h
    · rw [if_neg hb2] at h
      refine sx_icmp_eq (tgt := 39) k348_30 (by decide) (fun q => absurd q hb2) (fun _ => ?_)
      refine sx_iload_n (i := 1) k348_33 rfl rfl ?_
      refine sx_bipush (v := 7) k348_34 (by decide) ?_
      by_cases hb3 : v1 = (7 : Int32)
      · rw [if_pos hb3] at h
        refine sx_icmp_ne (tgt := 43) k348_36 (by decide) (fun q => absurd hb3 q) (fun _ => ?_)
        refine sx_pick (lo2 := [(0, .ref 129), (1, .int v1), (2, .int v2), (3, .int v3), (4, .int s0)]) [1, 2, 3, 4, 0] rfl ?_
        exact c348_39_ok v1 v2 v3 s0 _ _ h
      · rw [if_neg hb3] at h
        refine sx_icmp_ne (tgt := 43) k348_36 (by decide) (fun _ => ?_) (fun q => absurd q hb3)
        refine sx_iconst (v := 0) k348_43 (by decide) ?_
        refine sx_pick (lo2 := [(0, .ref 129), (1, .int v1), (2, .int v2), (3, .int v3), (4, .int s0)]) [1, 2, 3, 4, 0] rfl ?_
        exact c348_44_ok v1 v2 v3 s0 (0 : Int32) _ _ h
def c348_16 (v1 : Int32) (v2 : Int32) (v3 : Int32) (μ : Mem) : Option (Mem) :=
  c348_21 v1 v2 v3 (1 : Int32) μ
theorem c348_16_ok {L : Nat} (v1 : Int32) (v2 : Int32) (v3 : Int32) (μ : Mem) (res : Mem) (h : c348_16 v1 v2 v3 μ = some res) : Sx 348 16 [(0, .ref 129), (1, .int v1), (2, .int v2), (3, .int v3)] [] 0 0 (mk L μ) (mk L res, none) := by
  unfold c348_16 at h
  refine sx_iconst (v := 1) k348_16 (by decide) ?_
  refine sx_goto (tgt := 21) k348_17 (by decide) ?_
  refine sx_pick (lo2 := [(0, .ref 129), (1, .int v1), (2, .int v2), (3, .int v3)]) [0, 1, 2, 3] rfl ?_
  exact c348_21_ok v1 v2 v3 (1 : Int32) _ _ h
/-- CraftHouseModel.tells(III)V -/
def f348 (p1 : Int32) (p2 : Int32) (p3 : Int32) (μ : Mem) : Option (Mem) :=
  if p1 = (2 : Int32) then
    c348_16 p1 p2 p3 μ
  else
    if p1 = (4 : Int32) then
      c348_16 p1 p2 p3 μ
    else
      if p1 = (8 : Int32) then
        c348_16 p1 p2 p3 μ
      else
        c348_21 p1 p2 p3 (0 : Int32) μ
theorem ok348 {L : Nat} (p1 : Int32) (p2 : Int32) (p3 : Int32) (μ : Mem) (res : Mem) (h : f348 p1 p2 p3 μ = some res) : Mx 348 [.ref 129, .int p1, .int p2, .int p3] (mk L μ) (mk L res, none) := by
  refine Mx_of ml_348 (by rw [mx_348]; exact Nat.le_of_ble_eq_true rfl) ?_
  show Sx 348 0 [(0, .ref 129), (1, .int p1), (2, .int p2), (3, .int p3)] [] 0 0 (mk L μ) _
  unfold f348 at h
  refine sx_iload_n (i := 1) k348_0 rfl rfl ?_
  refine sx_iconst (v := 2) k348_1 (by decide) ?_
  by_cases hb1 : p1 = (2 : Int32)
  · rw [if_pos hb1] at h
    refine sx_icmp_eq (tgt := 16) k348_2 (by decide) (fun _ => ?_) (fun q => absurd hb1 q)
    refine sx_pick (lo2 := [(0, .ref 129), (1, .int p1), (2, .int p2), (3, .int p3)]) [0, 1, 2, 3] rfl ?_
    exact c348_16_ok p1 p2 p3 _ _ h
  · rw [if_neg hb1] at h
    refine sx_icmp_eq (tgt := 16) k348_2 (by decide) (fun q => absurd q hb1) (fun _ => ?_)
    refine sx_iload_n (i := 1) k348_5 rfl rfl ?_
    refine sx_iconst (v := 4) k348_6 (by decide) ?_
    by_cases hb2 : p1 = (4 : Int32)
    · rw [if_pos hb2] at h
      refine sx_icmp_eq (tgt := 16) k348_7 (by decide) (fun _ => ?_) (fun q => absurd hb2 q)
      refine sx_pick (lo2 := [(0, .ref 129), (1, .int p1), (2, .int p2), (3, .int p3)]) [0, 1, 2, 3] rfl ?_
      exact c348_16_ok p1 p2 p3 _ _ h
    · rw [if_neg hb2] at h
      refine sx_icmp_eq (tgt := 16) k348_7 (by decide) (fun q => absurd q hb2) (fun _ => ?_)
      refine sx_iload_n (i := 1) k348_10 rfl rfl ?_
      refine sx_bipush (v := 8) k348_11 (by decide) ?_
      by_cases hb3 : p1 = (8 : Int32)
      · rw [if_pos hb3] at h
        refine sx_icmp_ne (tgt := 20) k348_13 (by decide) (fun q => absurd hb3 q) (fun _ => ?_)
        refine sx_pick (lo2 := [(0, .ref 129), (1, .int p1), (2, .int p2), (3, .int p3)]) [0, 1, 2, 3] rfl ?_
        exact c348_16_ok p1 p2 p3 _ _ h
      · rw [if_neg hb3] at h
        refine sx_icmp_ne (tgt := 20) k348_13 (by decide) (fun _ => ?_) (fun q => absurd q hb3)
        refine sx_iconst (v := 0) k348_20 (by decide) ?_
        refine sx_pick (lo2 := [(0, .ref 129), (1, .int p1), (2, .int p2), (3, .int p3)]) [0, 1, 2, 3] rfl ?_
        exact c348_21_ok p1 p2 p3 (0 : Int32) _ _ h
theorem k346_0 : decode (gb 346) 0 = .ok (.aload_n 0, 1) := by decide +kernel
theorem k346_1 : decode (gb 346) 1 = .ok (.getfield 390, 3) := by decide +kernel
theorem k346_4 : decode (gb 346) 4 = .ok (.astore 4, 2) := by decide +kernel
theorem k346_6 : decode (gb 346) 6 = .ok (.aload 4, 2) := by decide +kernel
theorem k346_8 : decode (gb 346) 8 = .ok (.iload_n 2, 1) := by decide +kernel
theorem k346_9 : decode (gb 346) 9 = .ok (.iaload, 1) := by decide +kernel
theorem k346_10 : decode (gb 346) 10 = .ok (.bipush 7, 2) := by decide +kernel
theorem k346_12 : decode (gb 346) 12 = .ok (.if_icmp .ne 16, 3) := by decide +kernel
theorem k346_15 : decode (gb 346) 15 = .ok (.aload 4, 2) := by decide +kernel
theorem k346_17 : decode (gb 346) 17 = .ok (.iload_n 2, 1) := by decide +kernel
theorem k346_18 : decode (gb 346) 18 = .ok (.iconst 1, 1) := by decide +kernel
theorem k346_19 : decode (gb 346) 19 = .ok (.iadd, 1) := by decide +kernel
theorem k346_20 : decode (gb 346) 20 = .ok (.iaload, 1) := by decide +kernel
theorem k346_21 : decode (gb 346) 21 = .ok (.sipush 255, 3) := by decide +kernel
theorem k346_24 : decode (gb 346) 24 = .ok (.if_icmp .ne 4, 3) := by decide +kernel
theorem k346_27 : decode (gb 346) 27 = .ok (.return_, 1) := by decide +kernel
theorem k346_28 : decode (gb 346) 28 = .ok (.iload_n 3, 1) := by decide +kernel
theorem k346_29 : decode (gb 346) 29 = .ok (.bipush 15, 2) := by decide +kernel
theorem k346_31 : decode (gb 346) 31 = .ok (.if_icmp .lt 58, 3) := by decide +kernel
theorem k346_34 : decode (gb 346) 34 = .ok (.iload_n 3, 1) := by decide +kernel
theorem k346_35 : decode (gb 346) 35 = .ok (.bipush 120, 2) := by decide +kernel
theorem k346_37 : decode (gb 346) 37 = .ok (.if_icmp .gt 52, 3) := by decide +kernel
theorem k346_40 : decode (gb 346) 40 = .ok (.aload 4, 2) := by decide +kernel
theorem k346_42 : decode (gb 346) 42 = .ok (.iload_n 2, 1) := by decide +kernel
theorem k346_43 : decode (gb 346) 43 = .ok (.iaload, 1) := by decide +kernel
theorem k346_44 : decode (gb 346) 44 = .ok (.bipush 8, 2) := by decide +kernel
theorem k346_46 : decode (gb 346) 46 = .ok (.if_icmp .ne 43, 3) := by decide +kernel
theorem k346_49 : decode (gb 346) 49 = .ok (.aload 4, 2) := by decide +kernel
theorem k346_51 : decode (gb 346) 51 = .ok (.iload_n 2, 1) := by decide +kernel
theorem k346_52 : decode (gb 346) 52 = .ok (.iconst 1, 1) := by decide +kernel
theorem k346_53 : decode (gb 346) 53 = .ok (.iadd, 1) := by decide +kernel
theorem k346_54 : decode (gb 346) 54 = .ok (.iaload, 1) := by decide +kernel
theorem k346_55 : decode (gb 346) 55 = .ok (.bipush 12, 2) := by decide +kernel
theorem k346_57 : decode (gb 346) 57 = .ok (.if_icmp .ne 32, 3) := by decide +kernel
theorem k346_60 : decode (gb 346) 60 = .ok (.aload 4, 2) := by decide +kernel
theorem k346_62 : decode (gb 346) 62 = .ok (.iload_n 2, 1) := by decide +kernel
theorem k346_63 : decode (gb 346) 63 = .ok (.iconst 2, 1) := by decide +kernel
theorem k346_64 : decode (gb 346) 64 = .ok (.iadd, 1) := by decide +kernel
theorem k346_65 : decode (gb 346) 65 = .ok (.iaload, 1) := by decide +kernel
theorem k346_66 : decode (gb 346) 66 = .ok (.bipush 6, 2) := by decide +kernel
theorem k346_68 : decode (gb 346) 68 = .ok (.ishr, 1) := by decide +kernel
theorem k346_69 : decode (gb 346) 69 = .ok (.iconst 3, 1) := by decide +kernel
theorem k346_70 : decode (gb 346) 70 = .ok (.if_icmp .ne 19, 3) := by decide +kernel
theorem k346_73 : decode (gb 346) 73 = .ok (.aload 4, 2) := by decide +kernel
theorem k346_75 : decode (gb 346) 75 = .ok (.iload_n 2, 1) := by decide +kernel
theorem k346_76 : decode (gb 346) 76 = .ok (.bipush 6, 2) := by decide +kernel
theorem k346_78 : decode (gb 346) 78 = .ok (.iadd, 1) := by decide +kernel
theorem k346_79 : decode (gb 346) 79 = .ok (.iaload, 1) := by decide +kernel
theorem k346_80 : decode (gb 346) 80 = .ok (.bipush 32, 2) := by decide +kernel
theorem k346_82 : decode (gb 346) 82 = .ok (.if_icmp .ne 7, 3) := by decide +kernel
theorem k346_85 : decode (gb 346) 85 = .ok (.iconst 1, 1) := by decide +kernel
theorem k346_86 : decode (gb 346) 86 = .ok (.goto 4, 3) := by decide +kernel
theorem k346_89 : decode (gb 346) 89 = .ok (.iconst 0, 1) := by decide +kernel
theorem k346_90 : decode (gb 346) 90 = .ok (.istore 5, 2) := by decide +kernel
theorem k346_92 : decode (gb 346) 92 = .ok (.iload 5, 2) := by decide +kernel
theorem k346_94 : decode (gb 346) 94 = .ok (.ifCond .eq 26, 3) := by decide +kernel
theorem k346_97 : decode (gb 346) 97 = .ok (.aload 4, 2) := by decide +kernel
theorem k346_99 : decode (gb 346) 99 = .ok (.iload_n 2, 1) := by decide +kernel
theorem k346_100 : decode (gb 346) 100 = .ok (.iload_n 3, 1) := by decide +kernel
theorem k346_101 : decode (gb 346) 101 = .ok (.iconst 2, 1) := by decide +kernel
theorem k346_102 : decode (gb 346) 102 = .ok (.isub, 1) := by decide +kernel
theorem k346_103 : decode (gb 346) 103 = .ok (.invokestatic 11, 3) := by decide +kernel
theorem k346_106 : decode (gb 346) 106 = .ok (.aload_n 0, 1) := by decide +kernel
theorem k346_107 : decode (gb 346) 107 = .ok (.aload 4, 2) := by decide +kernel
theorem k346_109 : decode (gb 346) 109 = .ok (.iload_n 2, 1) := by decide +kernel
theorem k346_110 : decode (gb 346) 110 = .ok (.iload_n 3, 1) := by decide +kernel
theorem k346_111 : decode (gb 346) 111 = .ok (.iadd, 1) := by decide +kernel
theorem k346_112 : decode (gb 346) 112 = .ok (.iconst 2, 1) := by decide +kernel
theorem k346_113 : decode (gb 346) 113 = .ok (.isub, 1) := by decide +kernel
theorem k346_114 : decode (gb 346) 114 = .ok (.invokevirtual 472, 3) := by decide +kernel
theorem k346_117 : decode (gb 346) 117 = .ok (.if_icmp .eq 14, 3) := by decide +kernel
theorem k346_120 : decode (gb 346) 120 = .ok (.aload_n 0, 1) := by decide +kernel
theorem k346_121 : decode (gb 346) 121 = .ok (.dup, 1) := by decide +kernel
theorem k346_122 : decode (gb 346) 122 = .ok (.getfield 721, 3) := by decide +kernel
theorem k346_125 : decode (gb 346) 125 = .ok (.iconst 1, 1) := by decide +kernel
theorem k346_126 : decode (gb 346) 126 = .ok (.iadd, 1) := by decide +kernel
theorem k346_127 : decode (gb 346) 127 = .ok (.putfield 721, 3) := by decide +kernel
theorem k346_130 : decode (gb 346) 130 = .ok (.return_, 1) := by decide +kernel
theorem k346_131 : decode (gb 346) 131 = .ok (.aload_n 0, 1) := by decide +kernel
theorem k346_132 : decode (gb 346) 132 = .ok (.getfield 724, 3) := by decide +kernel
theorem k346_135 : decode (gb 346) 135 = .ok (.bipush 40, 2) := by decide +kernel
theorem k346_137 : decode (gb 346) 137 = .ok (.irem, 1) := by decide +kernel
theorem k346_138 : decode (gb 346) 138 = .ok (.istore 6, 2) := by decide +kernel
theorem k346_140 : decode (gb 346) 140 = .ok (.aload 4, 2) := by decide +kernel
theorem k346_142 : decode (gb 346) 142 = .ok (.iload_n 2, 1) := by decide +kernel
theorem k346_143 : decode (gb 346) 143 = .ok (.aload_n 0, 1) := by decide +kernel
theorem k346_144 : decode (gb 346) 144 = .ok (.getfield 727, 3) := by decide +kernel
theorem k346_147 : decode (gb 346) 147 = .ok (.bipush 120, 2) := by decide +kernel
theorem k346_149 : decode (gb 346) 149 = .ok (.iload 6, 2) := by decide +kernel
theorem k346_151 : decode (gb 346) 151 = .ok (.imul, 1) := by decide +kernel
theorem k346_152 : decode (gb 346) 152 = .ok (.iload_n 3, 1) := by decide +kernel
theorem k346_153 : decode (gb 346) 153 = .ok (.invokestatic 228, 3) := by decide +kernel
theorem k346_156 : decode (gb 346) 156 = .ok (.aload_n 0, 1) := by decide +kernel
theorem k346_157 : decode (gb 346) 157 = .ok (.getfield 730, 3) := by decide +kernel
theorem k346_160 : decode (gb 346) 160 = .ok (.iload 6, 2) := by decide +kernel
theorem k346_162 : decode (gb 346) 162 = .ok (.iload_n 3, 1) := by decide +kernel
theorem k346_163 : decode (gb 346) 163 = .ok (.iastore, 1) := by decide +kernel
theorem k346_164 : decode (gb 346) 164 = .ok (.aload_n 0, 1) := by decide +kernel
theorem k346_165 : decode (gb 346) 165 = .ok (.getfield 733, 3) := by decide +kernel
theorem k346_168 : decode (gb 346) 168 = .ok (.iload 6, 2) := by decide +kernel
theorem k346_170 : decode (gb 346) 170 = .ok (.iload_n 1, 1) := by decide +kernel
theorem k346_171 : decode (gb 346) 171 = .ok (.iastore, 1) := by decide +kernel
theorem k346_172 : decode (gb 346) 172 = .ok (.aload_n 0, 1) := by decide +kernel
theorem k346_173 : decode (gb 346) 173 = .ok (.dup, 1) := by decide +kernel
theorem k346_174 : decode (gb 346) 174 = .ok (.getfield 724, 3) := by decide +kernel
theorem k346_177 : decode (gb 346) 177 = .ok (.iconst 1, 1) := by decide +kernel
theorem k346_178 : decode (gb 346) 178 = .ok (.iadd, 1) := by decide +kernel
theorem k346_179 : decode (gb 346) 179 = .ok (.putfield 724, 3) := by decide +kernel
theorem k346_182 : decode (gb 346) 182 = .ok (.aload_n 0, 1) := by decide +kernel
theorem k346_183 : decode (gb 346) 183 = .ok (.aload 4, 2) := by decide +kernel
theorem k346_185 : decode (gb 346) 185 = .ok (.iload_n 2, 1) := by decide +kernel
theorem k346_186 : decode (gb 346) 186 = .ok (.iconst 2, 1) := by decide +kernel
theorem k346_187 : decode (gb 346) 187 = .ok (.iadd, 1) := by decide +kernel
theorem k346_188 : decode (gb 346) 188 = .ok (.invokevirtual 472, 3) := by decide +kernel
theorem k346_191 : decode (gb 346) 191 = .ok (.sipush 16383, 3) := by decide +kernel
theorem k346_194 : decode (gb 346) 194 = .ok (.iand, 1) := by decide +kernel
theorem k346_195 : decode (gb 346) 195 = .ok (.istore 7, 2) := by decide +kernel
theorem k346_197 : decode (gb 346) 197 = .ok (.iload_n 1, 1) := by decide +kernel
theorem k346_198 : decode (gb 346) 198 = .ok (.ifCond .ne 44, 3) := by decide +kernel
theorem k346_201 : decode (gb 346) 201 = .ok (.aload_n 0, 1) := by decide +kernel
theorem k346_202 : decode (gb 346) 202 = .ok (.dup, 1) := by decide +kernel
theorem k346_203 : decode (gb 346) 203 = .ok (.getfield 736, 3) := by decide +kernel
theorem k346_206 : decode (gb 346) 206 = .ok (.aload_n 0, 1) := by decide +kernel
theorem k346_207 : decode (gb 346) 207 = .ok (.getfield 739, 3) := by decide +kernel
theorem k346_210 : decode (gb 346) 210 = .ok (.bipush (-2), 2) := by decide +kernel
theorem k346_212 : decode (gb 346) 212 = .ok (.if_icmp .ne 7, 3) := by decide +kernel
theorem k346_215 : decode (gb 346) 215 = .ok (.iconst 0, 1) := by decide +kernel
theorem k346_216 : decode (gb 346) 216 = .ok (.goto 16, 3) := by decide +kernel
theorem k346_219 : decode (gb 346) 219 = .ok (.iload 7, 2) := by decide +kernel
theorem k346_221 : decode (gb 346) 221 = .ok (.aload_n 0, 1) := by decide +kernel
theorem k346_222 : decode (gb 346) 222 = .ok (.getfield 739, 3) := by decide +kernel
theorem k346_225 : decode (gb 346) 225 = .ok (.isub, 1) := by decide +kernel
theorem k346_226 : decode (gb 346) 226 = .ok (.iconst 1, 1) := by decide +kernel
theorem k346_227 : decode (gb 346) 227 = .ok (.isub, 1) := by decide +kernel
theorem k346_228 : decode (gb 346) 228 = .ok (.sipush 16383, 3) := by decide +kernel
theorem k346_231 : decode (gb 346) 231 = .ok (.iand, 1) := by decide +kernel
theorem k346_232 : decode (gb 346) 232 = .ok (.iadd, 1) := by decide +kernel
theorem k346_233 : decode (gb 346) 233 = .ok (.putfield 736, 3) := by decide +kernel
theorem k346_236 : decode (gb 346) 236 = .ok (.aload_n 0, 1) := by decide +kernel
theorem k346_237 : decode (gb 346) 237 = .ok (.iload 7, 2) := by decide +kernel
theorem k346_239 : decode (gb 346) 239 = .ok (.putfield 739, 3) := by decide +kernel
theorem k346_242 : decode (gb 346) 242 = .ok (.aload 4, 2) := by decide +kernel
theorem k346_244 : decode (gb 346) 244 = .ok (.iload_n 2, 1) := by decide +kernel
theorem k346_245 : decode (gb 346) 245 = .ok (.bipush 7, 2) := by decide +kernel
theorem k346_247 : decode (gb 346) 247 = .ok (.iadd, 1) := by decide +kernel
theorem k346_248 : decode (gb 346) 248 = .ok (.iaload, 1) := by decide +kernel
theorem k346_249 : decode (gb 346) 249 = .ok (.istore 8, 2) := by decide +kernel
theorem k346_251 : decode (gb 346) 251 = .ok (.aload 4, 2) := by decide +kernel
theorem k346_253 : decode (gb 346) 253 = .ok (.iload_n 2, 1) := by decide +kernel
theorem k346_254 : decode (gb 346) 254 = .ok (.bipush 8, 2) := by decide +kernel
theorem k346_256 : decode (gb 346) 256 = .ok (.iadd, 1) := by decide +kernel
theorem k346_257 : decode (gb 346) 257 = .ok (.iaload, 1) := by decide +kernel
theorem k346_258 : decode (gb 346) 258 = .ok (.istore 9, 2) := by decide +kernel
theorem k346_260 : decode (gb 346) 260 = .ok (.aload 4, 2) := by decide +kernel
theorem k346_262 : decode (gb 346) 262 = .ok (.iload_n 2, 1) := by decide +kernel
theorem k346_263 : decode (gb 346) 263 = .ok (.bipush 9, 2) := by decide +kernel
theorem k346_265 : decode (gb 346) 265 = .ok (.iadd, 1) := by decide +kernel
theorem k346_266 : decode (gb 346) 266 = .ok (.invokestatic 545, 3) := by decide +kernel
theorem k346_269 : decode (gb 346) 269 = .ok (.istore 10, 2) := by decide +kernel
theorem k346_271 : decode (gb 346) 271 = .ok (.iload_n 2, 1) := by decide +kernel
theorem k346_272 : decode (gb 346) 272 = .ok (.bipush 13, 2) := by decide +kernel
theorem k346_274 : decode (gb 346) 274 = .ok (.iadd, 1) := by decide +kernel
theorem k346_275 : decode (gb 346) 275 = .ok (.istore 11, 2) := by decide +kernel
theorem k346_277 : decode (gb 346) 277 = .ok (.iload_n 2, 1) := by decide +kernel
theorem k346_278 : decode (gb 346) 278 = .ok (.iload_n 3, 1) := by decide +kernel
theorem k346_279 : decode (gb 346) 279 = .ok (.iadd, 1) := by decide +kernel
theorem k346_280 : decode (gb 346) 280 = .ok (.iconst 2, 1) := by decide +kernel
theorem k346_281 : decode (gb 346) 281 = .ok (.isub, 1) := by decide +kernel
theorem k346_282 : decode (gb 346) 282 = .ok (.istore 12, 2) := by decide +kernel
theorem k346_284 : decode (gb 346) 284 = .ok (.iload 8, 2) := by decide +kernel
theorem k346_286 : decode (gb 346) 286 = .ok (.bipush 20, 2) := by decide +kernel
theorem k346_288 : decode (gb 346) 288 = .ok (.if_icmp .ne 36, 3) := by decide +kernel
theorem k346_291 : decode (gb 346) 291 = .ok (.iload 9, 2) := by decide +kernel
theorem k346_293 : decode (gb 346) 293 = .ok (.iconst 2, 1) := by decide +kernel
theorem k346_294 : decode (gb 346) 294 = .ok (.if_icmp .ne 30, 3) := by decide +kernel
theorem k346_297 : decode (gb 346) 297 = .ok (.iload 11, 2) := by decide +kernel
theorem k346_299 : decode (gb 346) 299 = .ok (.iload 12, 2) := by decide +kernel
theorem k346_301 : decode (gb 346) 301 = .ok (.if_icmp .ge 23, 3) := by decide +kernel
theorem k346_304 : decode (gb 346) 304 = .ok (.aload_n 0, 1) := by decide +kernel
theorem k346_305 : decode (gb 346) 305 = .ok (.iload 11, 2) := by decide +kernel
theorem k346_307 : decode (gb 346) 307 = .ok (.iconst 1, 1) := by decide +kernel
theorem k346_308 : decode (gb 346) 308 = .ok (.iadd, 1) := by decide +kernel
theorem k346_309 : decode (gb 346) 309 = .ok (.aload 4, 2) := by decide +kernel
theorem k346_311 : decode (gb 346) 311 = .ok (.iload 11, 2) := by decide +kernel
theorem k346_313 : decode (gb 346) 313 = .ok (.iaload, 1) := by decide +kernel
theorem k346_314 : decode (gb 346) 314 = .ok (.iload 12, 2) := by decide +kernel
theorem k346_316 : decode (gb 346) 316 = .ok (.iload 10, 2) := by decide +kernel
theorem k346_318 : decode (gb 346) 318 = .ok (.invokevirtual 742, 3) := by decide +kernel
theorem k346_321 : decode (gb 346) 321 = .ok (.goto 66, 3) := by decide +kernel
theorem k346_324 : decode (gb 346) 324 = .ok (.iload 8, 2) := by decide +kernel
theorem k346_326 : decode (gb 346) 326 = .ok (.iconst 3, 1) := by decide +kernel
theorem k346_327 : decode (gb 346) 327 = .ok (.if_icmp .ne 41, 3) := by decide +kernel
theorem k346_330 : decode (gb 346) 330 = .ok (.iload 9, 2) := by decide +kernel
theorem k346_332 : decode (gb 346) 332 = .ok (.bipush 25, 2) := by decide +kernel
theorem k346_334 : decode (gb 346) 334 = .ok (.if_icmp .ne 34, 3) := by decide +kernel
theorem k346_337 : decode (gb 346) 337 = .ok (.iload 11, 2) := by decide +kernel
theorem k346_339 : decode (gb 346) 339 = .ok (.iconst 1, 1) := by decide +kernel
theorem k346_340 : decode (gb 346) 340 = .ok (.iadd, 1) := by decide +kernel
theorem k346_341 : decode (gb 346) 341 = .ok (.iload 12, 2) := by decide +kernel
theorem k346_343 : decode (gb 346) 343 = .ok (.if_icmp .ge 25, 3) := by decide +kernel
theorem k346_346 : decode (gb 346) 346 = .ok (.aload_n 0, 1) := by decide +kernel
theorem k346_347 : decode (gb 346) 347 = .ok (.iload 11, 2) := by decide +kernel
theorem k346_349 : decode (gb 346) 349 = .ok (.iconst 2, 1) := by decide +kernel
theorem k346_350 : decode (gb 346) 350 = .ok (.iadd, 1) := by decide +kernel
theorem k346_351 : decode (gb 346) 351 = .ok (.aload 4, 2) := by decide +kernel
theorem k346_353 : decode (gb 346) 353 = .ok (.iload 11, 2) := by decide +kernel
theorem k346_355 : decode (gb 346) 355 = .ok (.iconst 1, 1) := by decide +kernel
theorem k346_356 : decode (gb 346) 356 = .ok (.iadd, 1) := by decide +kernel
theorem k346_357 : decode (gb 346) 357 = .ok (.iaload, 1) := by decide +kernel
theorem k346_358 : decode (gb 346) 358 = .ok (.iload 12, 2) := by decide +kernel
theorem k346_360 : decode (gb 346) 360 = .ok (.iload 10, 2) := by decide +kernel
theorem k346_362 : decode (gb 346) 362 = .ok (.invokevirtual 742, 3) := by decide +kernel
theorem k346_365 : decode (gb 346) 365 = .ok (.goto 22, 3) := by decide +kernel
theorem k346_368 : decode (gb 346) 368 = .ok (.iload 8, 2) := by decide +kernel
theorem k346_370 : decode (gb 346) 370 = .ok (.iconst 1, 1) := by decide +kernel
theorem k346_371 : decode (gb 346) 371 = .ok (.if_icmp .ne 16, 3) := by decide +kernel
theorem k346_374 : decode (gb 346) 374 = .ok (.aload_n 0, 1) := by decide +kernel
theorem k346_375 : decode (gb 346) 375 = .ok (.iload 9, 2) := by decide +kernel
theorem k346_377 : decode (gb 346) 377 = .ok (.iload 11, 2) := by decide +kernel
theorem k346_379 : decode (gb 346) 379 = .ok (.iload 12, 2) := by decide +kernel
theorem k346_381 : decode (gb 346) 381 = .ok (.iload 11, 2) := by decide +kernel
theorem k346_383 : decode (gb 346) 383 = .ok (.isub, 1) := by decide +kernel
theorem k346_384 : decode (gb 346) 384 = .ok (.invokevirtual 745, 3) := by decide +kernel
theorem k346_387 : decode (gb 346) 387 = .ok (.return_, 1) := by decide +kernel
def c346_120 (μ : Mem) : Option (Mem) :=
  (pfI 129 144 ((μ.1 129 144) + (1 : Int32)) μ).bind fun m1 =>
  some m1
theorem c346_120_ok {L : Nat} (μ : Mem) (res : Mem) (h : c346_120 μ = some res) : Sx 346 120 [(0, .ref 129)] [] 0 0 (mk L μ) (mk L res, none) := by
  unfold c346_120 at h
  refine sx_aload_n (i := 0) k346_120 rfl rfl ?_
  refine sx_dup k346_121 rfl ?_
  refine cx_getI (k := 144) k346_122 ow_346 fl_12_721 (by decide) sk_129 ft_11_144 ?_
  refine sx_iconst (v := 1) k346_125 (by decide) ?_
  refine sx_iadd k346_126 ?_
  obtain ⟨m1, e2, h⟩ := Option.bind_eq_some_iff.mp h
  refine cx_putI (k := 144) k346_127 ow_346 fl_12_721 (by decide) sk_129 nf_11_144 fu_11_144 e2 ?_
  exact cx_retv k346_130 rt_346 h
def c346_368 (v8 : Int32) (v9 : Int32) (v11 : Int32) (v12 : Int32) (μ : Mem) : Option (Mem) :=
  if v8 = (1 : Int32) then
    (f348 v9 v11 (v12 - v11) μ).bind fun r2 =>
    some r2
  else
    some μ
theorem c346_368_ok {L : Nat} (v8 : Int32) (v9 : Int32) (v11 : Int32) (v12 : Int32) (μ : Mem) (res : Mem) (h : c346_368 v8 v9 v11 v12 μ = some res) : Sx 346 368 [(0, .ref 129), (8, .int v8), (9, .int v9), (11, .int v11), (12, .int v12)] [] 0 0 (mk L μ) (mk L res, none) := by
  unfold c346_368 at h
  refine sx_iload k346_368 rfl ?_
  refine sx_iconst (v := 1) k346_370 (by decide) ?_
  by_cases hb1 : v8 = (1 : Int32)
  · rw [if_pos hb1] at h
    refine sx_icmp_ne (tgt := 387) k346_371 (by decide) (fun q => absurd hb1 q) (fun _ => ?_)
    refine sx_aload_n (i := 0) k346_374 rfl rfl ?_
    refine sx_iload k346_375 rfl ?_
    refine sx_iload k346_377 rfl ?_
    refine sx_iload k346_379 rfl ?_
    refine sx_iload k346_381 rfl ?_
    refine sx_isub k346_383 ?_
    obtain ⟨r2, e3, h⟩ := Option.bind_eq_some_iff.mp h
    refine cx_V (sk := []) (vs := [.int v9, .int v11, .int (v12 - v11)]) st_346_348 k346_384 ow_346 cl_12_745 (by decide) rfl (Nat.le_of_ble_eq_true rfl) sk_129 (ok348 v9 v11 (v12 - v11) _ _ e3) (sk3 := []) rfl rfl ?_
    exact cx_retv k346_387 rt_346 h
  · rw [if_neg hb1] at h
    refine sx_icmp_ne (tgt := 387) k346_371 (by decide) (fun _ => ?_) (fun q => absurd q hb1)
    exact cx_retv k346_387 rt_346 h
def c346_324 (v8 : Int32) (v9 : Int32) (v10 : Int32) (v11 : Int32) (v12 : Int32) (μ : Mem) : Option (Mem) :=
  if v8 = (3 : Int32) then
    if v9 = (25 : Int32) then
      if v12 ≤ (v11 + (1 : Int32)) then
        c346_368 v8 v9 v11 v12 μ
      else
        (ldA 161 (v11 + (1 : Int32)) μ).bind fun x4 =>
        (f347 (v11 + (2 : Int32)) x4 v12 v10 μ).bind fun r6 =>
        some r6
    else
      c346_368 v8 v9 v11 v12 μ
  else
    c346_368 v8 v9 v11 v12 μ
theorem c346_324_ok {L : Nat} (v8 : Int32) (v9 : Int32) (v10 : Int32) (v11 : Int32) (v12 : Int32) (μ : Mem) (res : Mem) (h : c346_324 v8 v9 v10 v11 v12 μ = some res) : Sx 346 324 [(0, .ref 129), (4, .ref 161), (8, .int v8), (9, .int v9), (10, .int v10), (11, .int v11), (12, .int v12)] [] 0 0 (mk L μ) (mk L res, none) := by
  unfold c346_324 at h
  refine sx_iload k346_324 rfl ?_
  refine sx_iconst (v := 3) k346_326 (by decide) ?_
  by_cases hb1 : v8 = (3 : Int32)
  · rw [if_pos hb1] at h
    refine sx_icmp_ne (tgt := 368) k346_327 (by decide) (fun q => absurd hb1 q) (fun _ => ?_)
    refine sx_iload k346_330 rfl ?_
    refine sx_bipush (v := 25) k346_332 (by decide) ?_
    by_cases hb2 : v9 = (25 : Int32)
    · rw [if_pos hb2] at h
      refine sx_icmp_ne (tgt := 368) k346_334 (by decide) (fun q => absurd hb2 q) (fun _ => ?_)
      refine sx_iload k346_337 rfl ?_
      refine sx_iconst (v := 1) k346_339 (by decide) ?_
      refine sx_iadd k346_340 ?_
      refine sx_iload k346_341 rfl ?_
      by_cases hb3 : v12 ≤ (v11 + (1 : Int32))
      · rw [if_pos hb3] at h
        refine sx_icmp_ge (tgt := 368) k346_343 (by decide) (fun _ => ?_) (fun q => absurd hb3 q)
        refine sx_pick (lo2 := [(0, .ref 129), (8, .int v8), (9, .int v9), (11, .int v11), (12, .int v12)]) [0, 2, 3, 5, 6] rfl ?_
        exact c346_368_ok v8 v9 v11 v12 _ _ h
      · rw [if_neg hb3] at h
        refine sx_icmp_ge (tgt := 368) k346_343 (by decide) (fun q => absurd q hb3) (fun _ => ?_)
        refine sx_aload_n (i := 0) k346_346 rfl rfl ?_
        refine sx_iload k346_347 rfl ?_
        refine sx_iconst (v := 2) k346_349 (by decide) ?_
        refine sx_iadd k346_350 ?_
        refine sx_aload k346_351 rfl ?_
        refine sx_iload k346_353 rfl ?_
        refine sx_iconst (v := 1) k346_355 (by decide) ?_
        refine sx_iadd k346_356 ?_
        obtain ⟨x4, e5, h⟩ := Option.bind_eq_some_iff.mp h
        refine cx_iald k346_357 sk_161 e5 ?_
        refine sx_iload k346_358 rfl ?_
        refine sx_iload k346_360 rfl ?_
        obtain ⟨r6, e7, h⟩ := Option.bind_eq_some_iff.mp h
        refine cx_V (sk := []) (vs := [.int (v11 + (2 : Int32)), .int x4, .int v12, .int v10]) st_346_347 k346_362 ow_346 cl_12_742 (by decide) rfl (Nat.le_of_ble_eq_true rfl) sk_129 (ok347 (v11 + (2 : Int32)) x4 v12 v10 _ _ e7) (sk3 := []) rfl rfl ?_
        refine sx_goto (tgt := 387) k346_365 (by decide) ?_
        exact cx_retv k346_387 rt_346 h
    · rw [if_neg hb2] at h
      refine sx_icmp_ne (tgt := 368) k346_334 (by decide) (fun _ => ?_) (fun q => absurd q hb2)
      refine sx_pick (lo2 := [(0, .ref 129), (8, .int v8), (9, .int v9), (11, .int v11), (12, .int v12)]) [0, 2, 3, 5, 6] rfl ?_
      exact c346_368_ok v8 v9 v11 v12 _ _ h
  · rw [if_neg hb1] at h
    refine sx_icmp_ne (tgt := 368) k346_327 (by decide) (fun _ => ?_) (fun q => absurd q hb1)
    refine sx_pick (lo2 := [(0, .ref 129), (8, .int v8), (9, .int v9), (11, .int v11), (12, .int v12)]) [0, 2, 3, 5, 6] rfl ?_
    exact c346_368_ok v8 v9 v11 v12 _ _ h
def c346_242 (v2 : Int32) (v3 : Int32) (μ : Mem) : Option (Mem) :=
  (ldA 161 (v2 + (7 : Int32)) μ).bind fun x1 =>
  (ldA 161 (v2 + (8 : Int32)) μ).bind fun x3 =>
  (f314 161 (v2 + (9 : Int32)) μ).bind fun r5 =>
  nm (v2 + (13 : Int32)) fun x7 =>
  nm ((v2 + v3) - (2 : Int32)) fun x8 =>
  if x1 = (20 : Int32) then
    if x3 = (2 : Int32) then
      if x8 ≤ x7 then
        c346_324 x1 x3 r5.2 x7 x8 r5.1
      else
        (ldA 161 x7 r5.1).bind fun x12 =>
        (f347 (x7 + (1 : Int32)) x12 x8 r5.2 r5.1).bind fun r14 =>
        some r14
    else
      c346_324 x1 x3 r5.2 x7 x8 r5.1
  else
    c346_324 x1 x3 r5.2 x7 x8 r5.1
theorem c346_242_ok {L : Nat} (v2 : Int32) (v3 : Int32) (μ : Mem) (res : Mem) (h : c346_242 v2 v3 μ = some res) : Sx 346 242 [(0, .ref 129), (2, .int v2), (3, .int v3), (4, .ref 161)] [] 0 0 (mk L μ) (mk L res, none) := by
  unfold c346_242 at h
  refine sx_aload k346_242 rfl ?_
  refine sx_iload_n (i := 2) k346_244 rfl rfl ?_
  refine sx_bipush (v := 7) k346_245 (by decide) ?_
  refine sx_iadd k346_247 ?_
  obtain ⟨x1, e2, h⟩ := Option.bind_eq_some_iff.mp h
  refine cx_iald k346_248 sk_161 e2 ?_
  refine cx_istore (lo2 := [(8, .int x1), (0, .ref 129), (2, .int v2), (3, .int v3), (4, .ref 161)]) k346_249 (by rw [mx_346]; decide) rfl ?_
  refine sx_aload k346_251 rfl ?_
  refine sx_iload_n (i := 2) k346_253 rfl rfl ?_
  refine sx_bipush (v := 8) k346_254 (by decide) ?_
  refine sx_iadd k346_256 ?_
  obtain ⟨x3, e4, h⟩ := Option.bind_eq_some_iff.mp h
  refine cx_iald k346_257 sk_161 e4 ?_
  refine cx_istore (lo2 := [(9, .int x3), (8, .int x1), (0, .ref 129), (2, .int v2), (3, .int v3), (4, .ref 161)]) k346_258 (by rw [mx_346]; decide) rfl ?_
  refine sx_aload k346_260 rfl ?_
  refine sx_iload_n (i := 2) k346_262 rfl rfl ?_
  refine sx_bipush (v := 9) k346_263 (by decide) ?_
  refine sx_iadd k346_265 ?_
  obtain ⟨r5, e6, h⟩ := Option.bind_eq_some_iff.mp h
  refine cx_S (sk := []) (vs := [.ref 161, .int (v2 + (9 : Int32))]) st_346_314 k346_266 ow_346 cl_12_545 (by decide) rfl (Nat.le_of_ble_eq_true rfl) (ok314 161 (v2 + (9 : Int32)) sk_161 _ _ e6) (sk3 := [.int r5.2]) rfl rfl ?_
  refine cx_istore (lo2 := [(10, .int r5.2), (9, .int x3), (8, .int x1), (0, .ref 129), (2, .int v2), (3, .int v3), (4, .ref 161)]) k346_269 (by rw [mx_346]; decide) rfl ?_
  refine sx_iload_n (i := 2) k346_271 rfl rfl ?_
  refine sx_bipush (v := 13) k346_272 (by decide) ?_
  refine sx_iadd k346_274 ?_
  refine cx_nm h (fun x7 h => ?_)
  refine cx_istore (lo2 := [(11, .int x7), (10, .int r5.2), (9, .int x3), (8, .int x1), (0, .ref 129), (2, .int v2), (3, .int v3), (4, .ref 161)]) k346_275 (by rw [mx_346]; decide) rfl ?_
  refine sx_iload_n (i := 2) k346_277 rfl rfl ?_
  refine sx_iload_n (i := 3) k346_278 rfl rfl ?_
  refine sx_iadd k346_279 ?_
  refine sx_iconst (v := 2) k346_280 (by decide) ?_
  refine sx_isub k346_281 ?_
  refine cx_nm h (fun x8 h => ?_)
  refine cx_istore (lo2 := [(12, .int x8), (11, .int x7), (10, .int r5.2), (9, .int x3), (8, .int x1), (0, .ref 129), (2, .int v2), (3, .int v3), (4, .ref 161)]) k346_282 (by rw [mx_346]; decide) rfl ?_
  refine sx_iload k346_284 rfl ?_
  refine sx_bipush (v := 20) k346_286 (by decide) ?_
  by_cases hb9 : x1 = (20 : Int32)
  · rw [if_pos hb9] at h
    refine sx_icmp_ne (tgt := 324) k346_288 (by decide) (fun q => absurd hb9 q) (fun _ => ?_)
    refine sx_iload k346_291 rfl ?_
    refine sx_iconst (v := 2) k346_293 (by decide) ?_
    by_cases hb10 : x3 = (2 : Int32)
    · rw [if_pos hb10] at h
      refine sx_icmp_ne (tgt := 324) k346_294 (by decide) (fun q => absurd hb10 q) (fun _ => ?_)
      refine sx_iload k346_297 rfl ?_
      refine sx_iload k346_299 rfl ?_
      by_cases hb11 : x8 ≤ x7
      · rw [if_pos hb11] at h
        refine sx_icmp_ge (tgt := 324) k346_301 (by decide) (fun _ => ?_) (fun q => absurd hb11 q)
        refine sx_pick (lo2 := [(0, .ref 129), (4, .ref 161), (8, .int x1), (9, .int x3), (10, .int r5.2), (11, .int x7), (12, .int x8)]) [5, 8, 4, 3, 2, 1, 0] rfl ?_
        exact c346_324_ok x1 x3 r5.2 x7 x8 _ _ h
      · rw [if_neg hb11] at h
        refine sx_icmp_ge (tgt := 324) k346_301 (by decide) (fun q => absurd q hb11) (fun _ => ?_)
        refine sx_aload_n (i := 0) k346_304 rfl rfl ?_
        refine sx_iload k346_305 rfl ?_
        refine sx_iconst (v := 1) k346_307 (by decide) ?_
        refine sx_iadd k346_308 ?_
        refine sx_aload k346_309 rfl ?_
        refine sx_iload k346_311 rfl ?_
        obtain ⟨x12, e13, h⟩ := Option.bind_eq_some_iff.mp h
        refine cx_iald k346_313 sk_161 e13 ?_
        refine sx_iload k346_314 rfl ?_
        refine sx_iload k346_316 rfl ?_
        obtain ⟨r14, e15, h⟩ := Option.bind_eq_some_iff.mp h
        refine cx_V (sk := []) (vs := [.int (x7 + (1 : Int32)), .int x12, .int x8, .int r5.2]) st_346_347 k346_318 ow_346 cl_12_742 (by decide) rfl (Nat.le_of_ble_eq_true rfl) sk_129 (ok347 (x7 + (1 : Int32)) x12 x8 r5.2 _ _ e15) (sk3 := []) rfl rfl ?_
        refine sx_goto (tgt := 387) k346_321 (by decide) ?_
        exact cx_retv k346_387 rt_346 h
    · rw [if_neg hb10] at h
      refine sx_icmp_ne (tgt := 324) k346_294 (by decide) (fun _ => ?_) (fun q => absurd q hb10)
      refine sx_pick (lo2 := [(0, .ref 129), (4, .ref 161), (8, .int x1), (9, .int x3), (10, .int r5.2), (11, .int x7), (12, .int x8)]) [5, 8, 4, 3, 2, 1, 0] rfl ?_
      exact c346_324_ok x1 x3 r5.2 x7 x8 _ _ h
  · rw [if_neg hb9] at h
    refine sx_icmp_ne (tgt := 324) k346_288 (by decide) (fun _ => ?_) (fun q => absurd q hb9)
    refine sx_pick (lo2 := [(0, .ref 129), (4, .ref 161), (8, .int x1), (9, .int x3), (10, .int r5.2), (11, .int x7), (12, .int x8)]) [5, 8, 4, 3, 2, 1, 0] rfl ?_
    exact c346_324_ok x1 x3 r5.2 x7 x8 _ _ h
def c346_232 (v2 : Int32) (v3 : Int32) (v7 : Int32) (s1 : Int32) (s2 : Int32) (μ : Mem) : Option (Mem) :=
  (pfI 129 145 (s1 + s2) μ).bind fun m1 =>
  (pfI 129 146 v7 m1).bind fun m3 =>
  c346_242 v2 v3 m3
theorem c346_232_ok {L : Nat} (v2 : Int32) (v3 : Int32) (v7 : Int32) (s1 : Int32) (s2 : Int32) (μ : Mem) (res : Mem) (h : c346_232 v2 v3 v7 s1 s2 μ = some res) : Sx 346 232 [(0, .ref 129), (2, .int v2), (3, .int v3), (4, .ref 161), (7, .int v7)] [.int s2, .int s1, .ref 129] 0 0 (mk L μ) (mk L res, none) := by
  unfold c346_232 at h
  refine sx_iadd k346_232 ?_
  obtain ⟨m1, e2, h⟩ := Option.bind_eq_some_iff.mp h
  refine cx_putI (k := 145) k346_233 ow_346 fl_12_736 (by decide) sk_129 nf_11_145 fu_11_145 e2 ?_
  refine sx_aload_n (i := 0) k346_236 rfl rfl ?_
  refine sx_iload k346_237 rfl ?_
  obtain ⟨m3, e4, h⟩ := Option.bind_eq_some_iff.mp h
  refine cx_putI (k := 146) k346_239 ow_346 fl_12_739 (by decide) sk_129 nf_11_146 fu_11_146 e4 ?_
  refine sx_pick (lo2 := [(0, .ref 129), (2, .int v2), (3, .int v3), (4, .ref 161)]) [0, 1, 2, 3] rfl ?_
  exact c346_242_ok v2 v3 _ _ h
def c346_90 (v1 : Int32) (v2 : Int32) (v3 : Int32) (s0 : Int32) (μ : Mem) : Option (Mem) :=
  if s0 = 0 then
    c346_120 μ
  else
    (f245 161 v2 (v3 - (2 : Int32)) μ).bind fun r2 =>
    (f313 161 ((v2 + v3) - (2 : Int32)) r2.1).bind fun r4 =>
    if r2.2 = r4.2 then
      nm (jrem (r4.1.1 129 147) (40 : Int32)) fun x7 =>
      (f273 161 v2 215 ((120 : Int32) * x7) v3 r4.1).bind fun r8 =>
      (stA 216 x7 v3 r8).bind fun m10 =>
      (stA 217 x7 v1 m10).bind fun m12 =>
      (pfI 129 147 ((m12.1 129 147) + (1 : Int32)) m12).bind fun m14 =>
      (f313 161 (v2 + (2 : Int32)) m14).bind fun r16 =>
      nm (r16.2 &&& (16383 : Int32)) fun x18 =>
      if v1 = 0 then
        if (r16.1.1 129 146) = (-2 : Int32) then
          c346_232 v2 v3 x18 (r16.1.1 129 145) (0 : Int32) r16.1
        else
          c346_232 v2 v3 x18 (r16.1.1 129 145) (((x18 - (r16.1.1 129 146)) - (1 : Int32)) &&& (16383 : Int32)) r16.1
      else
        c346_242 v2 v3 r16.1
    else
      c346_120 r4.1
theorem c346_90_ok {L : Nat} (v1 : Int32) (v2 : Int32) (v3 : Int32) (s0 : Int32) (μ : Mem) (res : Mem) (h : c346_90 v1 v2 v3 s0 μ = some res) : Sx 346 90 [(0, .ref 129), (1, .int v1), (2, .int v2), (3, .int v3), (4, .ref 161)] [.int s0] 0 0 (mk L μ) (mk L res, none) := by
  unfold c346_90 at h
  refine cx_istore (lo2 := [(5, .int s0), (0, .ref 129), (1, .int v1), (2, .int v2), (3, .int v3), (4, .ref 161)]) k346_90 (by rw [mx_346]; decide) rfl ?_
  refine sx_iload k346_92 rfl ?_
  by_cases hb1 : s0 = 0
  · rw [if_pos hb1] at h
    refine sx_if_eq (tgt := 120) k346_94 (by decide) (fun _ => ?_) (fun q => absurd hb1 q)
    refine sx_pick (lo2 := [(0, .ref 129)]) [1] rfl ?_
    exact c346_120_ok _ _ h
  · rw [if_neg hb1] at h
    refine sx_if_eq (tgt := 120) k346_94 (by decide) (fun q => absurd q hb1) (fun _ => ?_)
    refine sx_aload k346_97 rfl ?_
    refine sx_iload_n (i := 2) k346_99 rfl rfl ?_
    refine sx_iload_n (i := 3) k346_100 rfl rfl ?_
    refine sx_iconst (v := 2) k346_101 (by decide) ?_
    refine sx_isub k346_102 ?_
    obtain ⟨r2, e3, h⟩ := Option.bind_eq_some_iff.mp h
    refine cx_S (sk := []) (vs := [.ref 161, .int v2, .int (v3 - (2 : Int32))]) st_346_245 k346_103 ow_346 cl_12_11 (by decide) rfl (Nat.le_of_ble_eq_true rfl) (ok245 161 v2 (v3 - (2 : Int32)) sk_161 _ _ e3) (sk3 := [.int r2.2]) rfl rfl ?_
    refine sx_aload_n (i := 0) k346_106 rfl rfl ?_
    refine sx_aload k346_107 rfl ?_
    refine sx_iload_n (i := 2) k346_109 rfl rfl ?_
    refine sx_iload_n (i := 3) k346_110 rfl rfl ?_
    refine sx_iadd k346_111 ?_
    refine sx_iconst (v := 2) k346_112 (by decide) ?_
    refine sx_isub k346_113 ?_
    obtain ⟨r4, e5, h⟩ := Option.bind_eq_some_iff.mp h
    refine cx_V (sk := [.int r2.2]) (vs := [.ref 161, .int ((v2 + v3) - (2 : Int32))]) st_346_313 k346_114 ow_346 cl_12_472 (by decide) rfl (Nat.le_of_ble_eq_true rfl) sk_129 (ok313 161 ((v2 + v3) - (2 : Int32)) sk_161 _ _ e5) (sk3 := [.int r4.2, .int r2.2]) rfl rfl ?_
    by_cases hb6 : r2.2 = r4.2
    · rw [if_pos hb6] at h
      refine sx_icmp_eq (tgt := 131) k346_117 (by decide) (fun _ => ?_) (fun q => absurd hb6 q)
      refine sx_aload_n (i := 0) k346_131 rfl rfl ?_
      refine cx_getI (k := 147) k346_132 ow_346 fl_12_724 (by decide) sk_129 ft_11_147 ?_
      refine sx_bipush (v := 40) k346_135 (by decide) ?_
      refine sx_irem k346_137 (by decide) ?_
      refine cx_nm h (fun x7 h => ?_)
      refine cx_istore (lo2 := [(6, .int x7), (5, .int s0), (0, .ref 129), (1, .int v1), (2, .int v2), (3, .int v3), (4, .ref 161)]) k346_138 (by rw [mx_346]; decide) rfl ?_
      refine sx_aload k346_140 rfl ?_
      refine sx_iload_n (i := 2) k346_142 rfl rfl ?_
      refine sx_aload_n (i := 0) k346_143 rfl rfl ?_
      refine cx_getR (k := 148) k346_144 ow_346 fl_12_727 (by decide) sk_129 ft_11_148 sr_129_148 ?_
      refine sx_bipush (v := 120) k346_147 (by decide) ?_
      refine sx_iload k346_149 rfl ?_
      refine sx_imul k346_151 ?_
      refine sx_iload_n (i := 3) k346_152 rfl rfl ?_
      obtain ⟨r8, e9, h⟩ := Option.bind_eq_some_iff.mp h
      refine cx_S (sk := []) (vs := [.ref 161, .int v2, .ref 215, .int ((120 : Int32) * x7), .int v3]) st_346_273 k346_153 ow_346 cl_12_228 (by decide) rfl (Nat.le_of_ble_eq_true rfl) (ok273 161 v2 215 ((120 : Int32) * x7) v3 sk_161 sk_215 _ _ e9) (sk3 := []) rfl rfl ?_
      refine sx_aload_n (i := 0) k346_156 rfl rfl ?_
      refine cx_getR (k := 149) k346_157 ow_346 fl_12_730 (by decide) sk_129 ft_11_149 sr_129_149 ?_
      refine sx_iload k346_160 rfl ?_
      refine sx_iload_n (i := 3) k346_162 rfl rfl ?_
      obtain ⟨m10, e11, h⟩ := Option.bind_eq_some_iff.mp h
      refine cx_iast k346_163 sk_216 e11 ?_
      refine sx_aload_n (i := 0) k346_164 rfl rfl ?_
      refine cx_getR (k := 150) k346_165 ow_346 fl_12_733 (by decide) sk_129 ft_11_150 sr_129_150 ?_
      refine sx_iload k346_168 rfl ?_
      refine sx_iload_n (i := 1) k346_170 rfl rfl ?_
      obtain ⟨m12, e13, h⟩ := Option.bind_eq_some_iff.mp h
      refine cx_iast k346_171 sk_217 e13 ?_
      refine sx_aload_n (i := 0) k346_172 rfl rfl ?_
      refine sx_dup k346_173 rfl ?_
      refine cx_getI (k := 147) k346_174 ow_346 fl_12_724 (by decide) sk_129 ft_11_147 ?_
      refine sx_iconst (v := 1) k346_177 (by decide) ?_
      refine sx_iadd k346_178 ?_
      obtain ⟨m14, e15, h⟩ := Option.bind_eq_some_iff.mp h
      refine cx_putI (k := 147) k346_179 ow_346 fl_12_724 (by decide) sk_129 nf_11_147 fu_11_147 e15 ?_
      refine sx_aload_n (i := 0) k346_182 rfl rfl ?_
      refine sx_aload k346_183 rfl ?_
      refine sx_iload_n (i := 2) k346_185 rfl rfl ?_
      refine sx_iconst (v := 2) k346_186 (by decide) ?_
      refine sx_iadd k346_187 ?_
      obtain ⟨r16, e17, h⟩ := Option.bind_eq_some_iff.mp h
      refine cx_V (sk := []) (vs := [.ref 161, .int (v2 + (2 : Int32))]) st_346_313 k346_188 ow_346 cl_12_472 (by decide) rfl (Nat.le_of_ble_eq_true rfl) sk_129 (ok313 161 (v2 + (2 : Int32)) sk_161 _ _ e17) (sk3 := [.int r16.2]) rfl rfl ?_
      refine sx_sipush (v := 16383) k346_191 (by decide) ?_
      refine sx_iand k346_194 ?_
      refine cx_nm h (fun x18 h => ?_)
      refine cx_istore (lo2 := [(7, .int x18), (6, .int x7), (5, .int s0), (0, .ref 129), (1, .int v1), (2, .int v2), (3, .int v3), (4, .ref 161)]) k346_195 (by rw [mx_346]; decide) rfl ?_
      refine sx_iload_n (i := 1) k346_197 rfl rfl ?_
      by_cases hb19 : v1 = 0
      · rw [if_pos hb19] at h
        refine sx_if_ne (tgt := 242) k346_198 (by decide) (fun q => absurd hb19 q) (fun _ => ?_)
        refine sx_aload_n (i := 0) k346_201 rfl rfl ?_
        refine sx_dup k346_202 rfl ?_
        refine cx_getI (k := 145) k346_203 ow_346 fl_12_736 (by decide) sk_129 ft_11_145 ?_
        refine sx_aload_n (i := 0) k346_206 rfl rfl ?_
        refine cx_getI (k := 146) k346_207 ow_346 fl_12_739 (by decide) sk_129 ft_11_146 ?_
        refine sx_bipush (v := -2) k346_210 (by decide) ?_
        by_cases hb20 : (r16.1.1 129 146) = (-2 : Int32)
        · rw [if_pos hb20] at h
          refine sx_icmp_ne (tgt := 219) k346_212 (by decide) (fun q => absurd hb20 q) (fun _ => ?_)
          refine sx_iconst (v := 0) k346_215 (by decide) ?_
          refine sx_goto (tgt := 232) k346_216 (by decide) ?_
          refine sx_pick (lo2 := [(0, .ref 129), (2, .int v2), (3, .int v3), (4, .ref 161), (7, .int x18)]) [3, 5, 6, 7, 0] rfl ?_
          exact c346_232_ok v2 v3 x18 (r16.1.1 129 145) (0 : Int32) _ _ h
        · rw [if_neg hb20] at h
          refine sx_icmp_ne (tgt := 219) k346_212 (by decide) (fun _ => ?_) (fun q => absurd q hb20)
          refine sx_iload k346_219 rfl ?_
          refine sx_aload_n (i := 0) k346_221 rfl rfl ?_
          refine cx_getI (k := 146) k346_222 ow_346 fl_12_739 (by decide) sk_129 ft_11_146 ?_
          refine sx_isub k346_225 ?_
          refine sx_iconst (v := 1) k346_226 (by decide) ?_
          refine sx_isub k346_227 ?_
          refine sx_sipush (v := 16383) k346_228 (by decide) ?_
          refine sx_iand k346_231 ?_
          refine sx_pick (lo2 := [(0, .ref 129), (2, .int v2), (3, .int v3), (4, .ref 161), (7, .int x18)]) [3, 5, 6, 7, 0] rfl ?_
          exact c346_232_ok v2 v3 x18 (r16.1.1 129 145) (((x18 - (r16.1.1 129 146)) - (1 : Int32)) &&& (16383 : Int32)) _ _ h
      · rw [if_neg hb19] at h
        refine sx_if_ne (tgt := 242) k346_198 (by decide) (fun _ => ?_) (fun q => absurd q hb19)
        refine sx_pick (lo2 := [(0, .ref 129), (2, .int v2), (3, .int v3), (4, .ref 161)]) [3, 5, 6, 7] rfl ?_
        exact c346_242_ok v2 v3 _ _ h
    · rw [if_neg hb6] at h
      refine sx_icmp_eq (tgt := 131) k346_117 (by decide) (fun q => absurd q hb6) (fun _ => ?_)
      refine sx_pick (lo2 := [(0, .ref 129)]) [1] rfl ?_
      exact c346_120_ok _ _ h
def c346_89 (v1 : Int32) (v2 : Int32) (v3 : Int32) (μ : Mem) : Option (Mem) :=
  c346_90 v1 v2 v3 (0 : Int32) μ
theorem c346_89_ok {L : Nat} (v1 : Int32) (v2 : Int32) (v3 : Int32) (μ : Mem) (res : Mem) (h : c346_89 v1 v2 v3 μ = some res) : Sx 346 89 [(0, .ref 129), (1, .int v1), (2, .int v2), (3, .int v3), (4, .ref 161)] [] 0 0 (mk L μ) (mk L res, none) := by
  unfold c346_89 at h
  refine sx_iconst (v := 0) k346_89 (by decide) ?_
  refine sx_pick (lo2 := [(0, .ref 129), (1, .int v1), (2, .int v2), (3, .int v3), (4, .ref 161)]) [0, 1, 2, 3, 4] rfl ?_
  exact c346_90_ok v1 v2 v3 (0 : Int32) _ _ h
def c346_28 (v1 : Int32) (v2 : Int32) (v3 : Int32) (μ : Mem) : Option (Mem) :=
  if v3 < (15 : Int32) then
    c346_89 v1 v2 v3 μ
  else
    if (120 : Int32) < v3 then
      c346_89 v1 v2 v3 μ
    else
      (ldA 161 v2 μ).bind fun x3 =>
      if x3 = (8 : Int32) then
        (ldA 161 (v2 + (1 : Int32)) μ).bind fun x6 =>
        if x6 = (12 : Int32) then
          (ldA 161 (v2 + (2 : Int32)) μ).bind fun x9 =>
          if (jshr x9 (6 : Int32)) = (3 : Int32) then
            (ldA 161 (v2 + (6 : Int32)) μ).bind fun x12 =>
            if x12 = (32 : Int32) then
              c346_90 v1 v2 v3 (1 : Int32) μ
            else
              c346_89 v1 v2 v3 μ
          else
            c346_89 v1 v2 v3 μ
        else
          c346_89 v1 v2 v3 μ
      else
        c346_89 v1 v2 v3 μ
theorem c346_28_ok {L : Nat} (v1 : Int32) (v2 : Int32) (v3 : Int32) (μ : Mem) (res : Mem) (h : c346_28 v1 v2 v3 μ = some res) : Sx 346 28 [(0, .ref 129), (1, .int v1), (2, .int v2), (3, .int v3), (4, .ref 161)] [] 0 0 (mk L μ) (mk L res, none) := by
  unfold c346_28 at h
  refine sx_iload_n (i := 3) k346_28 rfl rfl ?_
  refine sx_bipush (v := 15) k346_29 (by decide) ?_
  by_cases hb1 : v3 < (15 : Int32)
  · rw [if_pos hb1] at h
    refine sx_icmp_lt (tgt := 89) k346_31 (by decide) (fun _ => ?_) (fun q => absurd hb1 q)
    refine sx_pick (lo2 := [(0, .ref 129), (1, .int v1), (2, .int v2), (3, .int v3), (4, .ref 161)]) [0, 1, 2, 3, 4] rfl ?_
    exact c346_89_ok v1 v2 v3 _ _ h
  · rw [if_neg hb1] at h
    refine sx_icmp_lt (tgt := 89) k346_31 (by decide) (fun q => absurd q hb1) (fun _ => ?_)
    refine sx_iload_n (i := 3) k346_34 rfl rfl ?_
    refine sx_bipush (v := 120) k346_35 (by decide) ?_
    by_cases hb2 : (120 : Int32) < v3
    · rw [if_pos hb2] at h
      refine sx_icmp_gt (tgt := 89) k346_37 (by decide) (fun _ => ?_) (fun q => absurd hb2 q)
      refine sx_pick (lo2 := [(0, .ref 129), (1, .int v1), (2, .int v2), (3, .int v3), (4, .ref 161)]) [0, 1, 2, 3, 4] rfl ?_
      exact c346_89_ok v1 v2 v3 _ _ h
    · rw [if_neg hb2] at h
      refine sx_icmp_gt (tgt := 89) k346_37 (by decide) (fun q => absurd q hb2) (fun _ => ?_)
      refine sx_aload k346_40 rfl ?_
      refine sx_iload_n (i := 2) k346_42 rfl rfl ?_
      obtain ⟨x3, e4, h⟩ := Option.bind_eq_some_iff.mp h
      refine cx_iald k346_43 sk_161 e4 ?_
      refine sx_bipush (v := 8) k346_44 (by decide) ?_
      by_cases hb5 : x3 = (8 : Int32)
      · rw [if_pos hb5] at h
        refine sx_icmp_ne (tgt := 89) k346_46 (by decide) (fun q => absurd hb5 q) (fun _ => ?_)
        refine sx_aload k346_49 rfl ?_
        refine sx_iload_n (i := 2) k346_51 rfl rfl ?_
        refine sx_iconst (v := 1) k346_52 (by decide) ?_
        refine sx_iadd k346_53 ?_
        obtain ⟨x6, e7, h⟩ := Option.bind_eq_some_iff.mp h
        refine cx_iald k346_54 sk_161 e7 ?_
        refine sx_bipush (v := 12) k346_55 (by decide) ?_
        by_cases hb8 : x6 = (12 : Int32)
        · rw [if_pos hb8] at h
          refine sx_icmp_ne (tgt := 89) k346_57 (by decide) (fun q => absurd hb8 q) (fun _ => ?_)
          refine sx_aload k346_60 rfl ?_
          refine sx_iload_n (i := 2) k346_62 rfl rfl ?_
          refine sx_iconst (v := 2) k346_63 (by decide) ?_
          refine sx_iadd k346_64 ?_
          obtain ⟨x9, e10, h⟩ := Option.bind_eq_some_iff.mp h
          refine cx_iald k346_65 sk_161 e10 ?_
          refine sx_bipush (v := 6) k346_66 (by decide) ?_
          refine sx_ishr k346_68 ?_
          refine sx_iconst (v := 3) k346_69 (by decide) ?_
          by_cases hb11 : (jshr x9 (6 : Int32)) = (3 : Int32)
          · rw [if_pos hb11] at h
            refine sx_icmp_ne (tgt := 89) k346_70 (by decide) (fun q => absurd hb11 q) (fun _ => ?_)
            refine sx_aload k346_73 rfl ?_
            refine sx_iload_n (i := 2) k346_75 rfl rfl ?_
            refine sx_bipush (v := 6) k346_76 (by decide) ?_
            refine sx_iadd k346_78 ?_
            obtain ⟨x12, e13, h⟩ := Option.bind_eq_some_iff.mp h
            refine cx_iald k346_79 sk_161 e13 ?_
            refine sx_bipush (v := 32) k346_80 (by decide) ?_
            by_cases hb14 : x12 = (32 : Int32)
            · rw [if_pos hb14] at h
              refine sx_icmp_ne (tgt := 89) k346_82 (by decide) (fun q => absurd hb14 q) (fun _ => ?_)
              refine sx_iconst (v := 1) k346_85 (by decide) ?_
              refine sx_goto (tgt := 90) k346_86 (by decide) ?_
              refine sx_pick (lo2 := [(0, .ref 129), (1, .int v1), (2, .int v2), (3, .int v3), (4, .ref 161)]) [0, 1, 2, 3, 4] rfl ?_
              exact c346_90_ok v1 v2 v3 (1 : Int32) _ _ h
            · rw [if_neg hb14] at h
              refine sx_icmp_ne (tgt := 89) k346_82 (by decide) (fun _ => ?_) (fun q => absurd q hb14)
              refine sx_pick (lo2 := [(0, .ref 129), (1, .int v1), (2, .int v2), (3, .int v3), (4, .ref 161)]) [0, 1, 2, 3, 4] rfl ?_
              exact c346_89_ok v1 v2 v3 _ _ h
          · rw [if_neg hb11] at h
            refine sx_icmp_ne (tgt := 89) k346_70 (by decide) (fun _ => ?_) (fun q => absurd q hb11)
            refine sx_pick (lo2 := [(0, .ref 129), (1, .int v1), (2, .int v2), (3, .int v3), (4, .ref 161)]) [0, 1, 2, 3, 4] rfl ?_
            exact c346_89_ok v1 v2 v3 _ _ h
        · rw [if_neg hb8] at h
          refine sx_icmp_ne (tgt := 89) k346_57 (by decide) (fun _ => ?_) (fun q => absurd q hb8)
          refine sx_pick (lo2 := [(0, .ref 129), (1, .int v1), (2, .int v2), (3, .int v3), (4, .ref 161)]) [0, 1, 2, 3, 4] rfl ?_
          exact c346_89_ok v1 v2 v3 _ _ h
      · rw [if_neg hb5] at h
        refine sx_icmp_ne (tgt := 89) k346_46 (by decide) (fun _ => ?_) (fun q => absurd q hb5)
        refine sx_pick (lo2 := [(0, .ref 129), (1, .int v1), (2, .int v2), (3, .int v3), (4, .ref 161)]) [0, 1, 2, 3, 4] rfl ?_
        exact c346_89_ok v1 v2 v3 _ _ h
/-- CraftHouseModel.packetCame(III)V -/
def f346 (p1 : Int32) (p2 : Int32) (p3 : Int32) (μ : Mem) : Option (Mem) :=
  (ldA 161 p2 μ).bind fun x1 =>
  if x1 = (7 : Int32) then
    (ldA 161 (p2 + (1 : Int32)) μ).bind fun x4 =>
    if x4 = (255 : Int32) then
      some μ
    else
      c346_28 p1 p2 p3 μ
  else
    c346_28 p1 p2 p3 μ
theorem ok346 {L : Nat} (p1 : Int32) (p2 : Int32) (p3 : Int32) (μ : Mem) (res : Mem) (h : f346 p1 p2 p3 μ = some res) : Mx 346 [.ref 129, .int p1, .int p2, .int p3] (mk L μ) (mk L res, none) := by
  refine Mx_of ml_346 (by rw [mx_346]; exact Nat.le_of_ble_eq_true rfl) ?_
  show Sx 346 0 [(0, .ref 129), (1, .int p1), (2, .int p2), (3, .int p3)] [] 0 0 (mk L μ) _
  unfold f346 at h
  refine sx_aload_n (i := 0) k346_0 rfl rfl ?_
  refine cx_getR (k := 76) k346_1 ow_346 fl_12_390 (by decide) sk_129 ft_11_76 sr_129_76 ?_
  refine cx_astore (lo2 := [(4, .ref 161), (0, .ref 129), (1, .int p1), (2, .int p2), (3, .int p3)]) k346_4 (by rw [mx_346]; decide) rfl ?_
  refine sx_aload k346_6 rfl ?_
  refine sx_iload_n (i := 2) k346_8 rfl rfl ?_
  obtain ⟨x1, e2, h⟩ := Option.bind_eq_some_iff.mp h
  refine cx_iald k346_9 sk_161 e2 ?_
  refine sx_bipush (v := 7) k346_10 (by decide) ?_
  by_cases hb3 : x1 = (7 : Int32)
  · rw [if_pos hb3] at h
    refine sx_icmp_ne (tgt := 28) k346_12 (by decide) (fun q => absurd hb3 q) (fun _ => ?_)
    refine sx_aload k346_15 rfl ?_
    refine sx_iload_n (i := 2) k346_17 rfl rfl ?_
    refine sx_iconst (v := 1) k346_18 (by decide) ?_
    refine sx_iadd k346_19 ?_
    obtain ⟨x4, e5, h⟩ := Option.bind_eq_some_iff.mp h
    refine cx_iald k346_20 sk_161 e5 ?_
    refine sx_sipush (v := 255) k346_21 (by decide) ?_
    by_cases hb6 : x4 = (255 : Int32)
    · rw [if_pos hb6] at h
      refine sx_icmp_ne (tgt := 28) k346_24 (by decide) (fun q => absurd hb6 q) (fun _ => ?_)
      exact cx_retv k346_27 rt_346 h
    · rw [if_neg hb6] at h
      refine sx_icmp_ne (tgt := 28) k346_24 (by decide) (fun _ => ?_) (fun q => absurd q hb6)
      refine sx_pick (lo2 := [(0, .ref 129), (1, .int p1), (2, .int p2), (3, .int p3), (4, .ref 161)]) [1, 2, 3, 4, 0] rfl ?_
      exact c346_28_ok p1 p2 p3 _ _ h
  · rw [if_neg hb3] at h
    refine sx_icmp_ne (tgt := 28) k346_12 (by decide) (fun _ => ?_) (fun q => absurd q hb3)
    refine sx_pick (lo2 := [(0, .ref 129), (1, .int p1), (2, .int p2), (3, .int p3), (4, .ref 161)]) [1, 2, 3, 4, 0] rfl ?_
    exact c346_28_ok p1 p2 p3 _ _ h
theorem k302_0 : decode (gb 302) 0 = .ok (.aload_n 0, 1) := by decide +kernel
theorem k302_1 : decode (gb 302) 1 = .ok (.dup, 1) := by decide +kernel
theorem k302_2 : decode (gb 302) 2 = .ok (.getfield 362, 3) := by decide +kernel
theorem k302_5 : decode (gb 302) 5 = .ok (.iconst 1, 1) := by decide +kernel
theorem k302_6 : decode (gb 302) 6 = .ok (.iadd, 1) := by decide +kernel
theorem k302_7 : decode (gb 302) 7 = .ok (.putfield 362, 3) := by decide +kernel
theorem k302_10 : decode (gb 302) 10 = .ok (.iconst 0, 1) := by decide +kernel
theorem k302_11 : decode (gb 302) 11 = .ok (.istore_n 1, 1) := by decide +kernel
theorem k302_12 : decode (gb 302) 12 = .ok (.iload_n 1, 1) := by decide +kernel
theorem k302_13 : decode (gb 302) 13 = .ok (.bipush 64, 2) := by decide +kernel
theorem k302_15 : decode (gb 302) 15 = .ok (.if_icmp .ge 24, 3) := by decide +kernel
theorem k302_18 : decode (gb 302) 18 = .ok (.aload_n 0, 1) := by decide +kernel
theorem k302_19 : decode (gb 302) 19 = .ok (.getfield 337, 3) := by decide +kernel
theorem k302_22 : decode (gb 302) 22 = .ok (.iload_n 1, 1) := by decide +kernel
theorem k302_23 : decode (gb 302) 23 = .ok (.dup2, 1) := by decide +kernel
theorem k302_24 : decode (gb 302) 24 = .ok (.iaload, 1) := by decide +kernel
theorem k302_25 : decode (gb 302) 25 = .ok (.aload_n 0, 1) := by decide +kernel
theorem k302_26 : decode (gb 302) 26 = .ok (.getfield 328, 3) := by decide +kernel
theorem k302_29 : decode (gb 302) 29 = .ok (.iload_n 1, 1) := by decide +kernel
theorem k302_30 : decode (gb 302) 30 = .ok (.iaload, 1) := by decide +kernel
theorem k302_31 : decode (gb 302) 31 = .ok (.ixor, 1) := by decide +kernel
theorem k302_32 : decode (gb 302) 32 = .ok (.iastore, 1) := by decide +kernel
theorem k302_33 : decode (gb 302) 33 = .ok (.iinc 1 1, 3) := by decide +kernel
theorem k302_36 : decode (gb 302) 36 = .ok (.goto (-24), 3) := by decide +kernel
theorem k302_39 : decode (gb 302) 39 = .ok (.aload_n 0, 1) := by decide +kernel
theorem k302_40 : decode (gb 302) 40 = .ok (.getfield 337, 3) := by decide +kernel
theorem k302_43 : decode (gb 302) 43 = .ok (.astore_n 1, 1) := by decide +kernel
theorem k302_44 : decode (gb 302) 44 = .ok (.aload_n 1, 1) := by decide +kernel
theorem k302_45 : decode (gb 302) 45 = .ok (.iconst 0, 1) := by decide +kernel
theorem k302_46 : decode (gb 302) 46 = .ok (.bipush 62, 2) := by decide +kernel
theorem k302_48 : decode (gb 302) 48 = .ok (.invokestatic 11, 3) := by decide +kernel
theorem k302_51 : decode (gb 302) 51 = .ok (.aload_n 1, 1) := by decide +kernel
theorem k302_52 : decode (gb 302) 52 = .ok (.bipush 62, 2) := by decide +kernel
theorem k302_54 : decode (gb 302) 54 = .ok (.iaload, 1) := by decide +kernel
theorem k302_55 : decode (gb 302) 55 = .ok (.bipush 8, 2) := by decide +kernel
theorem k302_57 : decode (gb 302) 57 = .ok (.ishl, 1) := by decide +kernel
theorem k302_58 : decode (gb 302) 58 = .ok (.aload_n 1, 1) := by decide +kernel
theorem k302_59 : decode (gb 302) 59 = .ok (.bipush 63, 2) := by decide +kernel
theorem k302_61 : decode (gb 302) 61 = .ok (.iaload, 1) := by decide +kernel
theorem k302_62 : decode (gb 302) 62 = .ok (.ior, 1) := by decide +kernel
theorem k302_63 : decode (gb 302) 63 = .ok (.if_icmp .ne 43, 3) := by decide +kernel
theorem k302_66 : decode (gb 302) 66 = .ok (.aload_n 1, 1) := by decide +kernel
theorem k302_67 : decode (gb 302) 67 = .ok (.iconst 0, 1) := by decide +kernel
theorem k302_68 : decode (gb 302) 68 = .ok (.iaload, 1) := by decide +kernel
theorem k302_69 : decode (gb 302) 69 = .ok (.bipush 8, 2) := by decide +kernel
theorem k302_71 : decode (gb 302) 71 = .ok (.ishl, 1) := by decide +kernel
theorem k302_72 : decode (gb 302) 72 = .ok (.aload_n 1, 1) := by decide +kernel
theorem k302_73 : decode (gb 302) 73 = .ok (.iconst 1, 1) := by decide +kernel
theorem k302_74 : decode (gb 302) 74 = .ok (.iaload, 1) := by decide +kernel
theorem k302_75 : decode (gb 302) 75 = .ok (.ior, 1) := by decide +kernel
theorem k302_76 : decode (gb 302) 76 = .ok (.iconst 4, 1) := by decide +kernel
theorem k302_77 : decode (gb 302) 77 = .ok (.ishr, 1) := by decide +kernel
theorem k302_78 : decode (gb 302) 78 = .ok (.sipush 171, 3) := by decide +kernel
theorem k302_81 : decode (gb 302) 81 = .ok (.if_icmp .ne 25, 3) := by decide +kernel
theorem k302_84 : decode (gb 302) 84 = .ok (.aload_n 1, 1) := by decide +kernel
theorem k302_85 : decode (gb 302) 85 = .ok (.iconst 1, 1) := by decide +kernel
theorem k302_86 : decode (gb 302) 86 = .ok (.iaload, 1) := by decide +kernel
theorem k302_87 : decode (gb 302) 87 = .ok (.iconst 1, 1) := by decide +kernel
theorem k302_88 : decode (gb 302) 88 = .ok (.iand, 1) := by decide +kernel
theorem k302_89 : decode (gb 302) 89 = .ok (.iconst 1, 1) := by decide +kernel
theorem k302_90 : decode (gb 302) 90 = .ok (.if_icmp .ne 16, 3) := by decide +kernel
theorem k302_93 : decode (gb 302) 93 = .ok (.aload_n 1, 1) := by decide +kernel
theorem k302_94 : decode (gb 302) 94 = .ok (.iconst 4, 1) := by decide +kernel
theorem k302_95 : decode (gb 302) 95 = .ok (.iaload, 1) := by decide +kernel
theorem k302_96 : decode (gb 302) 96 = .ok (.iconst 3, 1) := by decide +kernel
theorem k302_97 : decode (gb 302) 97 = .ok (.ishr, 1) := by decide +kernel
theorem k302_98 : decode (gb 302) 98 = .ok (.iconst 3, 1) := by decide +kernel
theorem k302_99 : decode (gb 302) 99 = .ok (.if_icmp .ne 7, 3) := by decide +kernel
theorem k302_102 : decode (gb 302) 102 = .ok (.iconst 1, 1) := by decide +kernel
theorem k302_103 : decode (gb 302) 103 = .ok (.goto 4, 3) := by decide +kernel
theorem k302_106 : decode (gb 302) 106 = .ok (.iconst 0, 1) := by decide +kernel
theorem k302_107 : decode (gb 302) 107 = .ok (.istore_n 2, 1) := by decide +kernel
theorem k302_108 : decode (gb 302) 108 = .ok (.iload_n 2, 1) := by decide +kernel
theorem k302_109 : decode (gb 302) 109 = .ok (.ifCond .ne 14, 3) := by decide +kernel
theorem k302_112 : decode (gb 302) 112 = .ok (.aload_n 0, 1) := by decide +kernel
theorem k302_113 : decode (gb 302) 113 = .ok (.dup, 1) := by decide +kernel
theorem k302_114 : decode (gb 302) 114 = .ok (.getfield 365, 3) := by decide +kernel
theorem k302_117 : decode (gb 302) 117 = .ok (.iconst 1, 1) := by decide +kernel
theorem k302_118 : decode (gb 302) 118 = .ok (.iadd, 1) := by decide +kernel
theorem k302_119 : decode (gb 302) 119 = .ok (.putfield 365, 3) := by decide +kernel
theorem k302_122 : decode (gb 302) 122 = .ok (.return_, 1) := by decide +kernel
theorem k302_123 : decode (gb 302) 123 = .ok (.aload_n 1, 1) := by decide +kernel
theorem k302_124 : decode (gb 302) 124 = .ok (.bipush 58, 2) := by decide +kernel
theorem k302_126 : decode (gb 302) 126 = .ok (.iaload, 1) := by decide +kernel
theorem k302_127 : decode (gb 302) 127 = .ok (.iconst 1, 1) := by decide +kernel
theorem k302_128 : decode (gb 302) 128 = .ok (.if_icmp .ne 137, 3) := by decide +kernel
theorem k302_131 : decode (gb 302) 131 = .ok (.aload_n 1, 1) := by decide +kernel
theorem k302_132 : decode (gb 302) 132 = .ok (.bipush 59, 2) := by decide +kernel
theorem k302_134 : decode (gb 302) 134 = .ok (.iaload, 1) := by decide +kernel
theorem k302_135 : decode (gb 302) 135 = .ok (.ifCond .ne 130, 3) := by decide +kernel
theorem k302_138 : decode (gb 302) 138 = .ok (.aload_n 1, 1) := by decide +kernel
theorem k302_139 : decode (gb 302) 139 = .ok (.bipush 60, 2) := by decide +kernel
theorem k302_141 : decode (gb 302) 141 = .ok (.iaload, 1) := by decide +kernel
theorem k302_142 : decode (gb 302) 142 = .ok (.sipush 193, 3) := by decide +kernel
theorem k302_145 : decode (gb 302) 145 = .ok (.iand, 1) := by decide +kernel
theorem k302_146 : decode (gb 302) 146 = .ok (.ifCond .ne 119, 3) := by decide +kernel
theorem k302_149 : decode (gb 302) 149 = .ok (.aload_n 0, 1) := by decide +kernel
theorem k302_150 : decode (gb 302) 150 = .ok (.dup, 1) := by decide +kernel
theorem k302_151 : decode (gb 302) 151 = .ok (.getfield 368, 3) := by decide +kernel
theorem k302_154 : decode (gb 302) 154 = .ok (.iconst 1, 1) := by decide +kernel
theorem k302_155 : decode (gb 302) 155 = .ok (.iadd, 1) := by decide +kernel
theorem k302_156 : decode (gb 302) 156 = .ok (.putfield 368, 3) := by decide +kernel
theorem k302_159 : decode (gb 302) 159 = .ok (.aload_n 0, 1) := by decide +kernel
theorem k302_160 : decode (gb 302) 160 = .ok (.aload_n 1, 1) := by decide +kernel
theorem k302_161 : decode (gb 302) 161 = .ok (.bipush 61, 2) := by decide +kernel
theorem k302_163 : decode (gb 302) 163 = .ok (.iaload, 1) := by decide +kernel
theorem k302_164 : decode (gb 302) 164 = .ok (.putfield 371, 3) := by decide +kernel
theorem k302_167 : decode (gb 302) 167 = .ok (.aload_n 0, 1) := by decide +kernel
theorem k302_168 : decode (gb 302) 168 = .ok (.aload_n 1, 1) := by decide +kernel
theorem k302_169 : decode (gb 302) 169 = .ok (.bipush 60, 2) := by decide +kernel
theorem k302_171 : decode (gb 302) 171 = .ok (.iaload, 1) := by decide +kernel
theorem k302_172 : decode (gb 302) 172 = .ok (.iconst 5, 1) := by decide +kernel
theorem k302_173 : decode (gb 302) 173 = .ok (.ishr, 1) := by decide +kernel
theorem k302_174 : decode (gb 302) 174 = .ok (.iconst 1, 1) := by decide +kernel
theorem k302_175 : decode (gb 302) 175 = .ok (.iand, 1) := by decide +kernel
theorem k302_176 : decode (gb 302) 176 = .ok (.iconst 4, 1) := by decide +kernel
theorem k302_177 : decode (gb 302) 177 = .ok (.ishl, 1) := by decide +kernel
theorem k302_178 : decode (gb 302) 178 = .ok (.aload_n 1, 1) := by decide +kernel
theorem k302_179 : decode (gb 302) 179 = .ok (.bipush 60, 2) := by decide +kernel
theorem k302_181 : decode (gb 302) 181 = .ok (.iaload, 1) := by decide +kernel
theorem k302_182 : decode (gb 302) 182 = .ok (.iconst 4, 1) := by decide +kernel
theorem k302_183 : decode (gb 302) 183 = .ok (.ishr, 1) := by decide +kernel
theorem k302_184 : decode (gb 302) 184 = .ok (.iconst 1, 1) := by decide +kernel
theorem k302_185 : decode (gb 302) 185 = .ok (.iand, 1) := by decide +kernel
theorem k302_186 : decode (gb 302) 186 = .ok (.iconst 3, 1) := by decide +kernel
theorem k302_187 : decode (gb 302) 187 = .ok (.ishl, 1) := by decide +kernel
theorem k302_188 : decode (gb 302) 188 = .ok (.ior, 1) := by decide +kernel
theorem k302_189 : decode (gb 302) 189 = .ok (.aload_n 1, 1) := by decide +kernel
theorem k302_190 : decode (gb 302) 190 = .ok (.bipush 60, 2) := by decide +kernel
theorem k302_192 : decode (gb 302) 192 = .ok (.iaload, 1) := by decide +kernel
theorem k302_193 : decode (gb 302) 193 = .ok (.iconst 3, 1) := by decide +kernel
theorem k302_194 : decode (gb 302) 194 = .ok (.ishr, 1) := by decide +kernel
theorem k302_195 : decode (gb 302) 195 = .ok (.iconst 1, 1) := by decide +kernel
theorem k302_196 : decode (gb 302) 196 = .ok (.iand, 1) := by decide +kernel
theorem k302_197 : decode (gb 302) 197 = .ok (.iconst 2, 1) := by decide +kernel
theorem k302_198 : decode (gb 302) 198 = .ok (.ishl, 1) := by decide +kernel
theorem k302_199 : decode (gb 302) 199 = .ok (.ior, 1) := by decide +kernel
theorem k302_200 : decode (gb 302) 200 = .ok (.aload_n 1, 1) := by decide +kernel
theorem k302_201 : decode (gb 302) 201 = .ok (.bipush 60, 2) := by decide +kernel
theorem k302_203 : decode (gb 302) 203 = .ok (.iaload, 1) := by decide +kernel
theorem k302_204 : decode (gb 302) 204 = .ok (.iconst 1, 1) := by decide +kernel
theorem k302_205 : decode (gb 302) 205 = .ok (.ishr, 1) := by decide +kernel
theorem k302_206 : decode (gb 302) 206 = .ok (.iconst 3, 1) := by decide +kernel
theorem k302_207 : decode (gb 302) 207 = .ok (.iand, 1) := by decide +kernel
theorem k302_208 : decode (gb 302) 208 = .ok (.ior, 1) := by decide +kernel
theorem k302_209 : decode (gb 302) 209 = .ok (.putfield 374, 3) := by decide +kernel
theorem k302_212 : decode (gb 302) 212 = .ok (.aload_n 0, 1) := by decide +kernel
theorem k302_213 : decode (gb 302) 213 = .ok (.aload_n 1, 1) := by decide +kernel
theorem k302_214 : decode (gb 302) 214 = .ok (.bipush 61, 2) := by decide +kernel
theorem k302_216 : decode (gb 302) 216 = .ok (.iaload, 1) := by decide +kernel
theorem k302_217 : decode (gb 302) 217 = .ok (.aload_n 1, 1) := by decide +kernel
theorem k302_218 : decode (gb 302) 218 = .ok (.bipush 60, 2) := by decide +kernel
theorem k302_220 : decode (gb 302) 220 = .ok (.iaload, 1) := by decide +kernel
theorem k302_221 : decode (gb 302) 221 = .ok (.bipush 32, 2) := by decide +kernel
theorem k302_223 : decode (gb 302) 223 = .ok (.iand, 1) := by decide +kernel
theorem k302_224 : decode (gb 302) 224 = .ok (.ifCond .eq 7, 3) := by decide +kernel
theorem k302_227 : decode (gb 302) 227 = .ok (.iconst 1, 1) := by decide +kernel
theorem k302_228 : decode (gb 302) 228 = .ok (.goto 4, 3) := by decide +kernel
theorem k302_231 : decode (gb 302) 231 = .ok (.iconst 0, 1) := by decide +kernel
theorem k302_232 : decode (gb 302) 232 = .ok (.aload_n 1, 1) := by decide +kernel
theorem k302_233 : decode (gb 302) 233 = .ok (.bipush 60, 2) := by decide +kernel
theorem k302_235 : decode (gb 302) 235 = .ok (.iaload, 1) := by decide +kernel
theorem k302_236 : decode (gb 302) 236 = .ok (.bipush 16, 2) := by decide +kernel
theorem k302_238 : decode (gb 302) 238 = .ok (.iand, 1) := by decide +kernel
theorem k302_239 : decode (gb 302) 239 = .ok (.ifCond .eq 7, 3) := by decide +kernel
theorem k302_242 : decode (gb 302) 242 = .ok (.iconst 1, 1) := by decide +kernel
theorem k302_243 : decode (gb 302) 243 = .ok (.goto 4, 3) := by decide +kernel
theorem k302_246 : decode (gb 302) 246 = .ok (.iconst 0, 1) := by decide +kernel
theorem k302_247 : decode (gb 302) 247 = .ok (.aload_n 1, 1) := by decide +kernel
theorem k302_248 : decode (gb 302) 248 = .ok (.bipush 60, 2) := by decide +kernel
theorem k302_250 : decode (gb 302) 250 = .ok (.iaload, 1) := by decide +kernel
theorem k302_251 : decode (gb 302) 251 = .ok (.bipush 8, 2) := by decide +kernel
theorem k302_253 : decode (gb 302) 253 = .ok (.iand, 1) := by decide +kernel
theorem k302_254 : decode (gb 302) 254 = .ok (.ifCond .eq 7, 3) := by decide +kernel
theorem k302_257 : decode (gb 302) 257 = .ok (.iconst 1, 1) := by decide +kernel
theorem k302_258 : decode (gb 302) 258 = .ok (.goto 4, 3) := by decide +kernel
theorem k302_261 : decode (gb 302) 261 = .ok (.iconst 0, 1) := by decide +kernel
theorem k302_262 : decode (gb 302) 262 = .ok (.invokevirtual 377, 3) := by decide +kernel
theorem k302_265 : decode (gb 302) 265 = .ok (.aload_n 1, 1) := by decide +kernel
theorem k302_266 : decode (gb 302) 266 = .ok (.iconst 1, 1) := by decide +kernel
theorem k302_267 : decode (gb 302) 267 = .ok (.iaload, 1) := by decide +kernel
theorem k302_268 : decode (gb 302) 268 = .ok (.iconst 1, 1) := by decide +kernel
theorem k302_269 : decode (gb 302) 269 = .ok (.ishr, 1) := by decide +kernel
theorem k302_270 : decode (gb 302) 270 = .ok (.bipush 7, 2) := by decide +kernel
theorem k302_272 : decode (gb 302) 272 = .ok (.iand, 1) := by decide +kernel
theorem k302_273 : decode (gb 302) 273 = .ok (.istore_n 3, 1) := by decide +kernel
theorem k302_274 : decode (gb 302) 274 = .ok (.iload_n 3, 1) := by decide +kernel
theorem k302_275 : decode (gb 302) 275 = .ok (.iconst 1, 1) := by decide +kernel
theorem k302_276 : decode (gb 302) 276 = .ok (.if_icmp .le 4, 3) := by decide +kernel
theorem k302_279 : decode (gb 302) 279 = .ok (.return_, 1) := by decide +kernel
theorem k302_280 : decode (gb 302) 280 = .ok (.aload_n 0, 1) := by decide +kernel
theorem k302_281 : decode (gb 302) 281 = .ok (.getfield 381, 3) := by decide +kernel
theorem k302_284 : decode (gb 302) 284 = .ok (.iload_n 3, 1) := by decide +kernel
theorem k302_285 : decode (gb 302) 285 = .ok (.iaload, 1) := by decide +kernel
theorem k302_286 : decode (gb 302) 286 = .ok (.bipush (-2), 2) := by decide +kernel
theorem k302_288 : decode (gb 302) 288 = .ok (.if_icmp .eq 38, 3) := by decide +kernel
theorem k302_291 : decode (gb 302) 291 = .ok (.aload_n 1, 1) := by decide +kernel
theorem k302_292 : decode (gb 302) 292 = .ok (.iconst 3, 1) := by decide +kernel
theorem k302_293 : decode (gb 302) 293 = .ok (.iaload, 1) := by decide +kernel
theorem k302_294 : decode (gb 302) 294 = .ok (.aload_n 0, 1) := by decide +kernel
theorem k302_295 : decode (gb 302) 295 = .ok (.getfield 381, 3) := by decide +kernel
theorem k302_298 : decode (gb 302) 298 = .ok (.iload_n 3, 1) := by decide +kernel
theorem k302_299 : decode (gb 302) 299 = .ok (.iaload, 1) := by decide +kernel
theorem k302_300 : decode (gb 302) 300 = .ok (.iconst 1, 1) := by decide +kernel
theorem k302_301 : decode (gb 302) 301 = .ok (.iadd, 1) := by decide +kernel
theorem k302_302 : decode (gb 302) 302 = .ok (.sipush 255, 3) := by decide +kernel
theorem k302_305 : decode (gb 302) 305 = .ok (.iand, 1) := by decide +kernel
theorem k302_306 : decode (gb 302) 306 = .ok (.if_icmp .eq 20, 3) := by decide +kernel
theorem k302_309 : decode (gb 302) 309 = .ok (.aload_n 0, 1) := by decide +kernel
theorem k302_310 : decode (gb 302) 310 = .ok (.dup, 1) := by decide +kernel
theorem k302_311 : decode (gb 302) 311 = .ok (.getfield 384, 3) := by decide +kernel
theorem k302_314 : decode (gb 302) 314 = .ok (.iconst 1, 1) := by decide +kernel
theorem k302_315 : decode (gb 302) 315 = .ok (.iadd, 1) := by decide +kernel
theorem k302_316 : decode (gb 302) 316 = .ok (.putfield 384, 3) := by decide +kernel
theorem k302_319 : decode (gb 302) 319 = .ok (.aload_n 0, 1) := by decide +kernel
theorem k302_320 : decode (gb 302) 320 = .ok (.getfield 387, 3) := by decide +kernel
theorem k302_323 : decode (gb 302) 323 = .ok (.iload_n 3, 1) := by decide +kernel
theorem k302_324 : decode (gb 302) 324 = .ok (.iconst 0, 1) := by decide +kernel
theorem k302_325 : decode (gb 302) 325 = .ok (.iastore, 1) := by decide +kernel
theorem k302_326 : decode (gb 302) 326 = .ok (.aload_n 0, 1) := by decide +kernel
theorem k302_327 : decode (gb 302) 327 = .ok (.getfield 381, 3) := by decide +kernel
theorem k302_330 : decode (gb 302) 330 = .ok (.iload_n 3, 1) := by decide +kernel
theorem k302_331 : decode (gb 302) 331 = .ok (.aload_n 1, 1) := by decide +kernel
theorem k302_332 : decode (gb 302) 332 = .ok (.iconst 3, 1) := by decide +kernel
theorem k302_333 : decode (gb 302) 333 = .ok (.iaload, 1) := by decide +kernel
theorem k302_334 : decode (gb 302) 334 = .ok (.iastore, 1) := by decide +kernel
theorem k302_335 : decode (gb 302) 335 = .ok (.aload_n 1, 1) := by decide +kernel
theorem k302_336 : decode (gb 302) 336 = .ok (.iconst 4, 1) := by decide +kernel
theorem k302_337 : decode (gb 302) 337 = .ok (.iaload, 1) := by decide +kernel
theorem k302_338 : decode (gb 302) 338 = .ok (.bipush 7, 2) := by decide +kernel
theorem k302_340 : decode (gb 302) 340 = .ok (.iand, 1) := by decide +kernel
theorem k302_341 : decode (gb 302) 341 = .ok (.bipush 8, 2) := by decide +kernel
theorem k302_343 : decode (gb 302) 343 = .ok (.ishl, 1) := by decide +kernel
theorem k302_344 : decode (gb 302) 344 = .ok (.aload_n 1, 1) := by decide +kernel
theorem k302_345 : decode (gb 302) 345 = .ok (.iconst 5, 1) := by decide +kernel
theorem k302_346 : decode (gb 302) 346 = .ok (.iaload, 1) := by decide +kernel
theorem k302_347 : decode (gb 302) 347 = .ok (.ior, 1) := by decide +kernel
theorem k302_348 : decode (gb 302) 348 = .ok (.istore 4, 2) := by decide +kernel
theorem k302_350 : decode (gb 302) 350 = .ok (.aload_n 0, 1) := by decide +kernel
theorem k302_351 : decode (gb 302) 351 = .ok (.getfield 387, 3) := by decide +kernel
theorem k302_354 : decode (gb 302) 354 = .ok (.iload_n 3, 1) := by decide +kernel
theorem k302_355 : decode (gb 302) 355 = .ok (.iaload, 1) := by decide +kernel
theorem k302_356 : decode (gb 302) 356 = .ok (.ifCond .le 7, 3) := by decide +kernel
theorem k302_359 : decode (gb 302) 359 = .ok (.iconst 0, 1) := by decide +kernel
theorem k302_360 : decode (gb 302) 360 = .ok (.goto 5, 3) := by decide +kernel
theorem k302_363 : decode (gb 302) 363 = .ok (.iload 4, 2) := by decide +kernel
theorem k302_365 : decode (gb 302) 365 = .ok (.istore 5, 2) := by decide +kernel
theorem k302_367 : decode (gb 302) 367 = .ok (.iload 5, 2) := by decide +kernel
theorem k302_369 : decode (gb 302) 369 = .ok (.bipush 51, 2) := by decide +kernel
theorem k302_371 : decode (gb 302) 371 = .ok (.if_icmp .le 4, 3) := by decide +kernel
theorem k302_374 : decode (gb 302) 374 = .ok (.return_, 1) := by decide +kernel
theorem k302_375 : decode (gb 302) 375 = .ok (.iconst 1, 1) := by decide +kernel
theorem k302_376 : decode (gb 302) 376 = .ok (.istore 6, 2) := by decide +kernel
theorem k302_378 : decode (gb 302) 378 = .ok (.sipush 200, 3) := by decide +kernel
theorem k302_381 : decode (gb 302) 381 = .ok (.iload_n 3, 1) := by decide +kernel
theorem k302_382 : decode (gb 302) 382 = .ok (.imul, 1) := by decide +kernel
theorem k302_383 : decode (gb 302) 383 = .ok (.istore 7, 2) := by decide +kernel
theorem k302_385 : decode (gb 302) 385 = .ok (.iload 6, 2) := by decide +kernel
theorem k302_387 : decode (gb 302) 387 = .ok (.ifCond .eq 151, 3) := by decide +kernel
theorem k302_390 : decode (gb 302) 390 = .ok (.iload 5, 2) := by decide +kernel
theorem k302_392 : decode (gb 302) 392 = .ok (.bipush 52, 2) := by decide +kernel
theorem k302_394 : decode (gb 302) 394 = .ok (.if_icmp .ge 144, 3) := by decide +kernel
theorem k302_397 : decode (gb 302) 397 = .ok (.aload_n 0, 1) := by decide +kernel
theorem k302_398 : decode (gb 302) 398 = .ok (.getfield 390, 3) := by decide +kernel
theorem k302_401 : decode (gb 302) 401 = .ok (.iload 7, 2) := by decide +kernel
theorem k302_403 : decode (gb 302) 403 = .ok (.aload_n 0, 1) := by decide +kernel
theorem k302_404 : decode (gb 302) 404 = .ok (.getfield 387, 3) := by decide +kernel
theorem k302_407 : decode (gb 302) 407 = .ok (.iload_n 3, 1) := by decide +kernel
theorem k302_408 : decode (gb 302) 408 = .ok (.iaload, 1) := by decide +kernel
theorem k302_409 : decode (gb 302) 409 = .ok (.iadd, 1) := by decide +kernel
theorem k302_410 : decode (gb 302) 410 = .ok (.aload_n 1, 1) := by decide +kernel
theorem k302_411 : decode (gb 302) 411 = .ok (.bipush 6, 2) := by decide +kernel
theorem k302_413 : decode (gb 302) 413 = .ok (.iload 5, 2) := by decide +kernel
theorem k302_415 : decode (gb 302) 415 = .ok (.iadd, 1) := by decide +kernel
theorem k302_416 : decode (gb 302) 416 = .ok (.iaload, 1) := by decide +kernel
theorem k302_417 : decode (gb 302) 417 = .ok (.iastore, 1) := by decide +kernel
theorem k302_418 : decode (gb 302) 418 = .ok (.aload_n 0, 1) := by decide +kernel
theorem k302_419 : decode (gb 302) 419 = .ok (.getfield 387, 3) := by decide +kernel
theorem k302_422 : decode (gb 302) 422 = .ok (.iload_n 3, 1) := by decide +kernel
theorem k302_423 : decode (gb 302) 423 = .ok (.dup2, 1) := by decide +kernel
theorem k302_424 : decode (gb 302) 424 = .ok (.iaload, 1) := by decide +kernel
theorem k302_425 : decode (gb 302) 425 = .ok (.iconst 1, 1) := by decide +kernel
theorem k302_426 : decode (gb 302) 426 = .ok (.iadd, 1) := by decide +kernel
theorem k302_427 : decode (gb 302) 427 = .ok (.iastore, 1) := by decide +kernel
theorem k302_428 : decode (gb 302) 428 = .ok (.iinc 5 1, 3) := by decide +kernel
theorem k302_431 : decode (gb 302) 431 = .ok (.aload_n 0, 1) := by decide +kernel
theorem k302_432 : decode (gb 302) 432 = .ok (.getfield 387, 3) := by decide +kernel
theorem k302_435 : decode (gb 302) 435 = .ok (.iload_n 3, 1) := by decide +kernel
theorem k302_436 : decode (gb 302) 436 = .ok (.iaload, 1) := by decide +kernel
theorem k302_437 : decode (gb 302) 437 = .ok (.istore 8, 2) := by decide +kernel
theorem k302_439 : decode (gb 302) 439 = .ok (.iload 8, 2) := by decide +kernel
theorem k302_441 : decode (gb 302) 441 = .ok (.bipush 6, 2) := by decide +kernel
theorem k302_443 : decode (gb 302) 443 = .ok (.if_icmp .ge 7, 3) := by decide +kernel
theorem k302_446 : decode (gb 302) 446 = .ok (.iconst 0, 1) := by decide +kernel
theorem k302_447 : decode (gb 302) 447 = .ok (.goto 28, 3) := by decide +kernel
theorem k302_450 : decode (gb 302) 450 = .ok (.aload_n 0, 1) := by decide +kernel
theorem k302_451 : decode (gb 302) 451 = .ok (.getfield 390, 3) := by decide +kernel
theorem k302_454 : decode (gb 302) 454 = .ok (.iload 7, 2) := by decide +kernel
theorem k302_456 : decode (gb 302) 456 = .ok (.iconst 4, 1) := by decide +kernel
theorem k302_457 : decode (gb 302) 457 = .ok (.iadd, 1) := by decide +kernel
theorem k302_458 : decode (gb 302) 458 = .ok (.iaload, 1) := by decide +kernel
theorem k302_459 : decode (gb 302) 459 = .ok (.bipush 8, 2) := by decide +kernel
theorem k302_461 : decode (gb 302) 461 = .ok (.ishl, 1) := by decide +kernel
theorem k302_462 : decode (gb 302) 462 = .ok (.aload_n 0, 1) := by decide +kernel
theorem k302_463 : decode (gb 302) 463 = .ok (.getfield 390, 3) := by decide +kernel
theorem k302_466 : decode (gb 302) 466 = .ok (.iload 7, 2) := by decide +kernel
theorem k302_468 : decode (gb 302) 468 = .ok (.iconst 5, 1) := by decide +kernel
theorem k302_469 : decode (gb 302) 469 = .ok (.iadd, 1) := by decide +kernel
theorem k302_470 : decode (gb 302) 470 = .ok (.iaload, 1) := by decide +kernel
theorem k302_471 : decode (gb 302) 471 = .ok (.ior, 1) := by decide +kernel
theorem k302_472 : decode (gb 302) 472 = .ok (.bipush 7, 2) := by decide +kernel
theorem k302_474 : decode (gb 302) 474 = .ok (.iadd, 1) := by decide +kernel
theorem k302_475 : decode (gb 302) 475 = .ok (.istore 9, 2) := by decide +kernel
theorem k302_477 : decode (gb 302) 477 = .ok (.iload 8, 2) := by decide +kernel
theorem k302_479 : decode (gb 302) 479 = .ok (.bipush 6, 2) := by decide +kernel
theorem k302_481 : decode (gb 302) 481 = .ok (.if_icmp .ne 24, 3) := by decide +kernel
theorem k302_484 : decode (gb 302) 484 = .ok (.iload 9, 2) := by decide +kernel
theorem k302_486 : decode (gb 302) 486 = .ok (.sipush 200, 3) := by decide +kernel
theorem k302_489 : decode (gb 302) 489 = .ok (.if_icmp .le 16, 3) := by decide +kernel
theorem k302_492 : decode (gb 302) 492 = .ok (.aload_n 0, 1) := by decide +kernel
theorem k302_493 : decode (gb 302) 493 = .ok (.getfield 387, 3) := by decide +kernel
theorem k302_496 : decode (gb 302) 496 = .ok (.iload_n 3, 1) := by decide +kernel
theorem k302_497 : decode (gb 302) 497 = .ok (.iconst 0, 1) := by decide +kernel
theorem k302_498 : decode (gb 302) 498 = .ok (.iastore, 1) := by decide +kernel
theorem k302_499 : decode (gb 302) 499 = .ok (.iconst 0, 1) := by decide +kernel
theorem k302_500 : decode (gb 302) 500 = .ok (.istore 6, 2) := by decide +kernel
theorem k302_502 : decode (gb 302) 502 = .ok (.goto 33, 3) := by decide +kernel
theorem k302_505 : decode (gb 302) 505 = .ok (.iload 8, 2) := by decide +kernel
theorem k302_507 : decode (gb 302) 507 = .ok (.bipush 6, 2) := by decide +kernel
theorem k302_509 : decode (gb 302) 509 = .ok (.if_icmp .lt 26, 3) := by decide +kernel
theorem k302_512 : decode (gb 302) 512 = .ok (.iload 8, 2) := by decide +kernel
theorem k302_514 : decode (gb 302) 514 = .ok (.iload 9, 2) := by decide +kernel
theorem k302_516 : decode (gb 302) 516 = .ok (.if_icmp .ne 19, 3) := by decide +kernel
theorem k302_519 : decode (gb 302) 519 = .ok (.aload_n 0, 1) := by decide +kernel
theorem k302_520 : decode (gb 302) 520 = .ok (.getfield 387, 3) := by decide +kernel
theorem k302_523 : decode (gb 302) 523 = .ok (.iload_n 3, 1) := by decide +kernel
theorem k302_524 : decode (gb 302) 524 = .ok (.iconst 0, 1) := by decide +kernel
theorem k302_525 : decode (gb 302) 525 = .ok (.iastore, 1) := by decide +kernel
theorem k302_526 : decode (gb 302) 526 = .ok (.aload_n 0, 1) := by decide +kernel
theorem k302_527 : decode (gb 302) 527 = .ok (.iload_n 3, 1) := by decide +kernel
theorem k302_528 : decode (gb 302) 528 = .ok (.iload 7, 2) := by decide +kernel
theorem k302_530 : decode (gb 302) 530 = .ok (.iload 9, 2) := by decide +kernel
theorem k302_532 : decode (gb 302) 532 = .ok (.invokevirtual 393, 3) := by decide +kernel
theorem k302_535 : decode (gb 302) 535 = .ok (.goto (-150), 3) := by decide +kernel
theorem k302_538 : decode (gb 302) 538 = .ok (.return_, 1) := by decide +kernel
def c302_535 (kl385 : Int32 → Int32 → Int32 → Int32 → Mem → Option (Mem)) (v3 : Int32) (v5 : Int32) (v6 : Int32) (v7 : Int32) (μ : Mem) : Option (Mem) :=
  kl385 v3 v5 v6 v7 μ
theorem c302_535_ok {L : Nat} (kl385 : Int32 → Int32 → Int32 → Int32 → Mem → Option (Mem)) (hk385 : (∀ (v3 : Int32) (v5 : Int32) (v6 : Int32) (v7 : Int32) (μ : Mem) (res : Mem), kl385 v3 v5 v6 v7 μ = some res → Sx 302 385 [(0, .ref 129), (1, .ref 157), (3, .int v3), (5, .int v5), (6, .int v6), (7, .int v7)] [] 0 0 (mk L μ) (mk L res, none))) (v3 : Int32) (v5 : Int32) (v6 : Int32) (v7 : Int32) (μ : Mem) (res : Mem) (h : c302_535 kl385 v3 v5 v6 v7 μ = some res) : Sx 302 535 [(0, .ref 129), (1, .ref 157), (3, .int v3), (5, .int v5), (6, .int v6), (7, .int v7)] [] 0 0 (mk L μ) (mk L res, none) := by
  unfold c302_535 at h
  refine sx_goto (tgt := 385) k302_535 (by decide) ?_
  refine sx_pick (lo2 := [(0, .ref 129), (1, .ref 157), (3, .int v3), (5, .int v5), (6, .int v6), (7, .int v7)]) [0, 1, 2, 3, 4, 5] rfl ?_
  exact hk385 v3 v5 v6 v7 _ _ h
def c302_505 (kl385 : Int32 → Int32 → Int32 → Int32 → Mem → Option (Mem)) (v3 : Int32) (v5 : Int32) (v6 : Int32) (v7 : Int32) (v8 : Int32) (v9 : Int32) (μ : Mem) : Option (Mem) :=
  if v8 < (6 : Int32) then
    c302_535 kl385 v3 v5 v6 v7 μ
  else
    if v8 = v9 then
      (stA 160 v3 (0 : Int32) μ).bind fun m3 =>
      (f346 v3 v7 v9 m3).bind fun r5 =>
      c302_535 kl385 v3 v5 v6 v7 r5
    else
      c302_535 kl385 v3 v5 v6 v7 μ
theorem c302_505_ok {L : Nat} (kl385 : Int32 → Int32 → Int32 → Int32 → Mem → Option (Mem)) (hk385 : (∀ (v3 : Int32) (v5 : Int32) (v6 : Int32) (v7 : Int32) (μ : Mem) (res : Mem), kl385 v3 v5 v6 v7 μ = some res → Sx 302 385 [(0, .ref 129), (1, .ref 157), (3, .int v3), (5, .int v5), (6, .int v6), (7, .int v7)] [] 0 0 (mk L μ) (mk L res, none))) (v3 : Int32) (v5 : Int32) (v6 : Int32) (v7 : Int32) (v8 : Int32) (v9 : Int32) (μ : Mem) (res : Mem) (h : c302_505 kl385 v3 v5 v6 v7 v8 v9 μ = some res) : Sx 302 505 [(0, .ref 129), (1, .ref 157), (3, .int v3), (5, .int v5), (6, .int v6), (7, .int v7), (8, .int v8), (9, .int v9)] [] 0 0 (mk L μ) (mk L res, none) := by
  unfold c302_505 at h
  refine sx_iload k302_505 rfl ?_
  refine sx_bipush (v := 6) k302_507 (by decide) ?_
  by_cases hb1 : v8 < (6 : Int32)
  · rw [if_pos hb1] at h
    refine sx_icmp_lt (tgt := 535) k302_509 (by decide) (fun _ => ?_) (fun q => absurd hb1 q)
    refine sx_pick (lo2 := [(0, .ref 129), (1, .ref 157), (3, .int v3), (5, .int v5), (6, .int v6), (7, .int v7)]) [0, 1, 2, 3, 4, 5] rfl ?_
    exact c302_535_ok kl385 hk385 v3 v5 v6 v7 _ _ h
  · rw [if_neg hb1] at h
    refine sx_icmp_lt (tgt := 535) k302_509 (by decide) (fun q => absurd q hb1) (fun _ => ?_)
    refine sx_iload k302_512 rfl ?_
    refine sx_iload k302_514 rfl ?_
    by_cases hb2 : v8 = v9
    · rw [if_pos hb2] at h
      refine sx_icmp_ne (tgt := 535) k302_516 (by decide) (fun q => absurd hb2 q) (fun _ => ?_)
      refine sx_aload_n (i := 0) k302_519 rfl rfl ?_
      refine cx_getR (k := 75) k302_520 ow_302 fl_12_387 (by decide) sk_129 ft_11_75 sr_129_75 ?_
      refine sx_iload_n (i := 3) k302_523 rfl rfl ?_
      refine sx_iconst (v := 0) k302_524 (by decide) ?_
      obtain ⟨m3, e4, h⟩ := Option.bind_eq_some_iff.mp h
      refine cx_iast k302_525 sk_160 e4 ?_
      refine sx_aload_n (i := 0) k302_526 rfl rfl ?_
      refine sx_iload_n (i := 3) k302_527 rfl rfl ?_
      refine sx_iload k302_528 rfl ?_
      refine sx_iload k302_530 rfl ?_
      obtain ⟨r5, e6, h⟩ := Option.bind_eq_some_iff.mp h
      refine cx_V (sk := []) (vs := [.int v3, .int v7, .int v9]) st_302_346 k302_532 ow_302 cl_12_393 (by decide) rfl (Nat.le_of_ble_eq_true rfl) sk_129 (ok346 v3 v7 v9 _ _ e6) (sk3 := []) rfl rfl ?_
      refine sx_pick (lo2 := [(0, .ref 129), (1, .ref 157), (3, .int v3), (5, .int v5), (6, .int v6), (7, .int v7)]) [0, 1, 2, 3, 4, 5] rfl ?_
      exact c302_535_ok kl385 hk385 v3 v5 v6 v7 _ _ h
    · rw [if_neg hb2] at h
      refine sx_icmp_ne (tgt := 535) k302_516 (by decide) (fun _ => ?_) (fun q => absurd q hb2)
      refine sx_pick (lo2 := [(0, .ref 129), (1, .ref 157), (3, .int v3), (5, .int v5), (6, .int v6), (7, .int v7)]) [0, 1, 2, 3, 4, 5] rfl ?_
      exact c302_535_ok kl385 hk385 v3 v5 v6 v7 _ _ h
def c302_475 (kl385 : Int32 → Int32 → Int32 → Int32 → Mem → Option (Mem)) (v3 : Int32) (v5 : Int32) (v6 : Int32) (v7 : Int32) (v8 : Int32) (s0 : Int32) (μ : Mem) : Option (Mem) :=
  if v8 = (6 : Int32) then
    if s0 ≤ (200 : Int32) then
      c302_505 kl385 v3 v5 v6 v7 v8 s0 μ
    else
      (stA 160 v3 (0 : Int32) μ).bind fun m3 =>
      c302_535 kl385 v3 v5 (0 : Int32) v7 m3
  else
    c302_505 kl385 v3 v5 v6 v7 v8 s0 μ
theorem c302_475_ok {L : Nat} (kl385 : Int32 → Int32 → Int32 → Int32 → Mem → Option (Mem)) (hk385 : (∀ (v3 : Int32) (v5 : Int32) (v6 : Int32) (v7 : Int32) (μ : Mem) (res : Mem), kl385 v3 v5 v6 v7 μ = some res → Sx 302 385 [(0, .ref 129), (1, .ref 157), (3, .int v3), (5, .int v5), (6, .int v6), (7, .int v7)] [] 0 0 (mk L μ) (mk L res, none))) (v3 : Int32) (v5 : Int32) (v6 : Int32) (v7 : Int32) (v8 : Int32) (s0 : Int32) (μ : Mem) (res : Mem) (h : c302_475 kl385 v3 v5 v6 v7 v8 s0 μ = some res) : Sx 302 475 [(0, .ref 129), (1, .ref 157), (3, .int v3), (5, .int v5), (6, .int v6), (7, .int v7), (8, .int v8)] [.int s0] 0 0 (mk L μ) (mk L res, none) := by
  unfold c302_475 at h
  refine cx_istore (lo2 := [(9, .int s0), (0, .ref 129), (1, .ref 157), (3, .int v3), (5, .int v5), (6, .int v6), (7, .int v7), (8, .int v8)]) k302_475 (by rw [mx_302]; decide) rfl ?_
  refine sx_iload k302_477 rfl ?_
  refine sx_bipush (v := 6) k302_479 (by decide) ?_
  by_cases hb1 : v8 = (6 : Int32)
  · rw [if_pos hb1] at h
    refine sx_icmp_ne (tgt := 505) k302_481 (by decide) (fun q => absurd hb1 q) (fun _ => ?_)
    refine sx_iload k302_484 rfl ?_
    refine sx_sipush (v := 200) k302_486 (by decide) ?_
    by_cases hb2 : s0 ≤ (200 : Int32)
    · rw [if_pos hb2] at h
      refine sx_icmp_le (tgt := 505) k302_489 (by decide) (fun _ => ?_) (fun q => absurd hb2 q)
      refine sx_pick (lo2 := [(0, .ref 129), (1, .ref 157), (3, .int v3), (5, .int v5), (6, .int v6), (7, .int v7), (8, .int v8), (9, .int s0)]) [1, 2, 3, 4, 5, 6, 7, 0] rfl ?_
      exact c302_505_ok kl385 hk385 v3 v5 v6 v7 v8 s0 _ _ h
    · rw [if_neg hb2] at h
      refine sx_icmp_le (tgt := 505) k302_489 (by decide) (fun q => absurd q hb2) (fun _ => ?_)
      refine sx_aload_n (i := 0) k302_492 rfl rfl ?_
      refine cx_getR (k := 75) k302_493 ow_302 fl_12_387 (by decide) sk_129 ft_11_75 sr_129_75 ?_
      refine sx_iload_n (i := 3) k302_496 rfl rfl ?_
      refine sx_iconst (v := 0) k302_497 (by decide) ?_
      obtain ⟨m3, e4, h⟩ := Option.bind_eq_some_iff.mp h
      refine cx_iast k302_498 sk_160 e4 ?_
      refine sx_iconst (v := 0) k302_499 (by decide) ?_
      refine cx_istore (lo2 := [(6, .int (0 : Int32)), (9, .int s0), (0, .ref 129), (1, .ref 157), (3, .int v3), (5, .int v5), (7, .int v7), (8, .int v8)]) k302_500 (by rw [mx_302]; decide) rfl ?_
      refine sx_goto (tgt := 535) k302_502 (by decide) ?_
      refine sx_pick (lo2 := [(0, .ref 129), (1, .ref 157), (3, .int v3), (5, .int v5), (6, .int (0 : Int32)), (7, .int v7)]) [2, 3, 4, 5, 0, 6] rfl ?_
      exact c302_535_ok kl385 hk385 v3 v5 (0 : Int32) v7 _ _ h
  · rw [if_neg hb1] at h
    refine sx_icmp_ne (tgt := 505) k302_481 (by decide) (fun _ => ?_) (fun q => absurd q hb1)
    refine sx_pick (lo2 := [(0, .ref 129), (1, .ref 157), (3, .int v3), (5, .int v5), (6, .int v6), (7, .int v7), (8, .int v8), (9, .int s0)]) [1, 2, 3, 4, 5, 6, 7, 0] rfl ?_
    exact c302_505_ok kl385 hk385 v3 v5 v6 v7 v8 s0 _ _ h
def b302_385 (kl385 : Int32 → Int32 → Int32 → Int32 → Mem → Option (Mem)) (v3 : Int32) (v5 : Int32) (v6 : Int32) (v7 : Int32) (μ : Mem) : Option (Mem) :=
  if v6 = 0 then
    some μ
  else
    if (52 : Int32) ≤ v5 then
      some μ
    else
      (ldA 160 v3 μ).bind fun x3 =>
      (ldA 157 ((6 : Int32) + v5) μ).bind fun x5 =>
      (stA 161 (v7 + x3) x5 μ).bind fun m7 =>
      (ldA 160 v3 m7).bind fun x9 =>
      (stA 160 v3 (x9 + (1 : Int32)) m7).bind fun m11 =>
      nm (v5 + (1 : Int32)) fun x13 =>
      (ldA 160 v3 m11).bind fun x14 =>
      if (6 : Int32) ≤ x14 then
        (ldA 161 (v7 + (4 : Int32)) m11).bind fun x17 =>
        (ldA 161 (v7 + (5 : Int32)) m11).bind fun x19 =>
        c302_475 kl385 v3 x13 v6 v7 x14 (((jshl x17 (8 : Int32)) ||| x19) + (7 : Int32)) m11
      else
        c302_475 kl385 v3 x13 v6 v7 x14 (0 : Int32) m11
theorem b302_385_ok {L : Nat} (kl385 : Int32 → Int32 → Int32 → Int32 → Mem → Option (Mem)) (hk385 : (∀ (v3 : Int32) (v5 : Int32) (v6 : Int32) (v7 : Int32) (μ : Mem) (res : Mem), kl385 v3 v5 v6 v7 μ = some res → Sx 302 385 [(0, .ref 129), (1, .ref 157), (3, .int v3), (5, .int v5), (6, .int v6), (7, .int v7)] [] 0 0 (mk L μ) (mk L res, none))) (v3 : Int32) (v5 : Int32) (v6 : Int32) (v7 : Int32) (μ : Mem) (res : Mem) (h : b302_385 kl385 v3 v5 v6 v7 μ = some res) : Sx 302 385 [(0, .ref 129), (1, .ref 157), (3, .int v3), (5, .int v5), (6, .int v6), (7, .int v7)] [] 0 0 (mk L μ) (mk L res, none) := by
  unfold b302_385 at h
  refine sx_iload k302_385 rfl ?_
  by_cases hb1 : v6 = 0
  · rw [if_pos hb1] at h
    refine sx_if_eq (tgt := 538) k302_387 (by decide) (fun _ => ?_) (fun q => absurd hb1 q)
    exact cx_retv k302_538 rt_302 h
  · rw [if_neg hb1] at h
    refine sx_if_eq (tgt := 538) k302_387 (by decide) (fun q => absurd q hb1) (fun _ => ?_)
    refine sx_iload k302_390 rfl ?_
    refine sx_bipush (v := 52) k302_392 (by decide) ?_
    by_cases hb2 : (52 : Int32) ≤ v5
    · rw [if_pos hb2] at h
      refine sx_icmp_ge (tgt := 538) k302_394 (by decide) (fun _ => ?_) (fun q => absurd hb2 q)
      exact cx_retv k302_538 rt_302 h
    · rw [if_neg hb2] at h
      refine sx_icmp_ge (tgt := 538) k302_394 (by decide) (fun q => absurd q hb2) (fun _ => ?_)
      refine sx_aload_n (i := 0) k302_397 rfl rfl ?_
      refine cx_getR (k := 76) k302_398 ow_302 fl_12_390 (by decide) sk_129 ft_11_76 sr_129_76 ?_
      refine sx_iload k302_401 rfl ?_
      refine sx_aload_n (i := 0) k302_403 rfl rfl ?_
      refine cx_getR (k := 75) k302_404 ow_302 fl_12_387 (by decide) sk_129 ft_11_75 sr_129_75 ?_
      refine sx_iload_n (i := 3) k302_407 rfl rfl ?_
      obtain ⟨x3, e4, h⟩ := Option.bind_eq_some_iff.mp h
      refine cx_iald k302_408 sk_160 e4 ?_
      refine sx_iadd k302_409 ?_
      refine sx_aload_n (i := 1) k302_410 rfl rfl ?_
      refine sx_bipush (v := 6) k302_411 (by decide) ?_
      refine sx_iload k302_413 rfl ?_
      refine sx_iadd k302_415 ?_
      obtain ⟨x5, e6, h⟩ := Option.bind_eq_some_iff.mp h
      refine cx_iald k302_416 sk_157 e6 ?_
      obtain ⟨m7, e8, h⟩ := Option.bind_eq_some_iff.mp h
      refine cx_iast k302_417 sk_161 e8 ?_
      refine sx_aload_n (i := 0) k302_418 rfl rfl ?_
      refine cx_getR (k := 75) k302_419 ow_302 fl_12_387 (by decide) sk_129 ft_11_75 sr_129_75 ?_
      refine sx_iload_n (i := 3) k302_422 rfl rfl ?_
      refine sx_dup2 k302_423 rfl rfl ?_
      obtain ⟨x9, e10, h⟩ := Option.bind_eq_some_iff.mp h
      refine cx_iald k302_424 sk_160 e10 ?_
      refine sx_iconst (v := 1) k302_425 (by decide) ?_
      refine sx_iadd k302_426 ?_
      obtain ⟨m11, e12, h⟩ := Option.bind_eq_some_iff.mp h
      refine cx_iast k302_427 sk_160 e12 ?_
      refine cx_iinc (c := 1) (lo2 := fun x13 => [(5, .int x13), (0, .ref 129), (1, .ref 157), (3, .int v3), (6, .int v6), (7, .int v7)]) k302_428 rfl (by decide) (by rw [mx_302]; decide) (fun _ => rfl) h (fun x13 h => ?_)
      refine sx_aload_n (i := 0) k302_431 rfl rfl ?_
      refine cx_getR (k := 75) k302_432 ow_302 fl_12_387 (by decide) sk_129 ft_11_75 sr_129_75 ?_
      refine sx_iload_n (i := 3) k302_435 rfl rfl ?_
      obtain ⟨x14, e15, h⟩ := Option.bind_eq_some_iff.mp h
      refine cx_iald k302_436 sk_160 e15 ?_
      refine cx_istore (lo2 := [(8, .int x14), (5, .int x13), (0, .ref 129), (1, .ref 157), (3, .int v3), (6, .int v6), (7, .int v7)]) k302_437 (by rw [mx_302]; decide) rfl ?_
      refine sx_iload k302_439 rfl ?_
      refine sx_bipush (v := 6) k302_441 (by decide) ?_
      by_cases hb16 : (6 : Int32) ≤ x14
      · rw [if_pos hb16] at h
        refine sx_icmp_ge (tgt := 450) k302_443 (by decide) (fun _ => ?_) (fun q => absurd hb16 q)
        refine sx_aload_n (i := 0) k302_450 rfl rfl ?_
        refine cx_getR (k := 76) k302_451 ow_302 fl_12_390 (by decide) sk_129 ft_11_76 sr_129_76 ?_
        refine sx_iload k302_454 rfl ?_
        refine sx_iconst (v := 4) k302_456 (by decide) ?_
        refine sx_iadd k302_457 ?_
        obtain ⟨x17, e18, h⟩ := Option.bind_eq_some_iff.mp h
        refine cx_iald k302_458 sk_161 e18 ?_
        refine sx_bipush (v := 8) k302_459 (by decide) ?_
        refine sx_ishl k302_461 ?_
        refine sx_aload_n (i := 0) k302_462 rfl rfl ?_
        refine cx_getR (k := 76) k302_463 ow_302 fl_12_390 (by decide) sk_129 ft_11_76 sr_129_76 ?_
        refine sx_iload k302_466 rfl ?_
        refine sx_iconst (v := 5) k302_468 (by decide) ?_
        refine sx_iadd k302_469 ?_
        obtain ⟨x19, e20, h⟩ := Option.bind_eq_some_iff.mp h
        refine cx_iald k302_470 sk_161 e20 ?_
        refine sx_ior k302_471 ?_
        refine sx_bipush (v := 7) k302_472 (by decide) ?_
        refine sx_iadd k302_474 ?_
        refine sx_pick (lo2 := [(0, .ref 129), (1, .ref 157), (3, .int v3), (5, .int x13), (6, .int v6), (7, .int v7), (8, .int x14)]) [2, 3, 4, 1, 5, 6, 0] rfl ?_
        exact c302_475_ok kl385 hk385 v3 x13 v6 v7 x14 (((jshl x17 (8 : Int32)) ||| x19) + (7 : Int32)) _ _ h
      · rw [if_neg hb16] at h
        refine sx_icmp_ge (tgt := 450) k302_443 (by decide) (fun q => absurd q hb16) (fun _ => ?_)
        refine sx_iconst (v := 0) k302_446 (by decide) ?_
        refine sx_goto (tgt := 475) k302_447 (by decide) ?_
        refine sx_pick (lo2 := [(0, .ref 129), (1, .ref 157), (3, .int v3), (5, .int x13), (6, .int v6), (7, .int v7), (8, .int x14)]) [2, 3, 4, 1, 5, 6, 0] rfl ?_
        exact c302_475_ok kl385 hk385 v3 x13 v6 v7 x14 (0 : Int32) _ _ h
def l302_385 : Nat → Int32 × Int32 × Int32 × Int32 × Mem → Option (Mem) :=
  fixN (fun self x => b302_385 (fun v3 v5 v6 v7 μ => self (v3, v5, v6, v7, μ)) (x.1) (x.2.1) (x.2.2.1) (x.2.2.2.1) (x.2.2.2.2))
theorem l302_385_ok {L : Nat} (n : Nat) (v3 : Int32) (v5 : Int32) (v6 : Int32) (v7 : Int32) (μ : Mem) (res : Mem) (h : l302_385 n (v3, v5, v6, v7, μ) = some res) : Sx 302 385 [(0, .ref 129), (1, .ref 157), (3, .int v3), (5, .int v5), (6, .int v6), (7, .int v7)] [] 0 0 (mk L μ) (mk L res, none) := by
  have key := fixN_ind (P := fun x res => Sx 302 385 [(0, .ref 129), (1, .ref 157), (3, .int (x.1)), (5, .int (x.2.1)), (6, .int (x.2.2.1)), (7, .int (x.2.2.2.1))] [] 0 0 (mk L (x.2.2.2.2)) (mk L res, none)) (F := fun self x => b302_385 (fun v3 v5 v6 v7 μ => self (v3, v5, v6, v7, μ)) (x.1) (x.2.1) (x.2.2.1) (x.2.2.2.1) (x.2.2.2.2)) (fun self hself x res h => b302_385_ok (fun v3 v5 v6 v7 μ => self (v3, v5, v6, v7, μ)) (fun v3 v5 v6 v7 μ res hh => hself (v3, v5, v6, v7, μ) res hh) (x.1) (x.2.1) (x.2.2.1) (x.2.2.2.1) (x.2.2.2.2) res h) n (v3, v5, v6, v7, μ) res h
  exact key
def c302_365 (v3 : Int32) (s0 : Int32) (μ : Mem) : Option (Mem) :=
  if s0 ≤ (51 : Int32) then
    nm ((200 : Int32) * v3) fun x2 =>
    l302_385 gF (v3, s0, (1 : Int32), x2, μ)
  else
    some μ
theorem c302_365_ok {L : Nat} (v3 : Int32) (s0 : Int32) (μ : Mem) (res : Mem) (h : c302_365 v3 s0 μ = some res) : Sx 302 365 [(0, .ref 129), (1, .ref 157), (3, .int v3)] [.int s0] 0 0 (mk L μ) (mk L res, none) := by
  unfold c302_365 at h
  refine cx_istore (lo2 := [(5, .int s0), (0, .ref 129), (1, .ref 157), (3, .int v3)]) k302_365 (by rw [mx_302]; decide) rfl ?_
  refine sx_iload k302_367 rfl ?_
  refine sx_bipush (v := 51) k302_369 (by decide) ?_
  by_cases hb1 : s0 ≤ (51 : Int32)
  · rw [if_pos hb1] at h
    refine sx_icmp_le (tgt := 375) k302_371 (by decide) (fun _ => ?_) (fun q => absurd hb1 q)
    refine sx_iconst (v := 1) k302_375 (by decide) ?_
    refine cx_istore (lo2 := [(6, .int (1 : Int32)), (5, .int s0), (0, .ref 129), (1, .ref 157), (3, .int v3)]) k302_376 (by rw [mx_302]; decide) rfl ?_
    refine sx_sipush (v := 200) k302_378 (by decide) ?_
    refine sx_iload_n (i := 3) k302_381 rfl rfl ?_
    refine sx_imul k302_382 ?_
    refine cx_nm h (fun x2 h => ?_)
    refine cx_istore (lo2 := [(7, .int x2), (6, .int (1 : Int32)), (5, .int s0), (0, .ref 129), (1, .ref 157), (3, .int v3)]) k302_383 (by rw [mx_302]; decide) rfl ?_
    refine sx_pick (lo2 := [(0, .ref 129), (1, .ref 157), (3, .int v3), (5, .int s0), (6, .int (1 : Int32)), (7, .int x2)]) [3, 4, 5, 2, 1, 0] rfl ?_
    exact l302_385_ok gF v3 s0 (1 : Int32) x2 _ _ h
  · rw [if_neg hb1] at h
    refine sx_icmp_le (tgt := 375) k302_371 (by decide) (fun q => absurd q hb1) (fun _ => ?_)
    exact cx_retv k302_374 rt_302 h
def c302_326 (v3 : Int32) (μ : Mem) : Option (Mem) :=
  (ldA 157 (3 : Int32) μ).bind fun x1 =>
  (stA 159 v3 x1 μ).bind fun m3 =>
  (ldA 157 (4 : Int32) m3).bind fun x5 =>
  (ldA 157 (5 : Int32) m3).bind fun x7 =>
  nm ((jshl (x5 &&& (7 : Int32)) (8 : Int32)) ||| x7) fun x9 =>
  (ldA 160 v3 m3).bind fun x10 =>
  if x10 ≤ 0 then
    c302_365 v3 x9 m3
  else
    c302_365 v3 (0 : Int32) m3
theorem c302_326_ok {L : Nat} (v3 : Int32) (μ : Mem) (res : Mem) (h : c302_326 v3 μ = some res) : Sx 302 326 [(0, .ref 129), (1, .ref 157), (3, .int v3)] [] 0 0 (mk L μ) (mk L res, none) := by
  unfold c302_326 at h
  refine sx_aload_n (i := 0) k302_326 rfl rfl ?_
  refine cx_getR (k := 74) k302_327 ow_302 fl_12_381 (by decide) sk_129 ft_11_74 sr_129_74 ?_
  refine sx_iload_n (i := 3) k302_330 rfl rfl ?_
  refine sx_aload_n (i := 1) k302_331 rfl rfl ?_
  refine sx_iconst (v := 3) k302_332 (by decide) ?_
  obtain ⟨x1, e2, h⟩ := Option.bind_eq_some_iff.mp h
  refine cx_iald k302_333 sk_157 e2 ?_
  obtain ⟨m3, e4, h⟩ := Option.bind_eq_some_iff.mp h
  refine cx_iast k302_334 sk_159 e4 ?_
  refine sx_aload_n (i := 1) k302_335 rfl rfl ?_
  refine sx_iconst (v := 4) k302_336 (by decide) ?_
  obtain ⟨x5, e6, h⟩ := Option.bind_eq_some_iff.mp h
  refine cx_iald k302_337 sk_157 e6 ?_
  refine sx_bipush (v := 7) k302_338 (by decide) ?_
  refine sx_iand k302_340 ?_
  refine sx_bipush (v := 8) k302_341 (by decide) ?_
  refine sx_ishl k302_343 ?_
  refine sx_aload_n (i := 1) k302_344 rfl rfl ?_
  refine sx_iconst (v := 5) k302_345 (by decide) ?_
  obtain ⟨x7, e8, h⟩ := Option.bind_eq_some_iff.mp h
  refine cx_iald k302_346 sk_157 e8 ?_
  refine sx_ior k302_347 ?_
  refine cx_nm h (fun x9 h => ?_)
  refine cx_istore (lo2 := [(4, .int x9), (0, .ref 129), (1, .ref 157), (3, .int v3)]) k302_348 (by rw [mx_302]; decide) rfl ?_
  refine sx_aload_n (i := 0) k302_350 rfl rfl ?_
  refine cx_getR (k := 75) k302_351 ow_302 fl_12_387 (by decide) sk_129 ft_11_75 sr_129_75 ?_
  refine sx_iload_n (i := 3) k302_354 rfl rfl ?_
  obtain ⟨x10, e11, h⟩ := Option.bind_eq_some_iff.mp h
  refine cx_iald k302_355 sk_160 e11 ?_
  by_cases hb12 : x10 ≤ 0
  · rw [if_pos hb12] at h
    refine sx_if_le (tgt := 363) k302_356 (by decide) (fun _ => ?_) (fun q => absurd hb12 q)
    refine sx_iload k302_363 rfl ?_
    refine sx_pick (lo2 := [(0, .ref 129), (1, .ref 157), (3, .int v3)]) [1, 2, 3] rfl ?_
    exact c302_365_ok v3 x9 _ _ h
  · rw [if_neg hb12] at h
    refine sx_if_le (tgt := 363) k302_356 (by decide) (fun q => absurd q hb12) (fun _ => ?_)
    refine sx_iconst (v := 0) k302_359 (by decide) ?_
    refine sx_goto (tgt := 365) k302_360 (by decide) ?_
    refine sx_pick (lo2 := [(0, .ref 129), (1, .ref 157), (3, .int v3)]) [1, 2, 3] rfl ?_
    exact c302_365_ok v3 (0 : Int32) _ _ h
def c302_265 (μ : Mem) : Option (Mem) :=
  (ldA 157 (1 : Int32) μ).bind fun x1 =>
  nm ((jshr x1 (1 : Int32)) &&& (7 : Int32)) fun x3 =>
  if x3 ≤ (1 : Int32) then
    (ldA 159 x3 μ).bind fun x5 =>
    if x5 = (-2 : Int32) then
      c302_326 x3 μ
    else
      (ldA 157 (3 : Int32) μ).bind fun x8 =>
      (ldA 159 x3 μ).bind fun x10 =>
      if x8 = ((x10 + (1 : Int32)) &&& (255 : Int32)) then
        c302_326 x3 μ
      else
        (pfI 129 69 ((μ.1 129 69) + (1 : Int32)) μ).bind fun m13 =>
        (stA 160 x3 (0 : Int32) m13).bind fun m15 =>
        c302_326 x3 m15
  else
    some μ
theorem c302_265_ok {L : Nat} (μ : Mem) (res : Mem) (h : c302_265 μ = some res) : Sx 302 265 [(0, .ref 129), (1, .ref 157)] [] 0 0 (mk L μ) (mk L res, none) := by
  unfold c302_265 at h
  refine sx_aload_n (i := 1) k302_265 rfl rfl ?_
  refine sx_iconst (v := 1) k302_266 (by decide) ?_
  obtain ⟨x1, e2, h⟩ := Option.bind_eq_some_iff.mp h
  refine cx_iald k302_267 sk_157 e2 ?_
  refine sx_iconst (v := 1) k302_268 (by decide) ?_
  refine sx_ishr k302_269 ?_
  refine sx_bipush (v := 7) k302_270 (by decide) ?_
  refine sx_iand k302_272 ?_
  refine cx_nm h (fun x3 h => ?_)
  refine cx_istore_n (lo2 := [(3, .int x3), (0, .ref 129), (1, .ref 157)]) k302_273 rfl (by rw [mx_302]; decide) rfl ?_
  refine sx_iload_n (i := 3) k302_274 rfl rfl ?_
  refine sx_iconst (v := 1) k302_275 (by decide) ?_
  by_cases hb4 : x3 ≤ (1 : Int32)
  · rw [if_pos hb4] at h
    refine sx_icmp_le (tgt := 280) k302_276 (by decide) (fun _ => ?_) (fun q => absurd hb4 q)
    refine sx_aload_n (i := 0) k302_280 rfl rfl ?_
    refine cx_getR (k := 74) k302_281 ow_302 fl_12_381 (by decide) sk_129 ft_11_74 sr_129_74 ?_
    refine sx_iload_n (i := 3) k302_284 rfl rfl ?_
    obtain ⟨x5, e6, h⟩ := Option.bind_eq_some_iff.mp h
    refine cx_iald k302_285 sk_159 e6 ?_
    refine sx_bipush (v := -2) k302_286 (by decide) ?_
    by_cases hb7 : x5 = (-2 : Int32)
    · rw [if_pos hb7] at h
      refine sx_icmp_eq (tgt := 326) k302_288 (by decide) (fun _ => ?_) (fun q => absurd hb7 q)
      refine sx_pick (lo2 := [(0, .ref 129), (1, .ref 157), (3, .int x3)]) [1, 2, 0] rfl ?_
      exact c302_326_ok x3 _ _ h
    · rw [if_neg hb7] at h
      refine sx_icmp_eq (tgt := 326) k302_288 (by decide) (fun q => absurd q hb7) (fun _ => ?_)
      refine sx_aload_n (i := 1) k302_291 rfl rfl ?_
      refine sx_iconst (v := 3) k302_292 (by decide) ?_
      obtain ⟨x8, e9, h⟩ := Option.bind_eq_some_iff.mp h
      refine cx_iald k302_293 sk_157 e9 ?_
      refine sx_aload_n (i := 0) k302_294 rfl rfl ?_
      refine cx_getR (k := 74) k302_295 ow_302 fl_12_381 (by decide) sk_129 ft_11_74 sr_129_74 ?_
      refine sx_iload_n (i := 3) k302_298 rfl rfl ?_
      obtain ⟨x10, e11, h⟩ := Option.bind_eq_some_iff.mp h
      refine cx_iald k302_299 sk_159 e11 ?_
      refine sx_iconst (v := 1) k302_300 (by decide) ?_
      refine sx_iadd k302_301 ?_
      refine sx_sipush (v := 255) k302_302 (by decide) ?_
      refine sx_iand k302_305 ?_
      by_cases hb12 : x8 = ((x10 + (1 : Int32)) &&& (255 : Int32))
      · rw [if_pos hb12] at h
        refine sx_icmp_eq (tgt := 326) k302_306 (by decide) (fun _ => ?_) (fun q => absurd hb12 q)
        refine sx_pick (lo2 := [(0, .ref 129), (1, .ref 157), (3, .int x3)]) [1, 2, 0] rfl ?_
        exact c302_326_ok x3 _ _ h
      · rw [if_neg hb12] at h
        refine sx_icmp_eq (tgt := 326) k302_306 (by decide) (fun q => absurd q hb12) (fun _ => ?_)
        refine sx_aload_n (i := 0) k302_309 rfl rfl ?_
        refine sx_dup k302_310 rfl ?_
        refine cx_getI (k := 69) k302_311 ow_302 fl_12_384 (by decide) sk_129 ft_11_69 ?_
        refine sx_iconst (v := 1) k302_314 (by decide) ?_
        refine sx_iadd k302_315 ?_
        obtain ⟨m13, e14, h⟩ := Option.bind_eq_some_iff.mp h
        refine cx_putI (k := 69) k302_316 ow_302 fl_12_384 (by decide) sk_129 nf_11_69 fu_11_69 e14 ?_
        refine sx_aload_n (i := 0) k302_319 rfl rfl ?_
        refine cx_getR (k := 75) k302_320 ow_302 fl_12_387 (by decide) sk_129 ft_11_75 sr_129_75 ?_
        refine sx_iload_n (i := 3) k302_323 rfl rfl ?_
        refine sx_iconst (v := 0) k302_324 (by decide) ?_
        obtain ⟨m15, e16, h⟩ := Option.bind_eq_some_iff.mp h
        refine cx_iast k302_325 sk_160 e16 ?_
        refine sx_pick (lo2 := [(0, .ref 129), (1, .ref 157), (3, .int x3)]) [1, 2, 0] rfl ?_
        exact c302_326_ok x3 _ _ h
  · rw [if_neg hb4] at h
    refine sx_icmp_le (tgt := 280) k302_276 (by decide) (fun q => absurd q hb4) (fun _ => ?_)
    exact cx_retv k302_279 rt_302 h
def c302_262 (s1 : Int32) (s2 : Int32) (s3 : Int32) (s4 : Int32) (μ : Mem) : Option (Mem) :=
  (f280 s1 s2 s3 s4 μ).bind fun r1 =>
  c302_265 r1
theorem c302_262_ok {L : Nat} (s1 : Int32) (s2 : Int32) (s3 : Int32) (s4 : Int32) (μ : Mem) (res : Mem) (h : c302_262 s1 s2 s3 s4 μ = some res) : Sx 302 262 [(0, .ref 129), (1, .ref 157)] [.int s4, .int s3, .int s2, .int s1, .ref 129] 0 0 (mk L μ) (mk L res, none) := by
  unfold c302_262 at h
  obtain ⟨r1, e2, h⟩ := Option.bind_eq_some_iff.mp h
  refine cx_V (sk := []) (vs := [.int s1, .int s2, .int s3, .int s4]) st_302_280 k302_262 ow_302 cl_12_377 (by decide) rfl (Nat.le_of_ble_eq_true rfl) sk_129 (ok280 s1 s2 s3 s4 _ _ e2) (sk3 := []) rfl rfl ?_
  refine sx_pick (lo2 := [(0, .ref 129), (1, .ref 157)]) [0, 1] rfl ?_
  exact c302_265_ok _ _ h
def c302_247 (s1 : Int32) (s2 : Int32) (s3 : Int32) (μ : Mem) : Option (Mem) :=
  (ldA 157 (60 : Int32) μ).bind fun x1 =>
  if (x1 &&& (8 : Int32)) = 0 then
    c302_262 s1 s2 s3 (0 : Int32) μ
  else
    c302_262 s1 s2 s3 (1 : Int32) μ
theorem c302_247_ok {L : Nat} (s1 : Int32) (s2 : Int32) (s3 : Int32) (μ : Mem) (res : Mem) (h : c302_247 s1 s2 s3 μ = some res) : Sx 302 247 [(0, .ref 129), (1, .ref 157)] [.int s3, .int s2, .int s1, .ref 129] 0 0 (mk L μ) (mk L res, none) := by
  unfold c302_247 at h
  refine sx_aload_n (i := 1) k302_247 rfl rfl ?_
  refine sx_bipush (v := 60) k302_248 (by decide) ?_
  obtain ⟨x1, e2, h⟩ := Option.bind_eq_some_iff.mp h
  refine cx_iald k302_250 sk_157 e2 ?_
  refine sx_bipush (v := 8) k302_251 (by decide) ?_
  refine sx_iand k302_253 ?_
  by_cases hb3 : (x1 &&& (8 : Int32)) = 0
  · rw [if_pos hb3] at h
    refine sx_if_eq (tgt := 261) k302_254 (by decide) (fun _ => ?_) (fun q => absurd hb3 q)
    refine sx_iconst (v := 0) k302_261 (by decide) ?_
    refine sx_pick (lo2 := [(0, .ref 129), (1, .ref 157)]) [0, 1] rfl ?_
    exact c302_262_ok s1 s2 s3 (0 : Int32) _ _ h
  · rw [if_neg hb3] at h
    refine sx_if_eq (tgt := 261) k302_254 (by decide) (fun q => absurd q hb3) (fun _ => ?_)
    refine sx_iconst (v := 1) k302_257 (by decide) ?_
    refine sx_goto (tgt := 262) k302_258 (by decide) ?_
    refine sx_pick (lo2 := [(0, .ref 129), (1, .ref 157)]) [0, 1] rfl ?_
    exact c302_262_ok s1 s2 s3 (1 : Int32) _ _ h
def c302_232 (s1 : Int32) (s2 : Int32) (μ : Mem) : Option (Mem) :=
  (ldA 157 (60 : Int32) μ).bind fun x1 =>
  if (x1 &&& (16 : Int32)) = 0 then
    c302_247 s1 s2 (0 : Int32) μ
  else
    c302_247 s1 s2 (1 : Int32) μ
theorem c302_232_ok {L : Nat} (s1 : Int32) (s2 : Int32) (μ : Mem) (res : Mem) (h : c302_232 s1 s2 μ = some res) : Sx 302 232 [(0, .ref 129), (1, .ref 157)] [.int s2, .int s1, .ref 129] 0 0 (mk L μ) (mk L res, none) := by
  unfold c302_232 at h
  refine sx_aload_n (i := 1) k302_232 rfl rfl ?_
  refine sx_bipush (v := 60) k302_233 (by decide) ?_
  obtain ⟨x1, e2, h⟩ := Option.bind_eq_some_iff.mp h
  refine cx_iald k302_235 sk_157 e2 ?_
  refine sx_bipush (v := 16) k302_236 (by decide) ?_
  refine sx_iand k302_238 ?_
  by_cases hb3 : (x1 &&& (16 : Int32)) = 0
  · rw [if_pos hb3] at h
    refine sx_if_eq (tgt := 246) k302_239 (by decide) (fun _ => ?_) (fun q => absurd hb3 q)
    refine sx_iconst (v := 0) k302_246 (by decide) ?_
    refine sx_pick (lo2 := [(0, .ref 129), (1, .ref 157)]) [0, 1] rfl ?_
    exact c302_247_ok s1 s2 (0 : Int32) _ _ h
  · rw [if_neg hb3] at h
    refine sx_if_eq (tgt := 246) k302_239 (by decide) (fun q => absurd q hb3) (fun _ => ?_)
    refine sx_iconst (v := 1) k302_242 (by decide) ?_
    refine sx_goto (tgt := 247) k302_243 (by decide) ?_
    refine sx_pick (lo2 := [(0, .ref 129), (1, .ref 157)]) [0, 1] rfl ?_
    exact c302_247_ok s1 s2 (1 : Int32) _ _ h
def c302_107 (s0 : Int32) (μ : Mem) : Option (Mem) :=
  if s0 = 0 then
    (pfI 129 68 ((μ.1 129 68) + (1 : Int32)) μ).bind fun m32 =>
    some m32
  else
    (ldA 157 (58 : Int32) μ).bind fun x2 =>
    if x2 = (1 : Int32) then
      (ldA 157 (59 : Int32) μ).bind fun x5 =>
      if x5 = 0 then
        (ldA 157 (60 : Int32) μ).bind fun x8 =>
        if (x8 &&& (193 : Int32)) = 0 then
          (pfI 129 70 ((μ.1 129 70) + (1 : Int32)) μ).bind fun m11 =>
          (ldA 157 (61 : Int32) m11).bind fun x13 =>
          (pfI 129 71 x13 m11).bind fun m15 =>
          (ldA 157 (60 : Int32) m15).bind fun x17 =>
          (ldA 157 (60 : Int32) m15).bind fun x19 =>
          (ldA 157 (60 : Int32) m15).bind fun x21 =>
          (ldA 157 (60 : Int32) m15).bind fun x23 =>
          (pfI 129 72 ((((jshl ((jshr x17 (5 : Int32)) &&& (1 : Int32)) (4 : Int32)) ||| (jshl ((jshr x19 (4 : Int32)) &&& (1 : Int32)) (3 : Int32))) ||| (jshl ((jshr x21 (3 : Int32)) &&& (1 : Int32)) (2 : Int32))) ||| ((jshr x23 (1 : Int32)) &&& (3 : Int32))) m15).bind fun m25 =>
          (ldA 157 (61 : Int32) m25).bind fun x27 =>
          (ldA 157 (60 : Int32) m25).bind fun x29 =>
          if (x29 &&& (32 : Int32)) = 0 then
            c302_232 x27 (0 : Int32) m25
          else
            c302_232 x27 (1 : Int32) m25
        else
          c302_265 μ
      else
        c302_265 μ
    else
      c302_265 μ
theorem c302_107_ok {L : Nat} (s0 : Int32) (μ : Mem) (res : Mem) (h : c302_107 s0 μ = some res) : Sx 302 107 [(0, .ref 129), (1, .ref 157)] [.int s0] 0 0 (mk L μ) (mk L res, none) := by
  unfold c302_107 at h
  refine cx_istore_n (lo2 := [(2, .int s0), (0, .ref 129), (1, .ref 157)]) k302_107 rfl (by rw [mx_302]; decide) rfl ?_
  refine sx_iload_n (i := 2) k302_108 rfl rfl ?_
  by_cases hb1 : s0 = 0
  · rw [if_pos hb1] at h
    refine sx_if_ne (tgt := 123) k302_109 (by decide) (fun q => absurd hb1 q) (fun _ => ?_)
    refine sx_aload_n (i := 0) k302_112 rfl rfl ?_
    refine sx_dup k302_113 rfl ?_
    refine cx_getI (k := 68) k302_114 ow_302 fl_12_365 (by decide) sk_129 ft_11_68 ?_
    refine sx_iconst (v := 1) k302_117 (by decide) ?_
    refine sx_iadd k302_118 ?_
    obtain ⟨m32, e33, h⟩ := Option.bind_eq_some_iff.mp h
    refine cx_putI (k := 68) k302_119 ow_302 fl_12_365 (by decide) sk_129 nf_11_68 fu_11_68 e33 ?_
    exact cx_retv k302_122 rt_302 h
  · rw [if_neg hb1] at h
    refine sx_if_ne (tgt := 123) k302_109 (by decide) (fun _ => ?_) (fun q => absurd q hb1)
    refine sx_aload_n (i := 1) k302_123 rfl rfl ?_
    refine sx_bipush (v := 58) k302_124 (by decide) ?_
    obtain ⟨x2, e3, h⟩ := Option.bind_eq_some_iff.mp h
    refine cx_iald k302_126 sk_157 e3 ?_
    refine sx_iconst (v := 1) k302_127 (by decide) ?_
    by_cases hb4 : x2 = (1 : Int32)
    · rw [if_pos hb4] at h
      refine sx_icmp_ne (tgt := 265) k302_128 (by decide) (fun q => absurd hb4 q) (fun _ => ?_)
      refine sx_aload_n (i := 1) k302_131 rfl rfl ?_
      refine sx_bipush (v := 59) k302_132 (by decide) ?_
      obtain ⟨x5, e6, h⟩ := Option.bind_eq_some_iff.mp h
      refine cx_iald k302_134 sk_157 e6 ?_
      by_cases hb7 : x5 = 0
      · rw [if_pos hb7] at h
        refine sx_if_ne (tgt := 265) k302_135 (by decide) (fun q => absurd hb7 q) (fun _ => ?_)
        refine sx_aload_n (i := 1) k302_138 rfl rfl ?_
        refine sx_bipush (v := 60) k302_139 (by decide) ?_
        obtain ⟨x8, e9, h⟩ := Option.bind_eq_some_iff.mp h
        refine cx_iald k302_141 sk_157 e9 ?_
        refine sx_sipush (v := 193) k302_142 (by decide) ?_
        refine sx_iand k302_145 ?_
        by_cases hb10 : (x8 &&& (193 : Int32)) = 0
        · rw [if_pos hb10] at h
          refine sx_if_ne (tgt := 265) k302_146 (by decide) (fun q => absurd hb10 q) (fun _ => ?_)
          refine sx_aload_n (i := 0) k302_149 rfl rfl ?_
          refine sx_dup k302_150 rfl ?_
          refine cx_getI (k := 70) k302_151 ow_302 fl_12_368 (by decide) sk_129 ft_11_70 ?_
          refine sx_iconst (v := 1) k302_154 (by decide) ?_
          refine sx_iadd k302_155 ?_
          obtain ⟨m11, e12, h⟩ := Option.bind_eq_some_iff.mp h
          refine cx_putI (k := 70) k302_156 ow_302 fl_12_368 (by decide) sk_129 nf_11_70 fu_11_70 e12 ?_
          refine sx_aload_n (i := 0) k302_159 rfl rfl ?_
          refine sx_aload_n (i := 1) k302_160 rfl rfl ?_
          refine sx_bipush (v := 61) k302_161 (by decide) ?_
          obtain ⟨x13, e14, h⟩ := Option.bind_eq_some_iff.mp h
          refine cx_iald k302_163 sk_157 e14 ?_
          obtain ⟨m15, e16, h⟩ := Option.bind_eq_some_iff.mp h
          refine cx_putI (k := 71) k302_164 ow_302 fl_12_371 (by decide) sk_129 nf_11_71 fu_11_71 e16 ?_
          refine sx_aload_n (i := 0) k302_167 rfl rfl ?_
          refine sx_aload_n (i := 1) k302_168 rfl rfl ?_
          refine sx_bipush (v := 60) k302_169 (by decide) ?_
          obtain ⟨x17, e18, h⟩ := Option.bind_eq_some_iff.mp h
          refine cx_iald k302_171 sk_157 e18 ?_
          refine sx_iconst (v := 5) k302_172 (by decide) ?_
          refine sx_ishr k302_173 ?_
          refine sx_iconst (v := 1) k302_174 (by decide) ?_
          refine sx_iand k302_175 ?_
          refine sx_iconst (v := 4) k302_176 (by decide) ?_
          refine sx_ishl k302_177 ?_
          refine sx_aload_n (i := 1) k302_178 rfl rfl ?_
          refine sx_bipush (v := 60) k302_179 (by decide) ?_
          obtain ⟨x19, e20, h⟩ := Option.bind_eq_some_iff.mp h
          refine cx_iald k302_181 sk_157 e20 ?_
          refine sx_iconst (v := 4) k302_182 (by decide) ?_
          refine sx_ishr k302_183 ?_
          refine sx_iconst (v := 1) k302_184 (by decide) ?_
          refine sx_iand k302_185 ?_
          refine sx_iconst (v := 3) k302_186 (by decide) ?_
          refine sx_ishl k302_187 ?_
          refine sx_ior k302_188 ?_
          refine sx_aload_n (i := 1) k302_189 rfl rfl ?_
          refine sx_bipush (v := 60) k302_190 (by decide) ?_
          obtain ⟨x21, e22, h⟩ := Option.bind_eq_some_iff.mp h
          refine cx_iald k302_192 sk_157 e22 ?_
          refine sx_iconst (v := 3) k302_193 (by decide) ?_
          refine sx_ishr k302_194 ?_
          refine sx_iconst (v := 1) k302_195 (by decide) ?_
          refine sx_iand k302_196 ?_
          refine sx_iconst (v := 2) k302_197 (by decide) ?_
          refine sx_ishl k302_198 ?_
          refine sx_ior k302_199 ?_
          refine sx_aload_n (i := 1) k302_200 rfl rfl ?_
          refine sx_bipush (v := 60) k302_201 (by decide) ?_
          obtain ⟨x23, e24, h⟩ := Option.bind_eq_some_iff.mp h
          refine cx_iald k302_203 sk_157 e24 ?_
          refine sx_iconst (v := 1) k302_204 (by decide) ?_
          refine sx_ishr k302_205 ?_
          refine sx_iconst (v := 3) k302_206 (by decide) ?_
          refine sx_iand k302_207 ?_
          refine sx_ior k302_208 ?_
          obtain ⟨m25, e26, h⟩ := Option.bind_eq_some_iff.mp h
          refine cx_putI (k := 72) k302_209 ow_302 fl_12_374 (by decide) sk_129 nf_11_72 fu_11_72 e26 ?_
          refine sx_aload_n (i := 0) k302_212 rfl rfl ?_
          refine sx_aload_n (i := 1) k302_213 rfl rfl ?_
          refine sx_bipush (v := 61) k302_214 (by decide) ?_
          obtain ⟨x27, e28, h⟩ := Option.bind_eq_some_iff.mp h
          refine cx_iald k302_216 sk_157 e28 ?_
          refine sx_aload_n (i := 1) k302_217 rfl rfl ?_
          refine sx_bipush (v := 60) k302_218 (by decide) ?_
          obtain ⟨x29, e30, h⟩ := Option.bind_eq_some_iff.mp h
          refine cx_iald k302_220 sk_157 e30 ?_
          refine sx_bipush (v := 32) k302_221 (by decide) ?_
          refine sx_iand k302_223 ?_
          by_cases hb31 : (x29 &&& (32 : Int32)) = 0
          · rw [if_pos hb31] at h
            refine sx_if_eq (tgt := 231) k302_224 (by decide) (fun _ => ?_) (fun q => absurd hb31 q)
            refine sx_iconst (v := 0) k302_231 (by decide) ?_
            refine sx_pick (lo2 := [(0, .ref 129), (1, .ref 157)]) [1, 2] rfl ?_
            exact c302_232_ok x27 (0 : Int32) _ _ h
          · rw [if_neg hb31] at h
            refine sx_if_eq (tgt := 231) k302_224 (by decide) (fun q => absurd q hb31) (fun _ => ?_)
            refine sx_iconst (v := 1) k302_227 (by decide) ?_
            refine sx_goto (tgt := 232) k302_228 (by decide) ?_
            refine sx_pick (lo2 := [(0, .ref 129), (1, .ref 157)]) [1, 2] rfl ?_
            exact c302_232_ok x27 (1 : Int32) _ _ h
        · rw [if_neg hb10] at h
          refine sx_if_ne (tgt := 265) k302_146 (by decide) (fun _ => ?_) (fun q => absurd q hb10)
          refine sx_pick (lo2 := [(0, .ref 129), (1, .ref 157)]) [1, 2] rfl ?_
          exact c302_265_ok _ _ h
      · rw [if_neg hb7] at h
        refine sx_if_ne (tgt := 265) k302_135 (by decide) (fun _ => ?_) (fun q => absurd q hb7)
        refine sx_pick (lo2 := [(0, .ref 129), (1, .ref 157)]) [1, 2] rfl ?_
        exact c302_265_ok _ _ h
    · rw [if_neg hb4] at h
      refine sx_icmp_ne (tgt := 265) k302_128 (by decide) (fun _ => ?_) (fun q => absurd q hb4)
      refine sx_pick (lo2 := [(0, .ref 129), (1, .ref 157)]) [1, 2] rfl ?_
      exact c302_265_ok _ _ h
def c302_106 (μ : Mem) : Option (Mem) :=
  c302_107 (0 : Int32) μ
theorem c302_106_ok {L : Nat} (μ : Mem) (res : Mem) (h : c302_106 μ = some res) : Sx 302 106 [(0, .ref 129), (1, .ref 157)] [] 0 0 (mk L μ) (mk L res, none) := by
  unfold c302_106 at h
  refine sx_iconst (v := 0) k302_106 (by decide) ?_
  refine sx_pick (lo2 := [(0, .ref 129), (1, .ref 157)]) [0, 1] rfl ?_
  exact c302_107_ok (0 : Int32) _ _ h
def b302_12 (kl12 : Int32 → Mem → Option (Mem)) (v1 : Int32) (μ : Mem) : Option (Mem) :=
  if (64 : Int32) ≤ v1 then
    (f245 157 (0 : Int32) (62 : Int32) μ).bind fun r2 =>
    (ldA 157 (62 : Int32) r2.1).bind fun x4 =>
    (ldA 157 (63 : Int32) r2.1).bind fun x6 =>
    if r2.2 = ((jshl x4 (8 : Int32)) ||| x6) then
      (ldA 157 (0 : Int32) r2.1).bind fun x9 =>
      (ldA 157 (1 : Int32) r2.1).bind fun x11 =>
      if (jshr ((jshl x9 (8 : Int32)) ||| x11) (4 : Int32)) = (171 : Int32) then
        (ldA 157 (1 : Int32) r2.1).bind fun x14 =>
        if (x14 &&& (1 : Int32)) = (1 : Int32) then
          (ldA 157 (4 : Int32) r2.1).bind fun x17 =>
          if (jshr x17 (3 : Int32)) = (3 : Int32) then
            c302_107 (1 : Int32) r2.1
          else
            c302_106 r2.1
        else
          c302_106 r2.1
      else
        c302_106 r2.1
    else
      c302_106 r2.1
  else
    (ldA 157 v1 μ).bind fun x20 =>
    (ldA 158 v1 μ).bind fun x22 =>
    (stA 157 v1 (x20 ^^^ x22) μ).bind fun m24 =>
    nm (v1 + (1 : Int32)) fun x26 =>
    kl12 x26 m24
theorem b302_12_ok {L : Nat} (kl12 : Int32 → Mem → Option (Mem)) (hk12 : (∀ (v1 : Int32) (μ : Mem) (res : Mem), kl12 v1 μ = some res → Sx 302 12 [(0, .ref 129), (1, .int v1)] [] 0 0 (mk L μ) (mk L res, none))) (v1 : Int32) (μ : Mem) (res : Mem) (h : b302_12 kl12 v1 μ = some res) : Sx 302 12 [(0, .ref 129), (1, .int v1)] [] 0 0 (mk L μ) (mk L res, none) := by
  unfold b302_12 at h
  refine sx_iload_n (i := 1) k302_12 rfl rfl ?_
  refine sx_bipush (v := 64) k302_13 (by decide) ?_
  by_cases hb1 : (64 : Int32) ≤ v1
  · rw [if_pos hb1] at h
    refine sx_icmp_ge (tgt := 39) k302_15 (by decide) (fun _ => ?_) (fun q => absurd hb1 q)
    refine sx_aload_n (i := 0) k302_39 rfl rfl ?_
    refine cx_getR (k := 66) k302_40 ow_302 fl_12_337 (by decide) sk_129 ft_11_66 sr_129_66 ?_
    refine cx_astore_n (lo2 := [(1, .ref 157), (0, .ref 129)]) k302_43 rfl (by rw [mx_302]; decide) rfl ?_
    refine sx_aload_n (i := 1) k302_44 rfl rfl ?_
    refine sx_iconst (v := 0) k302_45 (by decide) ?_
    refine sx_bipush (v := 62) k302_46 (by decide) ?_
    obtain ⟨r2, e3, h⟩ := Option.bind_eq_some_iff.mp h
    refine cx_S (sk := []) (vs := [.ref 157, .int (0 : Int32), .int (62 : Int32)]) st_302_245 k302_48 ow_302 cl_12_11 (by decide) rfl (Nat.le_of_ble_eq_true rfl) (ok245 157 (0 : Int32) (62 : Int32) sk_157 _ _ e3) (sk3 := [.int r2.2]) rfl rfl ?_
    refine sx_aload_n (i := 1) k302_51 rfl rfl ?_
    refine sx_bipush (v := 62) k302_52 (by decide) ?_
    obtain ⟨x4, e5, h⟩ := Option.bind_eq_some_iff.mp h
    refine cx_iald k302_54 sk_157 e5 ?_
    refine sx_bipush (v := 8) k302_55 (by decide) ?_
    refine sx_ishl k302_57 ?_
    refine sx_aload_n (i := 1) k302_58 rfl rfl ?_
    refine sx_bipush (v := 63) k302_59 (by decide) ?_
    obtain ⟨x6, e7, h⟩ := Option.bind_eq_some_iff.mp h
    refine cx_iald k302_61 sk_157 e7 ?_
    refine sx_ior k302_62 ?_
    by_cases hb8 : r2.2 = ((jshl x4 (8 : Int32)) ||| x6)
    · rw [if_pos hb8] at h
      refine sx_icmp_ne (tgt := 106) k302_63 (by decide) (fun q => absurd hb8 q) (fun _ => ?_)
      refine sx_aload_n (i := 1) k302_66 rfl rfl ?_
      refine sx_iconst (v := 0) k302_67 (by decide) ?_
      obtain ⟨x9, e10, h⟩ := Option.bind_eq_some_iff.mp h
      refine cx_iald k302_68 sk_157 e10 ?_
      refine sx_bipush (v := 8) k302_69 (by decide) ?_
      refine sx_ishl k302_71 ?_
      refine sx_aload_n (i := 1) k302_72 rfl rfl ?_
      refine sx_iconst (v := 1) k302_73 (by decide) ?_
      obtain ⟨x11, e12, h⟩ := Option.bind_eq_some_iff.mp h
      refine cx_iald k302_74 sk_157 e12 ?_
      refine sx_ior k302_75 ?_
      refine sx_iconst (v := 4) k302_76 (by decide) ?_
      refine sx_ishr k302_77 ?_
      refine sx_sipush (v := 171) k302_78 (by decide) ?_
      by_cases hb13 : (jshr ((jshl x9 (8 : Int32)) ||| x11) (4 : Int32)) = (171 : Int32)
      · rw [if_pos hb13] at h
        refine sx_icmp_ne (tgt := 106) k302_81 (by decide) (fun q => absurd hb13 q) (fun _ => ?_)
        refine sx_aload_n (i := 1) k302_84 rfl rfl ?_
        refine sx_iconst (v := 1) k302_85 (by decide) ?_
        obtain ⟨x14, e15, h⟩ := Option.bind_eq_some_iff.mp h
        refine cx_iald k302_86 sk_157 e15 ?_
        refine sx_iconst (v := 1) k302_87 (by decide) ?_
        refine sx_iand k302_88 ?_
        refine sx_iconst (v := 1) k302_89 (by decide) ?_
        by_cases hb16 : (x14 &&& (1 : Int32)) = (1 : Int32)
        · rw [if_pos hb16] at h
          refine sx_icmp_ne (tgt := 106) k302_90 (by decide) (fun q => absurd hb16 q) (fun _ => ?_)
          refine sx_aload_n (i := 1) k302_93 rfl rfl ?_
          refine sx_iconst (v := 4) k302_94 (by decide) ?_
          obtain ⟨x17, e18, h⟩ := Option.bind_eq_some_iff.mp h
          refine cx_iald k302_95 sk_157 e18 ?_
          refine sx_iconst (v := 3) k302_96 (by decide) ?_
          refine sx_ishr k302_97 ?_
          refine sx_iconst (v := 3) k302_98 (by decide) ?_
          by_cases hb19 : (jshr x17 (3 : Int32)) = (3 : Int32)
          · rw [if_pos hb19] at h
            refine sx_icmp_ne (tgt := 106) k302_99 (by decide) (fun q => absurd hb19 q) (fun _ => ?_)
            refine sx_iconst (v := 1) k302_102 (by decide) ?_
            refine sx_goto (tgt := 107) k302_103 (by decide) ?_
            refine sx_pick (lo2 := [(0, .ref 129), (1, .ref 157)]) [1, 0] rfl ?_
            exact c302_107_ok (1 : Int32) _ _ h
          · rw [if_neg hb19] at h
            refine sx_icmp_ne (tgt := 106) k302_99 (by decide) (fun _ => ?_) (fun q => absurd q hb19)
            refine sx_pick (lo2 := [(0, .ref 129), (1, .ref 157)]) [1, 0] rfl ?_
            exact c302_106_ok _ _ h
        · rw [if_neg hb16] at h
          refine sx_icmp_ne (tgt := 106) k302_90 (by decide) (fun _ => ?_) (fun q => absurd q hb16)
          refine sx_pick (lo2 := [(0, .ref 129), (1, .ref 157)]) [1, 0] rfl ?_
          exact c302_106_ok _ _ h
      · rw [if_neg hb13] at h
        refine sx_icmp_ne (tgt := 106) k302_81 (by decide) (fun _ => ?_) (fun q => absurd q hb13)
        refine sx_pick (lo2 := [(0, .ref 129), (1, .ref 157)]) [1, 0] rfl ?_
        exact c302_106_ok _ _ h
    · rw [if_neg hb8] at h
      refine sx_icmp_ne (tgt := 106) k302_63 (by decide) (fun _ => ?_) (fun q => absurd q hb8)
      refine sx_pick (lo2 := [(0, .ref 129), (1, .ref 157)]) [1, 0] rfl ?_
      exact c302_106_ok _ _ h
  · rw [if_neg hb1] at h
    refine sx_icmp_ge (tgt := 39) k302_15 (by decide) (fun q => absurd q hb1) (fun _ => ?_)
    refine sx_aload_n (i := 0) k302_18 rfl rfl ?_
    refine cx_getR (k := 66) k302_19 ow_302 fl_12_337 (by decide) sk_129 ft_11_66 sr_129_66 ?_
    refine sx_iload_n (i := 1) k302_22 rfl rfl ?_
    refine sx_dup2 k302_23 rfl rfl ?_
    obtain ⟨x20, e21, h⟩ := Option.bind_eq_some_iff.mp h
    refine cx_iald k302_24 sk_157 e21 ?_
    refine sx_aload_n (i := 0) k302_25 rfl rfl ?_
    refine cx_getR (k := 73) k302_26 ow_302 fl_12_328 (by decide) sk_129 ft_11_73 sr_129_73 ?_
    refine sx_iload_n (i := 1) k302_29 rfl rfl ?_
    obtain ⟨x22, e23, h⟩ := Option.bind_eq_some_iff.mp h
    refine cx_iald k302_30 sk_158 e23 ?_
    refine sx_ixor k302_31 ?_
    obtain ⟨m24, e25, h⟩ := Option.bind_eq_some_iff.mp h
    refine cx_iast k302_32 sk_157 e25 ?_
    refine cx_iinc (c := 1) (lo2 := fun x26 => [(1, .int x26), (0, .ref 129)]) k302_33 rfl (by decide) (by rw [mx_302]; decide) (fun _ => rfl) h (fun x26 h => ?_)
    refine sx_goto (tgt := 12) k302_36 (by decide) ?_
    refine sx_pick (lo2 := [(0, .ref 129), (1, .int x26)]) [1, 0] rfl ?_
    exact hk12 x26 _ _ h
def l302_12 : Nat → Int32 × Mem → Option (Mem) :=
  fixN (fun self x => b302_12 (fun v1 μ => self (v1, μ)) (x.1) (x.2))
theorem l302_12_ok {L : Nat} (n : Nat) (v1 : Int32) (μ : Mem) (res : Mem) (h : l302_12 n (v1, μ) = some res) : Sx 302 12 [(0, .ref 129), (1, .int v1)] [] 0 0 (mk L μ) (mk L res, none) := by
  have key := fixN_ind (P := fun x res => Sx 302 12 [(0, .ref 129), (1, .int (x.1))] [] 0 0 (mk L (x.2)) (mk L res, none)) (F := fun self x => b302_12 (fun v1 μ => self (v1, μ)) (x.1) (x.2)) (fun self hself x res h => b302_12_ok (fun v1 μ => self (v1, μ)) (fun v1 μ res hh => hself (v1, μ) res hh) (x.1) (x.2) res h) n (v1, μ) res h
  exact key
/-- CraftHouseModel.downFrameComes()V -/
def f302 (μ : Mem) : Option (Mem) :=
  (pfI 129 67 ((μ.1 129 67) + (1 : Int32)) μ).bind fun m1 =>
  l302_12 gF ((0 : Int32), m1)
theorem ok302 {L : Nat} (μ : Mem) (res : Mem) (h : f302 μ = some res) : Mx 302 [.ref 129] (mk L μ) (mk L res, none) := by
  refine Mx_of ml_302 (by rw [mx_302]; exact Nat.le_of_ble_eq_true rfl) ?_
  show Sx 302 0 [(0, .ref 129)] [] 0 0 (mk L μ) _
  unfold f302 at h
  refine sx_aload_n (i := 0) k302_0 rfl rfl ?_
  refine sx_dup k302_1 rfl ?_
  refine cx_getI (k := 67) k302_2 ow_302 fl_12_362 (by decide) sk_129 ft_11_67 ?_
  refine sx_iconst (v := 1) k302_5 (by decide) ?_
  refine sx_iadd k302_6 ?_
  obtain ⟨m1, e2, h⟩ := Option.bind_eq_some_iff.mp h
  refine cx_putI (k := 67) k302_7 ow_302 fl_12_362 (by decide) sk_129 nf_11_67 fu_11_67 e2 ?_
  refine sx_iconst (v := 0) k302_10 (by decide) ?_
  refine cx_istore_n (lo2 := [(1, .int (0 : Int32)), (0, .ref 129)]) k302_11 rfl (by rw [mx_302]; decide) rfl ?_
  refine sx_pick (lo2 := [(0, .ref 129), (1, .int (0 : Int32))]) [1, 0] rfl ?_
  exact l302_12_ok gF (0 : Int32) _ _ h
theorem k300_0 : decode (gb 300) 0 = .ok (.aload_n 0, 1) := by decide +kernel
theorem k300_1 : decode (gb 300) 1 = .ok (.iconst 1, 1) := by decide +kernel
theorem k300_2 : decode (gb 300) 2 = .ok (.putfield 331, 3) := by decide +kernel
theorem k300_5 : decode (gb 300) 5 = .ok (.aload_n 0, 1) := by decide +kernel
theorem k300_6 : decode (gb 300) 6 = .ok (.iconst 0, 1) := by decide +kernel
theorem k300_7 : decode (gb 300) 7 = .ok (.putfield 334, 3) := by decide +kernel
theorem k300_10 : decode (gb 300) 10 = .ok (.return_, 1) := by decide +kernel
/-- CraftHouseModel.beginFrame()V -/
def f300 (μ : Mem) : Option (Mem) :=
  (pfZ 129 64 (1 : Int32) μ).bind fun m1 =>
  (pfI 129 65 (0 : Int32) m1).bind fun m3 =>
  some m3
theorem ok300 {L : Nat} (μ : Mem) (res : Mem) (h : f300 μ = some res) : Mx 300 [.ref 129] (mk L μ) (mk L res, none) := by
  refine Mx_of ml_300 (by rw [mx_300]; exact Nat.le_of_ble_eq_true rfl) ?_
  show Sx 300 0 [(0, .ref 129)] [] 0 0 (mk L μ) _
  unfold f300 at h
  refine sx_aload_n (i := 0) k300_0 rfl rfl ?_
  refine sx_iconst (v := 1) k300_1 (by decide) ?_
  obtain ⟨m1, e2, h⟩ := Option.bind_eq_some_iff.mp h
  refine cx_putZ (k := 64) k300_2 ow_300 fl_12_331 (by decide) sk_129 nf_11_64 fu_11_64 e2 ?_
  refine sx_aload_n (i := 0) k300_5 rfl rfl ?_
  refine sx_iconst (v := 0) k300_6 (by decide) ?_
  obtain ⟨m3, e4, h⟩ := Option.bind_eq_some_iff.mp h
  refine cx_putI (k := 65) k300_7 ow_300 fl_12_334 (by decide) sk_129 nf_11_65 fu_11_65 e4 ?_
  exact cx_retv k300_10 rt_300 h
theorem k299_0 : decode (gb 299) 0 = .ok (.aload_n 0, 1) := by decide +kernel
theorem k299_1 : decode (gb 299) 1 = .ok (.getfield 331, 3) := by decide +kernel
theorem k299_4 : decode (gb 299) 4 = .ok (.ifCond .eq 93, 3) := by decide +kernel
theorem k299_7 : decode (gb 299) 7 = .ok (.aload_n 0, 1) := by decide +kernel
theorem k299_8 : decode (gb 299) 8 = .ok (.getfield 334, 3) := by decide +kernel
theorem k299_11 : decode (gb 299) 11 = .ok (.bipush 8, 2) := by decide +kernel
theorem k299_13 : decode (gb 299) 13 = .ok (.irem, 1) := by decide +kernel
theorem k299_14 : decode (gb 299) 14 = .ok (.ifCond .ne 16, 3) := by decide +kernel
theorem k299_17 : decode (gb 299) 17 = .ok (.aload_n 0, 1) := by decide +kernel
theorem k299_18 : decode (gb 299) 18 = .ok (.getfield 337, 3) := by decide +kernel
theorem k299_21 : decode (gb 299) 21 = .ok (.aload_n 0, 1) := by decide +kernel
theorem k299_22 : decode (gb 299) 22 = .ok (.getfield 334, 3) := by decide +kernel
theorem k299_25 : decode (gb 299) 25 = .ok (.bipush 8, 2) := by decide +kernel
theorem k299_27 : decode (gb 299) 27 = .ok (.idiv, 1) := by decide +kernel
theorem k299_28 : decode (gb 299) 28 = .ok (.iconst 0, 1) := by decide +kernel
theorem k299_29 : decode (gb 299) 29 = .ok (.iastore, 1) := by decide +kernel
theorem k299_30 : decode (gb 299) 30 = .ok (.aload_n 0, 1) := by decide +kernel
theorem k299_31 : decode (gb 299) 31 = .ok (.getfield 337, 3) := by decide +kernel
theorem k299_34 : decode (gb 299) 34 = .ok (.aload_n 0, 1) := by decide +kernel
theorem k299_35 : decode (gb 299) 35 = .ok (.getfield 334, 3) := by decide +kernel
theorem k299_38 : decode (gb 299) 38 = .ok (.bipush 8, 2) := by decide +kernel
theorem k299_40 : decode (gb 299) 40 = .ok (.idiv, 1) := by decide +kernel
theorem k299_41 : decode (gb 299) 41 = .ok (.dup2, 1) := by decide +kernel
theorem k299_42 : decode (gb 299) 42 = .ok (.iaload, 1) := by decide +kernel
theorem k299_43 : decode (gb 299) 43 = .ok (.iload_n 1, 1) := by decide +kernel
theorem k299_44 : decode (gb 299) 44 = .ok (.bipush 7, 2) := by decide +kernel
theorem k299_46 : decode (gb 299) 46 = .ok (.aload_n 0, 1) := by decide +kernel
theorem k299_47 : decode (gb 299) 47 = .ok (.getfield 334, 3) := by decide +kernel
theorem k299_50 : decode (gb 299) 50 = .ok (.bipush 8, 2) := by decide +kernel
theorem k299_52 : decode (gb 299) 52 = .ok (.irem, 1) := by decide +kernel
theorem k299_53 : decode (gb 299) 53 = .ok (.isub, 1) := by decide +kernel
theorem k299_54 : decode (gb 299) 54 = .ok (.ishl, 1) := by decide +kernel
theorem k299_55 : decode (gb 299) 55 = .ok (.ior, 1) := by decide +kernel
theorem k299_56 : decode (gb 299) 56 = .ok (.iastore, 1) := by decide +kernel
theorem k299_57 : decode (gb 299) 57 = .ok (.aload_n 0, 1) := by decide +kernel
theorem k299_58 : decode (gb 299) 58 = .ok (.dup, 1) := by decide +kernel
theorem k299_59 : decode (gb 299) 59 = .ok (.getfield 334, 3) := by decide +kernel
theorem k299_62 : decode (gb 299) 62 = .ok (.iconst 1, 1) := by decide +kernel
theorem k299_63 : decode (gb 299) 63 = .ok (.iadd, 1) := by decide +kernel
theorem k299_64 : decode (gb 299) 64 = .ok (.putfield 334, 3) := by decide +kernel
theorem k299_67 : decode (gb 299) 67 = .ok (.aload_n 0, 1) := by decide +kernel
theorem k299_68 : decode (gb 299) 68 = .ok (.getfield 334, 3) := by decide +kernel
theorem k299_71 : decode (gb 299) 71 = .ok (.sipush 512, 3) := by decide +kernel
theorem k299_74 : decode (gb 299) 74 = .ok (.if_icmp .ne 22, 3) := by decide +kernel
theorem k299_77 : decode (gb 299) 77 = .ok (.aload_n 0, 1) := by decide +kernel
theorem k299_78 : decode (gb 299) 78 = .ok (.iconst 0, 1) := by decide +kernel
theorem k299_79 : decode (gb 299) 79 = .ok (.putfield 331, 3) := by decide +kernel
theorem k299_82 : decode (gb 299) 82 = .ok (.aload_n 0, 1) := by decide +kernel
theorem k299_83 : decode (gb 299) 83 = .ok (.iconst 0, 1) := by decide +kernel
theorem k299_84 : decode (gb 299) 84 = .ok (.putfield 340, 3) := by decide +kernel
theorem k299_87 : decode (gb 299) 87 = .ok (.aload_n 0, 1) := by decide +kernel
theorem k299_88 : decode (gb 299) 88 = .ok (.iconst 0, 1) := by decide +kernel
theorem k299_89 : decode (gb 299) 89 = .ok (.putfield 343, 3) := by decide +kernel
theorem k299_92 : decode (gb 299) 92 = .ok (.aload_n 0, 1) := by decide +kernel
theorem k299_93 : decode (gb 299) 93 = .ok (.invokevirtual 346, 3) := by decide +kernel
theorem k299_96 : decode (gb 299) 96 = .ok (.return_, 1) := by decide +kernel
theorem k299_97 : decode (gb 299) 97 = .ok (.aload_n 0, 1) := by decide +kernel
theorem k299_98 : decode (gb 299) 98 = .ok (.aload_n 0, 1) := by decide +kernel
theorem k299_99 : decode (gb 299) 99 = .ok (.getfield 343, 3) := by decide +kernel
theorem k299_102 : decode (gb 299) 102 = .ok (.iconst 1, 1) := by decide +kernel
theorem k299_103 : decode (gb 299) 103 = .ok (.ishl, 1) := by decide +kernel
theorem k299_104 : decode (gb 299) 104 = .ok (.iload_n 1, 1) := by decide +kernel
theorem k299_105 : decode (gb 299) 105 = .ok (.ior, 1) := by decide +kernel
theorem k299_106 : decode (gb 299) 106 = .ok (.putfield 343, 3) := by decide +kernel
theorem k299_109 : decode (gb 299) 109 = .ok (.aload_n 0, 1) := by decide +kernel
theorem k299_110 : decode (gb 299) 110 = .ok (.aload_n 0, 1) := by decide +kernel
theorem k299_111 : decode (gb 299) 111 = .ok (.getfield 340, 3) := by decide +kernel
theorem k299_114 : decode (gb 299) 114 = .ok (.bipush 32, 2) := by decide +kernel
theorem k299_116 : decode (gb 299) 116 = .ok (.if_icmp .ge 12, 3) := by decide +kernel
theorem k299_119 : decode (gb 299) 119 = .ok (.aload_n 0, 1) := by decide +kernel
theorem k299_120 : decode (gb 299) 120 = .ok (.getfield 340, 3) := by decide +kernel
theorem k299_123 : decode (gb 299) 123 = .ok (.iconst 1, 1) := by decide +kernel
theorem k299_124 : decode (gb 299) 124 = .ok (.iadd, 1) := by decide +kernel
theorem k299_125 : decode (gb 299) 125 = .ok (.goto 5, 3) := by decide +kernel
theorem k299_128 : decode (gb 299) 128 = .ok (.bipush 32, 2) := by decide +kernel
theorem k299_130 : decode (gb 299) 130 = .ok (.putfield 340, 3) := by decide +kernel
theorem k299_133 : decode (gb 299) 133 = .ok (.aload_n 0, 1) := by decide +kernel
theorem k299_134 : decode (gb 299) 134 = .ok (.getfield 340, 3) := by decide +kernel
theorem k299_137 : decode (gb 299) 137 = .ok (.bipush 32, 2) := by decide +kernel
theorem k299_139 : decode (gb 299) 139 = .ok (.if_icmp .ge 4, 3) := by decide +kernel
theorem k299_142 : decode (gb 299) 142 = .ok (.return_, 1) := by decide +kernel
theorem k299_143 : decode (gb 299) 143 = .ok (.aload_n 0, 1) := by decide +kernel
theorem k299_144 : decode (gb 299) 144 = .ok (.getfield 343, 3) := by decide +kernel
theorem k299_147 : decode (gb 299) 147 = .ok (.ldc_w 349, 3) := by decide +kernel
theorem k299_150 : decode (gb 299) 150 = .ok (.ixor, 1) := by decide +kernel
theorem k299_151 : decode (gb 299) 151 = .ok (.invokestatic 98, 3) := by decide +kernel
theorem k299_154 : decode (gb 299) 154 = .ok (.aload_n 0, 1) := by decide +kernel
theorem k299_155 : decode (gb 299) 155 = .ok (.getfield 350, 3) := by decide +kernel
theorem k299_158 : decode (gb 299) 158 = .ok (.iconst 0, 1) := by decide +kernel
theorem k299_159 : decode (gb 299) 159 = .ok (.iaload, 1) := by decide +kernel
theorem k299_160 : decode (gb 299) 160 = .ok (.if_icmp .gt 7, 3) := by decide +kernel
theorem k299_163 : decode (gb 299) 163 = .ok (.iconst 1, 1) := by decide +kernel
theorem k299_164 : decode (gb 299) 164 = .ok (.goto 4, 3) := by decide +kernel
theorem k299_167 : decode (gb 299) 167 = .ok (.iconst 0, 1) := by decide +kernel
theorem k299_168 : decode (gb 299) 168 = .ok (.istore_n 2, 1) := by decide +kernel
theorem k299_169 : decode (gb 299) 169 = .ok (.aload_n 0, 1) := by decide +kernel
theorem k299_170 : decode (gb 299) 170 = .ok (.getfield 353, 3) := by decide +kernel
theorem k299_173 : decode (gb 299) 173 = .ok (.ifCond .ne 22, 3) := by decide +kernel
theorem k299_176 : decode (gb 299) 176 = .ok (.iload_n 2, 1) := by decide +kernel
theorem k299_177 : decode (gb 299) 177 = .ok (.ifCond .eq 17, 3) := by decide +kernel
theorem k299_180 : decode (gb 299) 180 = .ok (.aload_n 0, 1) := by decide +kernel
theorem k299_181 : decode (gb 299) 181 = .ok (.iconst 1, 1) := by decide +kernel
theorem k299_182 : decode (gb 299) 182 = .ok (.putfield 353, 3) := by decide +kernel
theorem k299_185 : decode (gb 299) 185 = .ok (.aload_n 0, 1) := by decide +kernel
theorem k299_186 : decode (gb 299) 186 = .ok (.iconst 0, 1) := by decide +kernel
theorem k299_187 : decode (gb 299) 187 = .ok (.putfield 356, 3) := by decide +kernel
theorem k299_190 : decode (gb 299) 190 = .ok (.aload_n 0, 1) := by decide +kernel
theorem k299_191 : decode (gb 299) 191 = .ok (.invokevirtual 359, 3) := by decide +kernel
theorem k299_194 : decode (gb 299) 194 = .ok (.return_, 1) := by decide +kernel
theorem k299_195 : decode (gb 299) 195 = .ok (.aload_n 0, 1) := by decide +kernel
theorem k299_196 : decode (gb 299) 196 = .ok (.iload_n 2, 1) := by decide +kernel
theorem k299_197 : decode (gb 299) 197 = .ok (.ifCond .eq 7, 3) := by decide +kernel
theorem k299_200 : decode (gb 299) 200 = .ok (.iconst 0, 1) := by decide +kernel
theorem k299_201 : decode (gb 299) 201 = .ok (.goto 9, 3) := by decide +kernel
theorem k299_204 : decode (gb 299) 204 = .ok (.aload_n 0, 1) := by decide +kernel
theorem k299_205 : decode (gb 299) 205 = .ok (.getfield 356, 3) := by decide +kernel
theorem k299_208 : decode (gb 299) 208 = .ok (.iconst 1, 1) := by decide +kernel
theorem k299_209 : decode (gb 299) 209 = .ok (.iadd, 1) := by decide +kernel
theorem k299_210 : decode (gb 299) 210 = .ok (.putfield 356, 3) := by decide +kernel
theorem k299_213 : decode (gb 299) 213 = .ok (.aload_n 0, 1) := by decide +kernel
theorem k299_214 : decode (gb 299) 214 = .ok (.getfield 356, 3) := by decide +kernel
theorem k299_217 : decode (gb 299) 217 = .ok (.aload_n 0, 1) := by decide +kernel
theorem k299_218 : decode (gb 299) 218 = .ok (.getfield 350, 3) := by decide +kernel
theorem k299_221 : decode (gb 299) 221 = .ok (.iconst 1, 1) := by decide +kernel
theorem k299_222 : decode (gb 299) 222 = .ok (.iaload, 1) := by decide +kernel
theorem k299_223 : decode (gb 299) 223 = .ok (.if_icmp .le 16, 3) := by decide +kernel
theorem k299_226 : decode (gb 299) 226 = .ok (.aload_n 0, 1) := by decide +kernel
theorem k299_227 : decode (gb 299) 227 = .ok (.iconst 0, 1) := by decide +kernel
theorem k299_228 : decode (gb 299) 228 = .ok (.putfield 353, 3) := by decide +kernel
theorem k299_231 : decode (gb 299) 231 = .ok (.aload_n 0, 1) := by decide +kernel
theorem k299_232 : decode (gb 299) 232 = .ok (.iconst 0, 1) := by decide +kernel
theorem k299_233 : decode (gb 299) 233 = .ok (.putfield 356, 3) := by decide +kernel
theorem k299_236 : decode (gb 299) 236 = .ok (.goto 7, 3) := by decide +kernel
theorem k299_239 : decode (gb 299) 239 = .ok (.aload_n 0, 1) := by decide +kernel
theorem k299_240 : decode (gb 299) 240 = .ok (.invokevirtual 359, 3) := by decide +kernel
theorem k299_243 : decode (gb 299) 243 = .ok (.return_, 1) := by decide +kernel
def c299_30 (v1 : Int32) (μ : Mem) : Option (Mem) :=
  (ldA 157 ((μ.1 129 65) / (8 : Int32)) μ).bind fun x1 =>
  (stA 157 ((μ.1 129 65) / (8 : Int32)) (x1 ||| (jshl v1 ((7 : Int32) - (jrem (μ.1 129 65) (8 : Int32))))) μ).bind fun m3 =>
  (pfI 129 65 ((m3.1 129 65) + (1 : Int32)) m3).bind fun m5 =>
  if (m5.1 129 65) = (512 : Int32) then
    (pfZ 129 64 (0 : Int32) m5).bind fun m8 =>
    (pfI 129 62 (0 : Int32) m8).bind fun m10 =>
    (pfI 129 63 (0 : Int32) m10).bind fun m12 =>
    (f302 m12).bind fun r14 =>
    some r14
  else
    some m5
theorem c299_30_ok {L : Nat} (v1 : Int32) (μ : Mem) (res : Mem) (h : c299_30 v1 μ = some res) : Sx 299 30 [(0, .ref 129), (1, .int v1)] [] 0 0 (mk L μ) (mk L res, none) := by
  unfold c299_30 at h
  refine sx_aload_n (i := 0) k299_30 rfl rfl ?_
  refine cx_getR (k := 66) k299_31 ow_299 fl_12_337 (by decide) sk_129 ft_11_66 sr_129_66 ?_
  refine sx_aload_n (i := 0) k299_34 rfl rfl ?_
  refine cx_getI (k := 65) k299_35 ow_299 fl_12_334 (by decide) sk_129 ft_11_65 ?_
  refine sx_bipush (v := 8) k299_38 (by decide) ?_
  refine sx_idiv k299_40 (by decide) ?_
  refine sx_dup2 k299_41 rfl rfl ?_
  obtain ⟨x1, e2, h⟩ := Option.bind_eq_some_iff.mp h
  refine cx_iald k299_42 sk_157 e2 ?_
  refine sx_iload_n (i := 1) k299_43 rfl rfl ?_
  refine sx_bipush (v := 7) k299_44 (by decide) ?_
  refine sx_aload_n (i := 0) k299_46 rfl rfl ?_
  refine cx_getI (k := 65) k299_47 ow_299 fl_12_334 (by decide) sk_129 ft_11_65 ?_
  refine sx_bipush (v := 8) k299_50 (by decide) ?_
  refine sx_irem k299_52 (by decide) ?_
  refine sx_isub k299_53 ?_
  refine sx_ishl k299_54 ?_
  refine sx_ior k299_55 ?_
  obtain ⟨m3, e4, h⟩ := Option.bind_eq_some_iff.mp h
  refine cx_iast k299_56 sk_157 e4 ?_
  refine sx_aload_n (i := 0) k299_57 rfl rfl ?_
  refine sx_dup k299_58 rfl ?_
  refine cx_getI (k := 65) k299_59 ow_299 fl_12_334 (by decide) sk_129 ft_11_65 ?_
  refine sx_iconst (v := 1) k299_62 (by decide) ?_
  refine sx_iadd k299_63 ?_
  obtain ⟨m5, e6, h⟩ := Option.bind_eq_some_iff.mp h
  refine cx_putI (k := 65) k299_64 ow_299 fl_12_334 (by decide) sk_129 nf_11_65 fu_11_65 e6 ?_
  refine sx_aload_n (i := 0) k299_67 rfl rfl ?_
  refine cx_getI (k := 65) k299_68 ow_299 fl_12_334 (by decide) sk_129 ft_11_65 ?_
  refine sx_sipush (v := 512) k299_71 (by decide) ?_
  by_cases hb7 : (m5.1 129 65) = (512 : Int32)
  · rw [if_pos hb7] at h
    refine sx_icmp_ne (tgt := 96) k299_74 (by decide) (fun q => absurd hb7 q) (fun _ => ?_)
    refine sx_aload_n (i := 0) k299_77 rfl rfl ?_
    refine sx_iconst (v := 0) k299_78 (by decide) ?_
    obtain ⟨m8, e9, h⟩ := Option.bind_eq_some_iff.mp h
    refine cx_putZ (k := 64) k299_79 ow_299 fl_12_331 (by decide) sk_129 nf_11_64 fu_11_64 e9 ?_
    refine sx_aload_n (i := 0) k299_82 rfl rfl ?_
    refine sx_iconst (v := 0) k299_83 (by decide) ?_
    obtain ⟨m10, e11, h⟩ := Option.bind_eq_some_iff.mp h
    refine cx_putI (k := 62) k299_84 ow_299 fl_12_340 (by decide) sk_129 nf_11_62 fu_11_62 e11 ?_
    refine sx_aload_n (i := 0) k299_87 rfl rfl ?_
    refine sx_iconst (v := 0) k299_88 (by decide) ?_
    obtain ⟨m12, e13, h⟩ := Option.bind_eq_some_iff.mp h
    refine cx_putI (k := 63) k299_89 ow_299 fl_12_343 (by decide) sk_129 nf_11_63 fu_11_63 e13 ?_
    refine sx_aload_n (i := 0) k299_92 rfl rfl ?_
    obtain ⟨r14, e15, h⟩ := Option.bind_eq_some_iff.mp h
    refine cx_V (sk := []) (vs := []) st_299_302 k299_93 ow_299 cl_12_346 (by decide) rfl (Nat.le_of_ble_eq_true rfl) sk_129 (ok302 _ _ e15) (sk3 := []) rfl rfl ?_
    exact cx_retv k299_96 rt_299 h
  · rw [if_neg hb7] at h
    refine sx_icmp_ne (tgt := 96) k299_74 (by decide) (fun _ => ?_) (fun q => absurd q hb7)
    exact cx_retv k299_96 rt_299 h
def c299_210 (s1 : Int32) (μ : Mem) : Option (Mem) :=
  (pfI 129 61 s1 μ).bind fun m1 =>
  (ldA 156 (1 : Int32) m1).bind fun x3 =>
  if (m1.1 129 61) ≤ x3 then
    (f300 m1).bind fun r6 =>
    some r6
  else
    (pfZ 129 60 (0 : Int32) m1).bind fun m8 =>
    (pfI 129 61 (0 : Int32) m8).bind fun m10 =>
    some m10
theorem c299_210_ok {L : Nat} (s1 : Int32) (μ : Mem) (res : Mem) (h : c299_210 s1 μ = some res) : Sx 299 210 [(0, .ref 129)] [.int s1, .ref 129] 0 0 (mk L μ) (mk L res, none) := by
  unfold c299_210 at h
  obtain ⟨m1, e2, h⟩ := Option.bind_eq_some_iff.mp h
  refine cx_putI (k := 61) k299_210 ow_299 fl_12_356 (by decide) sk_129 nf_11_61 fu_11_61 e2 ?_
  refine sx_aload_n (i := 0) k299_213 rfl rfl ?_
  refine cx_getI (k := 61) k299_214 ow_299 fl_12_356 (by decide) sk_129 ft_11_61 ?_
  refine sx_aload_n (i := 0) k299_217 rfl rfl ?_
  refine cx_getR (k := 59) k299_218 ow_299 fl_12_350 (by decide) sk_129 ft_11_59 sr_129_59 ?_
  refine sx_iconst (v := 1) k299_221 (by decide) ?_
  obtain ⟨x3, e4, h⟩ := Option.bind_eq_some_iff.mp h
  refine cx_iald k299_222 sk_156 e4 ?_
  by_cases hb5 : (m1.1 129 61) ≤ x3
  · rw [if_pos hb5] at h
    refine sx_icmp_le (tgt := 239) k299_223 (by decide) (fun _ => ?_) (fun q => absurd hb5 q)
    refine sx_aload_n (i := 0) k299_239 rfl rfl ?_
    obtain ⟨r6, e7, h⟩ := Option.bind_eq_some_iff.mp h
    refine cx_V (sk := []) (vs := []) st_299_300 k299_240 ow_299 cl_12_359 (by decide) rfl (Nat.le_of_ble_eq_true rfl) sk_129 (ok300 _ _ e7) (sk3 := []) rfl rfl ?_
    exact cx_retv k299_243 rt_299 h
  · rw [if_neg hb5] at h
    refine sx_icmp_le (tgt := 239) k299_223 (by decide) (fun q => absurd q hb5) (fun _ => ?_)
    refine sx_aload_n (i := 0) k299_226 rfl rfl ?_
    refine sx_iconst (v := 0) k299_227 (by decide) ?_
    obtain ⟨m8, e9, h⟩ := Option.bind_eq_some_iff.mp h
    refine cx_putZ (k := 60) k299_228 ow_299 fl_12_353 (by decide) sk_129 nf_11_60 fu_11_60 e9 ?_
    refine sx_aload_n (i := 0) k299_231 rfl rfl ?_
    refine sx_iconst (v := 0) k299_232 (by decide) ?_
    obtain ⟨m10, e11, h⟩ := Option.bind_eq_some_iff.mp h
    refine cx_putI (k := 61) k299_233 ow_299 fl_12_356 (by decide) sk_129 nf_11_61 fu_11_61 e11 ?_
    refine sx_goto (tgt := 243) k299_236 (by decide) ?_
    exact cx_retv k299_243 rt_299 h
def c299_168 (s0 : Int32) (μ : Mem) : Option (Mem) :=
  if (μ.1 129 60) = 0 then
    if s0 = 0 then
      some μ
    else
      (pfZ 129 60 (1 : Int32) μ).bind fun m4 =>
      (pfI 129 61 (0 : Int32) m4).bind fun m6 =>
      (f300 m6).bind fun r8 =>
      some r8
  else
    if s0 = 0 then
      c299_210 ((μ.1 129 61) + (1 : Int32)) μ
    else
      c299_210 (0 : Int32) μ
theorem c299_168_ok {L : Nat} (s0 : Int32) (μ : Mem) (res : Mem) (h : c299_168 s0 μ = some res) : Sx 299 168 [(0, .ref 129)] [.int s0] 0 0 (mk L μ) (mk L res, none) := by
  unfold c299_168 at h
  refine cx_istore_n (lo2 := [(2, .int s0), (0, .ref 129)]) k299_168 rfl (by rw [mx_299]; decide) rfl ?_
  refine sx_aload_n (i := 0) k299_169 rfl rfl ?_
  refine cx_getI (k := 60) k299_170 ow_299 fl_12_353 (by decide) sk_129 ft_11_60 ?_
  by_cases hb1 : (μ.1 129 60) = 0
  · rw [if_pos hb1] at h
    refine sx_if_ne (tgt := 195) k299_173 (by decide) (fun q => absurd hb1 q) (fun _ => ?_)
    refine sx_iload_n (i := 2) k299_176 rfl rfl ?_
    by_cases hb3 : s0 = 0
    · rw [if_pos hb3] at h
      refine sx_if_eq (tgt := 194) k299_177 (by decide) (fun _ => ?_) (fun q => absurd hb3 q)
      exact cx_retv k299_194 rt_299 h
    · rw [if_neg hb3] at h
      refine sx_if_eq (tgt := 194) k299_177 (by decide) (fun q => absurd q hb3) (fun _ => ?_)
      refine sx_aload_n (i := 0) k299_180 rfl rfl ?_
      refine sx_iconst (v := 1) k299_181 (by decide) ?_
      obtain ⟨m4, e5, h⟩ := Option.bind_eq_some_iff.mp h
      refine cx_putZ (k := 60) k299_182 ow_299 fl_12_353 (by decide) sk_129 nf_11_60 fu_11_60 e5 ?_
      refine sx_aload_n (i := 0) k299_185 rfl rfl ?_
      refine sx_iconst (v := 0) k299_186 (by decide) ?_
      obtain ⟨m6, e7, h⟩ := Option.bind_eq_some_iff.mp h
      refine cx_putI (k := 61) k299_187 ow_299 fl_12_356 (by decide) sk_129 nf_11_61 fu_11_61 e7 ?_
      refine sx_aload_n (i := 0) k299_190 rfl rfl ?_
      obtain ⟨r8, e9, h⟩ := Option.bind_eq_some_iff.mp h
      refine cx_V (sk := []) (vs := []) st_299_300 k299_191 ow_299 cl_12_359 (by decide) rfl (Nat.le_of_ble_eq_true rfl) sk_129 (ok300 _ _ e9) (sk3 := []) rfl rfl ?_
      exact cx_retv k299_194 rt_299 h
  · rw [if_neg hb1] at h
    refine sx_if_ne (tgt := 195) k299_173 (by decide) (fun _ => ?_) (fun q => absurd q hb1)
    refine sx_aload_n (i := 0) k299_195 rfl rfl ?_
    refine sx_iload_n (i := 2) k299_196 rfl rfl ?_
    by_cases hb2 : s0 = 0
    · rw [if_pos hb2] at h
      refine sx_if_eq (tgt := 204) k299_197 (by decide) (fun _ => ?_) (fun q => absurd hb2 q)
      refine sx_aload_n (i := 0) k299_204 rfl rfl ?_
      refine cx_getI (k := 61) k299_205 ow_299 fl_12_356 (by decide) sk_129 ft_11_61 ?_
      refine sx_iconst (v := 1) k299_208 (by decide) ?_
      refine sx_iadd k299_209 ?_
      refine sx_pick (lo2 := [(0, .ref 129)]) [1] rfl ?_
      exact c299_210_ok ((μ.1 129 61) + (1 : Int32)) _ _ h
    · rw [if_neg hb2] at h
      refine sx_if_eq (tgt := 204) k299_197 (by decide) (fun q => absurd q hb2) (fun _ => ?_)
      refine sx_iconst (v := 0) k299_200 (by decide) ?_
      refine sx_goto (tgt := 210) k299_201 (by decide) ?_
      refine sx_pick (lo2 := [(0, .ref 129)]) [1] rfl ?_
      exact c299_210_ok (0 : Int32) _ _ h
def c299_130 (s1 : Int32) (μ : Mem) : Option (Mem) :=
  (pfI 129 62 s1 μ).bind fun m1 =>
  if (32 : Int32) ≤ (m1.1 129 62) then
    (f266 ((m1.1 129 63) ^^^ (449838109 : Int32)) m1).bind fun r4 =>
    (ldA 156 (0 : Int32) r4.1).bind fun x6 =>
    if x6 < r4.2 then
      c299_168 (0 : Int32) r4.1
    else
      c299_168 (1 : Int32) r4.1
  else
    some m1
theorem c299_130_ok {L : Nat} (s1 : Int32) (μ : Mem) (res : Mem) (h : c299_130 s1 μ = some res) : Sx 299 130 [(0, .ref 129)] [.int s1, .ref 129] 0 0 (mk L μ) (mk L res, none) := by
  unfold c299_130 at h
  obtain ⟨m1, e2, h⟩ := Option.bind_eq_some_iff.mp h
  refine cx_putI (k := 62) k299_130 ow_299 fl_12_340 (by decide) sk_129 nf_11_62 fu_11_62 e2 ?_
  refine sx_aload_n (i := 0) k299_133 rfl rfl ?_
  refine cx_getI (k := 62) k299_134 ow_299 fl_12_340 (by decide) sk_129 ft_11_62 ?_
  refine sx_bipush (v := 32) k299_137 (by decide) ?_
  by_cases hb3 : (32 : Int32) ≤ (m1.1 129 62)
  · rw [if_pos hb3] at h
    refine sx_icmp_ge (tgt := 143) k299_139 (by decide) (fun _ => ?_) (fun q => absurd hb3 q)
    refine sx_aload_n (i := 0) k299_143 rfl rfl ?_
    refine cx_getI (k := 63) k299_144 ow_299 fl_12_343 (by decide) sk_129 ft_11_63 ?_
    refine cx_ldc_w (v := 449838109) k299_147 ow_299 kl_12_349 (by decide) ?_
    refine sx_ixor k299_150 ?_
    obtain ⟨r4, e5, h⟩ := Option.bind_eq_some_iff.mp h
    refine cx_S (sk := []) (vs := [.int ((m1.1 129 63) ^^^ (449838109 : Int32))]) st_299_266 k299_151 ow_299 cl_12_98 (by decide) rfl (Nat.le_of_ble_eq_true rfl) (ok266 ((m1.1 129 63) ^^^ (449838109 : Int32)) _ _ e5) (sk3 := [.int r4.2]) rfl rfl ?_
    refine sx_aload_n (i := 0) k299_154 rfl rfl ?_
    refine cx_getR (k := 59) k299_155 ow_299 fl_12_350 (by decide) sk_129 ft_11_59 sr_129_59 ?_
    refine sx_iconst (v := 0) k299_158 (by decide) ?_
    obtain ⟨x6, e7, h⟩ := Option.bind_eq_some_iff.mp h
    refine cx_iald k299_159 sk_156 e7 ?_
    by_cases hb8 : x6 < r4.2
    · rw [if_pos hb8] at h
      refine sx_icmp_gt (tgt := 167) k299_160 (by decide) (fun _ => ?_) (fun q => absurd hb8 q)
      refine sx_iconst (v := 0) k299_167 (by decide) ?_
      refine sx_pick (lo2 := [(0, .ref 129)]) [0] rfl ?_
      exact c299_168_ok (0 : Int32) _ _ h
    · rw [if_neg hb8] at h
      refine sx_icmp_gt (tgt := 167) k299_160 (by decide) (fun q => absurd q hb8) (fun _ => ?_)
      refine sx_iconst (v := 1) k299_163 (by decide) ?_
      refine sx_goto (tgt := 168) k299_164 (by decide) ?_
      refine sx_pick (lo2 := [(0, .ref 129)]) [0] rfl ?_
      exact c299_168_ok (1 : Int32) _ _ h
  · rw [if_neg hb3] at h
    refine sx_icmp_ge (tgt := 143) k299_139 (by decide) (fun q => absurd q hb3) (fun _ => ?_)
    exact cx_retv k299_142 rt_299 h
/-- CraftHouseModel.groundHears(I)V -/
def f299 (p1 : Int32) (μ : Mem) : Option (Mem) :=
  if (μ.1 129 64) = 0 then
    (pfI 129 63 ((jshl (μ.1 129 63) (1 : Int32)) ||| p1) μ).bind fun m2 =>
    if (32 : Int32) ≤ (m2.1 129 62) then
      c299_130 (32 : Int32) m2
    else
      c299_130 ((m2.1 129 62) + (1 : Int32)) m2
  else
    if (jrem (μ.1 129 65) (8 : Int32)) = 0 then
      (stA 157 ((μ.1 129 65) / (8 : Int32)) (0 : Int32) μ).bind fun m6 =>
      c299_30 p1 m6
    else
      c299_30 p1 μ
theorem ok299 {L : Nat} (p1 : Int32) (μ : Mem) (res : Mem) (h : f299 p1 μ = some res) : Mx 299 [.ref 129, .int p1] (mk L μ) (mk L res, none) := by
  refine Mx_of ml_299 (by rw [mx_299]; exact Nat.le_of_ble_eq_true rfl) ?_
  show Sx 299 0 [(0, .ref 129), (1, .int p1)] [] 0 0 (mk L μ) _
  unfold f299 at h
  refine sx_aload_n (i := 0) k299_0 rfl rfl ?_
  refine cx_getI (k := 64) k299_1 ow_299 fl_12_331 (by decide) sk_129 ft_11_64 ?_
  by_cases hb1 : (μ.1 129 64) = 0
  · rw [if_pos hb1] at h
    refine sx_if_eq (tgt := 97) k299_4 (by decide) (fun _ => ?_) (fun q => absurd hb1 q)
    refine sx_aload_n (i := 0) k299_97 rfl rfl ?_
    refine sx_aload_n (i := 0) k299_98 rfl rfl ?_
    refine cx_getI (k := 63) k299_99 ow_299 fl_12_343 (by decide) sk_129 ft_11_63 ?_
    refine sx_iconst (v := 1) k299_102 (by decide) ?_
    refine sx_ishl k299_103 ?_
    refine sx_iload_n (i := 1) k299_104 rfl rfl ?_
    refine sx_ior k299_105 ?_
    obtain ⟨m2, e3, h⟩ := Option.bind_eq_some_iff.mp h
    refine cx_putI (k := 63) k299_106 ow_299 fl_12_343 (by decide) sk_129 nf_11_63 fu_11_63 e3 ?_
    refine sx_aload_n (i := 0) k299_109 rfl rfl ?_
    refine sx_aload_n (i := 0) k299_110 rfl rfl ?_
    refine cx_getI (k := 62) k299_111 ow_299 fl_12_340 (by decide) sk_129 ft_11_62 ?_
    refine sx_bipush (v := 32) k299_114 (by decide) ?_
    by_cases hb4 : (32 : Int32) ≤ (m2.1 129 62)
    · rw [if_pos hb4] at h
      refine sx_icmp_ge (tgt := 128) k299_116 (by decide) (fun _ => ?_) (fun q => absurd hb4 q)
      refine sx_bipush (v := 32) k299_128 (by decide) ?_
      refine sx_pick (lo2 := [(0, .ref 129)]) [0] rfl ?_
      exact c299_130_ok (32 : Int32) _ _ h
    · rw [if_neg hb4] at h
      refine sx_icmp_ge (tgt := 128) k299_116 (by decide) (fun q => absurd q hb4) (fun _ => ?_)
      refine sx_aload_n (i := 0) k299_119 rfl rfl ?_
      refine cx_getI (k := 62) k299_120 ow_299 fl_12_340 (by decide) sk_129 ft_11_62 ?_
      refine sx_iconst (v := 1) k299_123 (by decide) ?_
      refine sx_iadd k299_124 ?_
      refine sx_goto (tgt := 130) k299_125 (by decide) ?_
      refine sx_pick (lo2 := [(0, .ref 129)]) [0] rfl ?_
      exact c299_130_ok ((m2.1 129 62) + (1 : Int32)) _ _ h
  · rw [if_neg hb1] at h
    refine sx_if_eq (tgt := 97) k299_4 (by decide) (fun q => absurd q hb1) (fun _ => ?_)
    refine sx_aload_n (i := 0) k299_7 rfl rfl ?_
    refine cx_getI (k := 65) k299_8 ow_299 fl_12_334 (by decide) sk_129 ft_11_65 ?_
    refine sx_bipush (v := 8) k299_11 (by decide) ?_
    refine sx_irem k299_13 (by decide) ?_
    by_cases hb5 : (jrem (μ.1 129 65) (8 : Int32)) = 0
    · rw [if_pos hb5] at h
      refine sx_if_ne (tgt := 30) k299_14 (by decide) (fun q => absurd hb5 q) (fun _ => ?_)
      refine sx_aload_n (i := 0) k299_17 rfl rfl ?_
      refine cx_getR (k := 66) k299_18 ow_299 fl_12_337 (by decide) sk_129 ft_11_66 sr_129_66 ?_
      refine sx_aload_n (i := 0) k299_21 rfl rfl ?_
      refine cx_getI (k := 65) k299_22 ow_299 fl_12_334 (by decide) sk_129 ft_11_65 ?_
      refine sx_bipush (v := 8) k299_25 (by decide) ?_
      refine sx_idiv k299_27 (by decide) ?_
      refine sx_iconst (v := 0) k299_28 (by decide) ?_
      obtain ⟨m6, e7, h⟩ := Option.bind_eq_some_iff.mp h
      refine cx_iast k299_29 sk_157 e7 ?_
      refine sx_pick (lo2 := [(0, .ref 129), (1, .int p1)]) [0, 1] rfl ?_
      exact c299_30_ok p1 _ _ h
    · rw [if_neg hb5] at h
      refine sx_if_ne (tgt := 30) k299_14 (by decide) (fun _ => ?_) (fun q => absurd q hb5)
      refine sx_pick (lo2 := [(0, .ref 129), (1, .int p1)]) [0, 1] rfl ?_
      exact c299_30_ok p1 _ _ h
theorem k264_0 : decode (gb 264) 0 = .ok (.iload_n 1, 1) := by decide +kernel
theorem k264_1 : decode (gb 264) 1 = .ok (.invokestatic 61, 3) := by decide +kernel
theorem k264_4 : decode (gb 264) 4 = .ok (.ifCond .eq 7, 3) := by decide +kernel
theorem k264_7 : decode (gb 264) 7 = .ok (.iload_n 2, 1) := by decide +kernel
theorem k264_8 : decode (gb 264) 8 = .ok (.ifCond .ge 5, 3) := by decide +kernel
theorem k264_11 : decode (gb 264) 11 = .ok (.iconst (-1), 1) := by decide +kernel
theorem k264_12 : decode (gb 264) 12 = .ok (.ireturn, 1) := by decide +kernel
theorem k264_13 : decode (gb 264) 13 = .ok (.iload_n 2, 1) := by decide +kernel
theorem k264_14 : decode (gb 264) 14 = .ok (.aload_n 0, 1) := by decide +kernel
theorem k264_15 : decode (gb 264) 15 = .ok (.getfield 54, 3) := by decide +kernel
theorem k264_18 : decode (gb 264) 18 = .ok (.iload_n 1, 1) := by decide +kernel
theorem k264_19 : decode (gb 264) 19 = .ok (.iaload, 1) := by decide +kernel
theorem k264_20 : decode (gb 264) 20 = .ok (.if_icmp .ge 7, 3) := by decide +kernel
theorem k264_23 : decode (gb 264) 23 = .ok (.iload_n 2, 1) := by decide +kernel
theorem k264_24 : decode (gb 264) 24 = .ok (.goto 9, 3) := by decide +kernel
theorem k264_27 : decode (gb 264) 27 = .ok (.aload_n 0, 1) := by decide +kernel
theorem k264_28 : decode (gb 264) 28 = .ok (.getfield 54, 3) := by decide +kernel
theorem k264_31 : decode (gb 264) 31 = .ok (.iload_n 1, 1) := by decide +kernel
theorem k264_32 : decode (gb 264) 32 = .ok (.iaload, 1) := by decide +kernel
theorem k264_33 : decode (gb 264) 33 = .ok (.istore_n 3, 1) := by decide +kernel
theorem k264_34 : decode (gb 264) 34 = .ok (.aload_n 0, 1) := by decide +kernel
theorem k264_35 : decode (gb 264) 35 = .ok (.iload_n 1, 1) := by decide +kernel
theorem k264_36 : decode (gb 264) 36 = .ok (.invokevirtual 57, 3) := by decide +kernel
theorem k264_39 : decode (gb 264) 39 = .ok (.astore 4, 2) := by decide +kernel
theorem k264_41 : decode (gb 264) 41 = .ok (.iconst 0, 1) := by decide +kernel
theorem k264_42 : decode (gb 264) 42 = .ok (.istore 5, 2) := by decide +kernel
theorem k264_44 : decode (gb 264) 44 = .ok (.iload 5, 2) := by decide +kernel
theorem k264_46 : decode (gb 264) 46 = .ok (.iload_n 3, 1) := by decide +kernel
theorem k264_47 : decode (gb 264) 47 = .ok (.if_icmp .ge 21, 3) := by decide +kernel
theorem k264_50 : decode (gb 264) 50 = .ok (.aload_n 0, 1) := by decide +kernel
theorem k264_51 : decode (gb 264) 51 = .ok (.getfield 77, 3) := by decide +kernel
theorem k264_54 : decode (gb 264) 54 = .ok (.iload 5, 2) := by decide +kernel
theorem k264_56 : decode (gb 264) 56 = .ok (.aload 4, 2) := by decide +kernel
theorem k264_58 : decode (gb 264) 58 = .ok (.iload 5, 2) := by decide +kernel
theorem k264_60 : decode (gb 264) 60 = .ok (.baload, 1) := by decide +kernel
theorem k264_61 : decode (gb 264) 61 = .ok (.bastore, 1) := by decide +kernel
theorem k264_62 : decode (gb 264) 62 = .ok (.iinc 5 1, 3) := by decide +kernel
theorem k264_65 : decode (gb 264) 65 = .ok (.goto (-21), 3) := by decide +kernel
theorem k264_68 : decode (gb 264) 68 = .ok (.iload_n 3, 1) := by decide +kernel
theorem k264_69 : decode (gb 264) 69 = .ok (.istore 5, 2) := by decide +kernel
theorem k264_71 : decode (gb 264) 71 = .ok (.iload 5, 2) := by decide +kernel
theorem k264_73 : decode (gb 264) 73 = .ok (.aload_n 0, 1) := by decide +kernel
theorem k264_74 : decode (gb 264) 74 = .ok (.getfield 54, 3) := by decide +kernel
theorem k264_77 : decode (gb 264) 77 = .ok (.iload_n 1, 1) := by decide +kernel
theorem k264_78 : decode (gb 264) 78 = .ok (.iaload, 1) := by decide +kernel
theorem k264_79 : decode (gb 264) 79 = .ok (.if_icmp .ge 21, 3) := by decide +kernel
theorem k264_82 : decode (gb 264) 82 = .ok (.aload 4, 2) := by decide +kernel
theorem k264_84 : decode (gb 264) 84 = .ok (.iload 5, 2) := by decide +kernel
theorem k264_86 : decode (gb 264) 86 = .ok (.iload_n 3, 1) := by decide +kernel
theorem k264_87 : decode (gb 264) 87 = .ok (.isub, 1) := by decide +kernel
theorem k264_88 : decode (gb 264) 88 = .ok (.aload 4, 2) := by decide +kernel
theorem k264_90 : decode (gb 264) 90 = .ok (.iload 5, 2) := by decide +kernel
theorem k264_92 : decode (gb 264) 92 = .ok (.baload, 1) := by decide +kernel
theorem k264_93 : decode (gb 264) 93 = .ok (.bastore, 1) := by decide +kernel
theorem k264_94 : decode (gb 264) 94 = .ok (.iinc 5 1, 3) := by decide +kernel
theorem k264_97 : decode (gb 264) 97 = .ok (.goto (-26), 3) := by decide +kernel
theorem k264_100 : decode (gb 264) 100 = .ok (.aload_n 0, 1) := by decide +kernel
theorem k264_101 : decode (gb 264) 101 = .ok (.getfield 54, 3) := by decide +kernel
theorem k264_104 : decode (gb 264) 104 = .ok (.iload_n 1, 1) := by decide +kernel
theorem k264_105 : decode (gb 264) 105 = .ok (.dup2, 1) := by decide +kernel
theorem k264_106 : decode (gb 264) 106 = .ok (.iaload, 1) := by decide +kernel
theorem k264_107 : decode (gb 264) 107 = .ok (.iload_n 3, 1) := by decide +kernel
theorem k264_108 : decode (gb 264) 108 = .ok (.isub, 1) := by decide +kernel
theorem k264_109 : decode (gb 264) 109 = .ok (.iastore, 1) := by decide +kernel
theorem k264_110 : decode (gb 264) 110 = .ok (.iconst 0, 1) := by decide +kernel
theorem k264_111 : decode (gb 264) 111 = .ok (.istore 5, 2) := by decide +kernel
theorem k264_113 : decode (gb 264) 113 = .ok (.iload 5, 2) := by decide +kernel
theorem k264_115 : decode (gb 264) 115 = .ok (.iload_n 3, 1) := by decide +kernel
theorem k264_116 : decode (gb 264) 116 = .ok (.if_icmp .ge 54, 3) := by decide +kernel
theorem k264_119 : decode (gb 264) 119 = .ok (.iload_n 1, 1) := by decide +kernel
theorem k264_120 : decode (gb 264) 120 = .ok (.ifCond .ne 25, 3) := by decide +kernel
theorem k264_123 : decode (gb 264) 123 = .ok (.aload_n 0, 1) := by decide +kernel
theorem k264_124 : decode (gb 264) 124 = .ok (.aload_n 0, 1) := by decide +kernel
theorem k264_125 : decode (gb 264) 125 = .ok (.getfield 77, 3) := by decide +kernel
theorem k264_128 : decode (gb 264) 128 = .ok (.iload 5, 2) := by decide +kernel
theorem k264_130 : decode (gb 264) 130 = .ok (.baload, 1) := by decide +kernel
theorem k264_131 : decode (gb 264) 131 = .ok (.ifCond .eq 7, 3) := by decide +kernel
theorem k264_134 : decode (gb 264) 134 = .ok (.iconst 1, 1) := by decide +kernel
theorem k264_135 : decode (gb 264) 135 = .ok (.goto 4, 3) := by decide +kernel
theorem k264_138 : decode (gb 264) 138 = .ok (.iconst 0, 1) := by decide +kernel
theorem k264_139 : decode (gb 264) 139 = .ok (.invokevirtual 80, 3) := by decide +kernel
theorem k264_142 : decode (gb 264) 142 = .ok (.goto 22, 3) := by decide +kernel
theorem k264_145 : decode (gb 264) 145 = .ok (.aload_n 0, 1) := by decide +kernel
theorem k264_146 : decode (gb 264) 146 = .ok (.aload_n 0, 1) := by decide +kernel
theorem k264_147 : decode (gb 264) 147 = .ok (.getfield 77, 3) := by decide +kernel
theorem k264_150 : decode (gb 264) 150 = .ok (.iload 5, 2) := by decide +kernel
theorem k264_152 : decode (gb 264) 152 = .ok (.baload, 1) := by decide +kernel
theorem k264_153 : decode (gb 264) 153 = .ok (.ifCond .eq 7, 3) := by decide +kernel
theorem k264_156 : decode (gb 264) 156 = .ok (.iconst 1, 1) := by decide +kernel
theorem k264_157 : decode (gb 264) 157 = .ok (.goto 4, 3) := by decide +kernel
theorem k264_160 : decode (gb 264) 160 = .ok (.iconst 0, 1) := by decide +kernel
theorem k264_161 : decode (gb 264) 161 = .ok (.invokevirtual 84, 3) := by decide +kernel
theorem k264_164 : decode (gb 264) 164 = .ok (.iinc 5 1, 3) := by decide +kernel
theorem k264_167 : decode (gb 264) 167 = .ok (.goto (-54), 3) := by decide +kernel
theorem k264_170 : decode (gb 264) 170 = .ok (.iload_n 3, 1) := by decide +kernel
theorem k264_171 : decode (gb 264) 171 = .ok (.ireturn, 1) := by decide +kernel
def c264_164 (kl113 : Int32 → Int32 → Int32 → Mem → Option (Mem × Int32)) (v1 : Int32) (v3 : Int32) (v5 : Int32) (μ : Mem) : Option (Mem × Int32) :=
  nm (v5 + (1 : Int32)) fun x1 =>
  kl113 v1 v3 x1 μ
theorem c264_164_ok {L : Nat} (kl113 : Int32 → Int32 → Int32 → Mem → Option (Mem × Int32)) (hk113 : (∀ (v1 : Int32) (v3 : Int32) (v5 : Int32) (μ : Mem) (res : Mem × Int32), kl113 v1 v3 v5 μ = some res → Sx 264 113 [(0, .ref 129), (1, .int v1), (3, .int v3), (5, .int v5)] [] 0 0 (mk L μ) (mk L res.1, some (.int res.2)))) (v1 : Int32) (v3 : Int32) (v5 : Int32) (μ : Mem) (res : Mem × Int32) (h : c264_164 kl113 v1 v3 v5 μ = some res) : Sx 264 164 [(0, .ref 129), (1, .int v1), (3, .int v3), (5, .int v5)] [] 0 0 (mk L μ) (mk L res.1, some (.int res.2)) := by
  unfold c264_164 at h
  refine cx_iinc (c := 1) (lo2 := fun x1 => [(5, .int x1), (0, .ref 129), (1, .int v1), (3, .int v3)]) k264_164 rfl (by decide) (by rw [mx_264]; decide) (fun _ => rfl) h (fun x1 h => ?_)
  refine sx_goto (tgt := 113) k264_167 (by decide) ?_
  refine sx_pick (lo2 := [(0, .ref 129), (1, .int v1), (3, .int v3), (5, .int x1)]) [1, 2, 3, 0] rfl ?_
  exact hk113 v1 v3 x1 _ _ h
def c264_139 (kl113 : Int32 → Int32 → Int32 → Mem → Option (Mem × Int32)) (v1 : Int32) (v3 : Int32) (v5 : Int32) (s1 : Int32) (μ : Mem) : Option (Mem × Int32) :=
  (f265 s1 μ).bind fun r1 =>
  c264_164 kl113 v1 v3 v5 r1
theorem c264_139_ok {L : Nat} (kl113 : Int32 → Int32 → Int32 → Mem → Option (Mem × Int32)) (hk113 : (∀ (v1 : Int32) (v3 : Int32) (v5 : Int32) (μ : Mem) (res : Mem × Int32), kl113 v1 v3 v5 μ = some res → Sx 264 113 [(0, .ref 129), (1, .int v1), (3, .int v3), (5, .int v5)] [] 0 0 (mk L μ) (mk L res.1, some (.int res.2)))) (v1 : Int32) (v3 : Int32) (v5 : Int32) (s1 : Int32) (μ : Mem) (res : Mem × Int32) (h : c264_139 kl113 v1 v3 v5 s1 μ = some res) : Sx 264 139 [(0, .ref 129), (1, .int v1), (3, .int v3), (5, .int v5)] [.int s1, .ref 129] 0 0 (mk L μ) (mk L res.1, some (.int res.2)) := by
  unfold c264_139 at h
  obtain ⟨r1, e2, h⟩ := Option.bind_eq_some_iff.mp h
  refine cx_V (sk := []) (vs := [.int s1]) st_264_265 k264_139 ow_264 cl_12_80 (by decide) rfl (Nat.le_of_ble_eq_true rfl) sk_129 (ok265 s1 _ _ e2) (sk3 := []) rfl rfl ?_
  refine sx_goto (tgt := 164) k264_142 (by decide) ?_
  refine sx_pick (lo2 := [(0, .ref 129), (1, .int v1), (3, .int v3), (5, .int v5)]) [0, 1, 2, 3] rfl ?_
  exact c264_164_ok kl113 hk113 v1 v3 v5 _ _ h
def c264_161 (kl113 : Int32 → Int32 → Int32 → Mem → Option (Mem × Int32)) (v1 : Int32) (v3 : Int32) (v5 : Int32) (s1 : Int32) (μ : Mem) : Option (Mem × Int32) :=
  (f299 s1 μ).bind fun r1 =>
  c264_164 kl113 v1 v3 v5 r1
theorem c264_161_ok {L : Nat} (kl113 : Int32 → Int32 → Int32 → Mem → Option (Mem × Int32)) (hk113 : (∀ (v1 : Int32) (v3 : Int32) (v5 : Int32) (μ : Mem) (res : Mem × Int32), kl113 v1 v3 v5 μ = some res → Sx 264 113 [(0, .ref 129), (1, .int v1), (3, .int v3), (5, .int v5)] [] 0 0 (mk L μ) (mk L res.1, some (.int res.2)))) (v1 : Int32) (v3 : Int32) (v5 : Int32) (s1 : Int32) (μ : Mem) (res : Mem × Int32) (h : c264_161 kl113 v1 v3 v5 s1 μ = some res) : Sx 264 161 [(0, .ref 129), (1, .int v1), (3, .int v3), (5, .int v5)] [.int s1, .ref 129] 0 0 (mk L μ) (mk L res.1, some (.int res.2)) := by
  unfold c264_161 at h
  obtain ⟨r1, e2, h⟩ := Option.bind_eq_some_iff.mp h
  refine cx_V (sk := []) (vs := [.int s1]) st_264_299 k264_161 ow_264 cl_12_84 (by decide) rfl (Nat.le_of_ble_eq_true rfl) sk_129 (ok299 s1 _ _ e2) (sk3 := []) rfl rfl ?_
  refine sx_pick (lo2 := [(0, .ref 129), (1, .int v1), (3, .int v3), (5, .int v5)]) [0, 1, 2, 3] rfl ?_
  exact c264_164_ok kl113 hk113 v1 v3 v5 _ _ h
def b264_113 (kl113 : Int32 → Int32 → Int32 → Mem → Option (Mem × Int32)) (v1 : Int32) (v3 : Int32) (v5 : Int32) (μ : Mem) : Option (Mem × Int32) :=
  if v3 ≤ v5 then
    some (μ, v3)
  else
    if v1 = 0 then
      (ldA 137 v5 μ).bind fun x6 =>
      if x6 = 0 then
        c264_139 kl113 v1 v3 v5 (0 : Int32) μ
      else
        c264_139 kl113 v1 v3 v5 (1 : Int32) μ
    else
      (ldA 137 v5 μ).bind fun x3 =>
      if x3 = 0 then
        c264_161 kl113 v1 v3 v5 (0 : Int32) μ
      else
        c264_161 kl113 v1 v3 v5 (1 : Int32) μ
theorem b264_113_ok {L : Nat} (kl113 : Int32 → Int32 → Int32 → Mem → Option (Mem × Int32)) (hk113 : (∀ (v1 : Int32) (v3 : Int32) (v5 : Int32) (μ : Mem) (res : Mem × Int32), kl113 v1 v3 v5 μ = some res → Sx 264 113 [(0, .ref 129), (1, .int v1), (3, .int v3), (5, .int v5)] [] 0 0 (mk L μ) (mk L res.1, some (.int res.2)))) (v1 : Int32) (v3 : Int32) (v5 : Int32) (μ : Mem) (res : Mem × Int32) (h : b264_113 kl113 v1 v3 v5 μ = some res) : Sx 264 113 [(0, .ref 129), (1, .int v1), (3, .int v3), (5, .int v5)] [] 0 0 (mk L μ) (mk L res.1, some (.int res.2)) := by
  unfold b264_113 at h
  refine sx_iload k264_113 rfl ?_
  refine sx_iload_n (i := 3) k264_115 rfl rfl ?_
  by_cases hb1 : v3 ≤ v5
  · rw [if_pos hb1] at h
    refine sx_icmp_ge (tgt := 170) k264_116 (by decide) (fun _ => ?_) (fun q => absurd hb1 q)
    refine sx_iload_n (i := 3) k264_170 rfl rfl ?_
    exact cx_reti k264_171 rt_264 h
  · rw [if_neg hb1] at h
    refine sx_icmp_ge (tgt := 170) k264_116 (by decide) (fun q => absurd q hb1) (fun _ => ?_)
    refine sx_iload_n (i := 1) k264_119 rfl rfl ?_
    by_cases hb2 : v1 = 0
    · rw [if_pos hb2] at h
      refine sx_if_ne (tgt := 145) k264_120 (by decide) (fun q => absurd hb2 q) (fun _ => ?_)
      refine sx_aload_n (i := 0) k264_123 rfl rfl ?_
      refine sx_aload_n (i := 0) k264_124 rfl rfl ?_
      refine cx_getR (k := 8) k264_125 ow_264 fl_12_77 (by decide) sk_129 ft_11_8 sr_129_8 ?_
      refine sx_iload k264_128 rfl ?_
      obtain ⟨x6, e7, h⟩ := Option.bind_eq_some_iff.mp h
      refine cx_bald k264_130 (Or.inr sk_137) e7 ?_
      by_cases hb8 : x6 = 0
      · rw [if_pos hb8] at h
        refine sx_if_eq (tgt := 138) k264_131 (by decide) (fun _ => ?_) (fun q => absurd hb8 q)
        refine sx_iconst (v := 0) k264_138 (by decide) ?_
        refine sx_pick (lo2 := [(0, .ref 129), (1, .int v1), (3, .int v3), (5, .int v5)]) [0, 1, 2, 3] rfl ?_
        exact c264_139_ok kl113 hk113 v1 v3 v5 (0 : Int32) _ _ h
      · rw [if_neg hb8] at h
        refine sx_if_eq (tgt := 138) k264_131 (by decide) (fun q => absurd q hb8) (fun _ => ?_)
        refine sx_iconst (v := 1) k264_134 (by decide) ?_
        refine sx_goto (tgt := 139) k264_135 (by decide) ?_
        refine sx_pick (lo2 := [(0, .ref 129), (1, .int v1), (3, .int v3), (5, .int v5)]) [0, 1, 2, 3] rfl ?_
        exact c264_139_ok kl113 hk113 v1 v3 v5 (1 : Int32) _ _ h
    · rw [if_neg hb2] at h
      refine sx_if_ne (tgt := 145) k264_120 (by decide) (fun _ => ?_) (fun q => absurd q hb2)
      refine sx_aload_n (i := 0) k264_145 rfl rfl ?_
      refine sx_aload_n (i := 0) k264_146 rfl rfl ?_
      refine cx_getR (k := 8) k264_147 ow_264 fl_12_77 (by decide) sk_129 ft_11_8 sr_129_8 ?_
      refine sx_iload k264_150 rfl ?_
      obtain ⟨x3, e4, h⟩ := Option.bind_eq_some_iff.mp h
      refine cx_bald k264_152 (Or.inr sk_137) e4 ?_
      by_cases hb5 : x3 = 0
      · rw [if_pos hb5] at h
        refine sx_if_eq (tgt := 160) k264_153 (by decide) (fun _ => ?_) (fun q => absurd hb5 q)
        refine sx_iconst (v := 0) k264_160 (by decide) ?_
        refine sx_pick (lo2 := [(0, .ref 129), (1, .int v1), (3, .int v3), (5, .int v5)]) [0, 1, 2, 3] rfl ?_
        exact c264_161_ok kl113 hk113 v1 v3 v5 (0 : Int32) _ _ h
      · rw [if_neg hb5] at h
        refine sx_if_eq (tgt := 160) k264_153 (by decide) (fun q => absurd q hb5) (fun _ => ?_)
        refine sx_iconst (v := 1) k264_156 (by decide) ?_
        refine sx_goto (tgt := 161) k264_157 (by decide) ?_
        refine sx_pick (lo2 := [(0, .ref 129), (1, .int v1), (3, .int v3), (5, .int v5)]) [0, 1, 2, 3] rfl ?_
        exact c264_161_ok kl113 hk113 v1 v3 v5 (1 : Int32) _ _ h
def l264_113 : Nat → Int32 × Int32 × Int32 × Mem → Option (Mem × Int32) :=
  fixN (fun self x => b264_113 (fun v1 v3 v5 μ => self (v1, v3, v5, μ)) (x.1) (x.2.1) (x.2.2.1) (x.2.2.2))
theorem l264_113_ok {L : Nat} (n : Nat) (v1 : Int32) (v3 : Int32) (v5 : Int32) (μ : Mem) (res : Mem × Int32) (h : l264_113 n (v1, v3, v5, μ) = some res) : Sx 264 113 [(0, .ref 129), (1, .int v1), (3, .int v3), (5, .int v5)] [] 0 0 (mk L μ) (mk L res.1, some (.int res.2)) := by
  have key := fixN_ind (P := fun x res => Sx 264 113 [(0, .ref 129), (1, .int (x.1)), (3, .int (x.2.1)), (5, .int (x.2.2.1))] [] 0 0 (mk L (x.2.2.2)) (mk L res.1, some (.int res.2))) (F := fun self x => b264_113 (fun v1 v3 v5 μ => self (v1, v3, v5, μ)) (x.1) (x.2.1) (x.2.2.1) (x.2.2.2)) (fun self hself x res h => b264_113_ok (fun v1 v3 v5 μ => self (v1, v3, v5, μ)) (fun v1 v3 v5 μ res hh => hself (v1, v3, v5, μ) res hh) (x.1) (x.2.1) (x.2.2.1) (x.2.2.2) res h) n (v1, v3, v5, μ) res h
  exact key
def b264_71 (kl71 : Int32 → Int32 → Nat → Int32 → Mem → Option (Mem × Int32)) (v1 : Int32) (v3 : Int32) (q4 : Nat) (v5 : Int32) (μ : Mem) : Option (Mem × Int32) :=
  (ldA 136 v1 μ).bind fun x1 =>
  if x1 ≤ v5 then
    (ldA 136 v1 μ).bind fun x4 =>
    (stA 136 v1 (x4 - v3) μ).bind fun m6 =>
    l264_113 gF (v1, v3, (0 : Int32), m6)
  else
    (ldA q4 v5 μ).bind fun x8 =>
    (stZ q4 (v5 - v3) x8 μ).bind fun m10 =>
    nm (v5 + (1 : Int32)) fun x12 =>
    kl71 v1 v3 q4 x12 m10
theorem b264_71_ok {L : Nat} (kl71 : Int32 → Int32 → Nat → Int32 → Mem → Option (Mem × Int32)) (hk71 : (∀ (v1 : Int32) (v3 : Int32) (q4 : Nat) (v5 : Int32) (hq4 : SK0 q4 = (3, gln q4)) (μ : Mem) (res : Mem × Int32), kl71 v1 v3 q4 v5 μ = some res → Sx 264 71 [(0, .ref 129), (1, .int v1), (3, .int v3), (4, .ref q4), (5, .int v5)] [] 0 0 (mk L μ) (mk L res.1, some (.int res.2)))) (v1 : Int32) (v3 : Int32) (q4 : Nat) (v5 : Int32) (hq4 : SK0 q4 = (3, gln q4)) (μ : Mem) (res : Mem × Int32) (h : b264_71 kl71 v1 v3 q4 v5 μ = some res) : Sx 264 71 [(0, .ref 129), (1, .int v1), (3, .int v3), (4, .ref q4), (5, .int v5)] [] 0 0 (mk L μ) (mk L res.1, some (.int res.2)) := by
  unfold b264_71 at h
  refine sx_iload k264_71 rfl ?_
  refine sx_aload_n (i := 0) k264_73 rfl rfl ?_
  refine cx_getR (k := 7) k264_74 ow_264 fl_12_54 (by decide) sk_129 ft_11_7 sr_129_7 ?_
  refine sx_iload_n (i := 1) k264_77 rfl rfl ?_
  obtain ⟨x1, e2, h⟩ := Option.bind_eq_some_iff.mp h
  refine cx_iald k264_78 sk_136 e2 ?_
  by_cases hb3 : x1 ≤ v5
  · rw [if_pos hb3] at h
    refine sx_icmp_ge (tgt := 100) k264_79 (by decide) (fun _ => ?_) (fun q => absurd hb3 q)
    refine sx_aload_n (i := 0) k264_100 rfl rfl ?_
    refine cx_getR (k := 7) k264_101 ow_264 fl_12_54 (by decide) sk_129 ft_11_7 sr_129_7 ?_
    refine sx_iload_n (i := 1) k264_104 rfl rfl ?_
    refine sx_dup2 k264_105 rfl rfl ?_
    obtain ⟨x4, e5, h⟩ := Option.bind_eq_some_iff.mp h
    refine cx_iald k264_106 sk_136 e5 ?_
    refine sx_iload_n (i := 3) k264_107 rfl rfl ?_
    refine sx_isub k264_108 ?_
    obtain ⟨m6, e7, h⟩ := Option.bind_eq_some_iff.mp h
    refine cx_iast k264_109 sk_136 e7 ?_
    refine sx_iconst (v := 0) k264_110 (by decide) ?_
    refine cx_istore (lo2 := [(5, .int (0 : Int32)), (0, .ref 129), (1, .int v1), (3, .int v3), (4, .ref q4)]) k264_111 (by rw [mx_264]; decide) rfl ?_
    refine sx_pick (lo2 := [(0, .ref 129), (1, .int v1), (3, .int v3), (5, .int (0 : Int32))]) [1, 2, 3, 0] rfl ?_
    exact l264_113_ok gF v1 v3 (0 : Int32) _ _ h
  · rw [if_neg hb3] at h
    refine sx_icmp_ge (tgt := 100) k264_79 (by decide) (fun q => absurd q hb3) (fun _ => ?_)
    refine sx_aload k264_82 rfl ?_
    refine sx_iload k264_84 rfl ?_
    refine sx_iload_n (i := 3) k264_86 rfl rfl ?_
    refine sx_isub k264_87 ?_
    refine sx_aload k264_88 rfl ?_
    refine sx_iload k264_90 rfl ?_
    obtain ⟨x8, e9, h⟩ := Option.bind_eq_some_iff.mp h
    refine cx_bald k264_92 (Or.inr hq4) e9 ?_
    obtain ⟨m10, e11, h⟩ := Option.bind_eq_some_iff.mp h
    refine cx_zast k264_93 hq4 e11 ?_
    refine cx_iinc (c := 1) (lo2 := fun x12 => [(5, .int x12), (0, .ref 129), (1, .int v1), (3, .int v3), (4, .ref q4)]) k264_94 rfl (by decide) (by rw [mx_264]; decide) (fun _ => rfl) h (fun x12 h => ?_)
    refine sx_goto (tgt := 71) k264_97 (by decide) ?_
    refine sx_pick (lo2 := [(0, .ref 129), (1, .int v1), (3, .int v3), (4, .ref q4), (5, .int x12)]) [1, 2, 3, 4, 0] rfl ?_
    exact hk71 v1 v3 q4 x12 hq4 _ _ h
def l264_71 : Nat → Int32 × Int32 × Nat × Int32 × Mem → Option (Mem × Int32) :=
  fixN (fun self x => b264_71 (fun v1 v3 q4 v5 μ => self (v1, v3, q4, v5, μ)) (x.1) (x.2.1) (x.2.2.1) (x.2.2.2.1) (x.2.2.2.2))
theorem l264_71_ok {L : Nat} (n : Nat) (v1 : Int32) (v3 : Int32) (q4 : Nat) (v5 : Int32) (hq4 : SK0 q4 = (3, gln q4)) (μ : Mem) (res : Mem × Int32) (h : l264_71 n (v1, v3, q4, v5, μ) = some res) : Sx 264 71 [(0, .ref 129), (1, .int v1), (3, .int v3), (4, .ref q4), (5, .int v5)] [] 0 0 (mk L μ) (mk L res.1, some (.int res.2)) := by
  have key := fixN_ind (P := fun x res => SK0 (x.2.2.1) = (3, gln (x.2.2.1)) → Sx 264 71 [(0, .ref 129), (1, .int (x.1)), (3, .int (x.2.1)), (4, .ref (x.2.2.1)), (5, .int (x.2.2.2.1))] [] 0 0 (mk L (x.2.2.2.2)) (mk L res.1, some (.int res.2))) (F := fun self x => b264_71 (fun v1 v3 q4 v5 μ => self (v1, v3, q4, v5, μ)) (x.1) (x.2.1) (x.2.2.1) (x.2.2.2.1) (x.2.2.2.2)) (fun self hself x res h hq4 => b264_71_ok (fun v1 v3 q4 v5 μ => self (v1, v3, q4, v5, μ)) (fun v1 v3 q4 v5 hq4 μ res hh => hself (v1, v3, q4, v5, μ) res hh hq4) (x.1) (x.2.1) (x.2.2.1) (x.2.2.2.1) hq4 (x.2.2.2.2) res h) n (v1, v3, q4, v5, μ) res h hq4
  exact key
def b264_44 (kl44 : Int32 → Int32 → Nat → Int32 → Mem → Option (Mem × Int32)) (v1 : Int32) (v3 : Int32) (q4 : Nat) (v5 : Int32) (μ : Mem) : Option (Mem × Int32) :=
  if v3 ≤ v5 then
    l264_71 gF (v1, v3, q4, v3, μ)
  else
    (ldA q4 v5 μ).bind fun x2 =>
    (stZ 137 v5 x2 μ).bind fun m4 =>
    nm (v5 + (1 : Int32)) fun x6 =>
    kl44 v1 v3 q4 x6 m4
theorem b264_44_ok {L : Nat} (kl44 : Int32 → Int32 → Nat → Int32 → Mem → Option (Mem × Int32)) (hk44 : (∀ (v1 : Int32) (v3 : Int32) (q4 : Nat) (v5 : Int32) (hq4 : SK0 q4 = (3, gln q4)) (μ : Mem) (res : Mem × Int32), kl44 v1 v3 q4 v5 μ = some res → Sx 264 44 [(0, .ref 129), (1, .int v1), (3, .int v3), (4, .ref q4), (5, .int v5)] [] 0 0 (mk L μ) (mk L res.1, some (.int res.2)))) (v1 : Int32) (v3 : Int32) (q4 : Nat) (v5 : Int32) (hq4 : SK0 q4 = (3, gln q4)) (μ : Mem) (res : Mem × Int32) (h : b264_44 kl44 v1 v3 q4 v5 μ = some res) : Sx 264 44 [(0, .ref 129), (1, .int v1), (3, .int v3), (4, .ref q4), (5, .int v5)] [] 0 0 (mk L μ) (mk L res.1, some (.int res.2)) := by
  unfold b264_44 at h
  refine sx_iload k264_44 rfl ?_
  refine sx_iload_n (i := 3) k264_46 rfl rfl ?_
  by_cases hb1 : v3 ≤ v5
  · rw [if_pos hb1] at h
    refine sx_icmp_ge (tgt := 68) k264_47 (by decide) (fun _ => ?_) (fun q => absurd hb1 q)
    refine sx_iload_n (i := 3) k264_68 rfl rfl ?_
    refine cx_istore (lo2 := [(5, .int v3), (0, .ref 129), (1, .int v1), (3, .int v3), (4, .ref q4)]) k264_69 (by rw [mx_264]; decide) rfl ?_
    refine sx_pick (lo2 := [(0, .ref 129), (1, .int v1), (3, .int v3), (4, .ref q4), (5, .int v3)]) [1, 2, 3, 4, 0] rfl ?_
    exact l264_71_ok gF v1 v3 q4 v3 hq4 _ _ h
  · rw [if_neg hb1] at h
    refine sx_icmp_ge (tgt := 68) k264_47 (by decide) (fun q => absurd q hb1) (fun _ => ?_)
    refine sx_aload_n (i := 0) k264_50 rfl rfl ?_
    refine cx_getR (k := 8) k264_51 ow_264 fl_12_77 (by decide) sk_129 ft_11_8 sr_129_8 ?_
    refine sx_iload k264_54 rfl ?_
    refine sx_aload k264_56 rfl ?_
    refine sx_iload k264_58 rfl ?_
    obtain ⟨x2, e3, h⟩ := Option.bind_eq_some_iff.mp h
    refine cx_bald k264_60 (Or.inr hq4) e3 ?_
    obtain ⟨m4, e5, h⟩ := Option.bind_eq_some_iff.mp h
    refine cx_zast k264_61 sk_137 e5 ?_
    refine cx_iinc (c := 1) (lo2 := fun x6 => [(5, .int x6), (0, .ref 129), (1, .int v1), (3, .int v3), (4, .ref q4)]) k264_62 rfl (by decide) (by rw [mx_264]; decide) (fun _ => rfl) h (fun x6 h => ?_)
    refine sx_goto (tgt := 44) k264_65 (by decide) ?_
    refine sx_pick (lo2 := [(0, .ref 129), (1, .int v1), (3, .int v3), (4, .ref q4), (5, .int x6)]) [1, 2, 3, 4, 0] rfl ?_
    exact hk44 v1 v3 q4 x6 hq4 _ _ h
def l264_44 : Nat → Int32 × Int32 × Nat × Int32 × Mem → Option (Mem × Int32) :=
  fixN (fun self x => b264_44 (fun v1 v3 q4 v5 μ => self (v1, v3, q4, v5, μ)) (x.1) (x.2.1) (x.2.2.1) (x.2.2.2.1) (x.2.2.2.2))
theorem l264_44_ok {L : Nat} (n : Nat) (v1 : Int32) (v3 : Int32) (q4 : Nat) (v5 : Int32) (hq4 : SK0 q4 = (3, gln q4)) (μ : Mem) (res : Mem × Int32) (h : l264_44 n (v1, v3, q4, v5, μ) = some res) : Sx 264 44 [(0, .ref 129), (1, .int v1), (3, .int v3), (4, .ref q4), (5, .int v5)] [] 0 0 (mk L μ) (mk L res.1, some (.int res.2)) := by
  have key := fixN_ind (P := fun x res => SK0 (x.2.2.1) = (3, gln (x.2.2.1)) → Sx 264 44 [(0, .ref 129), (1, .int (x.1)), (3, .int (x.2.1)), (4, .ref (x.2.2.1)), (5, .int (x.2.2.2.1))] [] 0 0 (mk L (x.2.2.2.2)) (mk L res.1, some (.int res.2))) (F := fun self x => b264_44 (fun v1 v3 q4 v5 μ => self (v1, v3, q4, v5, μ)) (x.1) (x.2.1) (x.2.2.1) (x.2.2.2.1) (x.2.2.2.2)) (fun self hself x res h hq4 => b264_44_ok (fun v1 v3 q4 v5 μ => self (v1, v3, q4, v5, μ)) (fun v1 v3 q4 v5 hq4 μ res hh => hself (v1, v3, q4, v5, μ) res hh hq4) (x.1) (x.2.1) (x.2.2.1) (x.2.2.2.1) hq4 (x.2.2.2.2) res h) n (v1, v3, q4, v5, μ) res h hq4
  exact key
def c264_33 (v1 : Int32) (s0 : Int32) (μ : Mem) : Option (Mem × Int32) :=
  (f253 v1 μ).bind fun r1 =>
  l264_44 gF (v1, s0, r1.2, (0 : Int32), r1.1)
theorem c264_33_ok {L : Nat} (v1 : Int32) (s0 : Int32) (μ : Mem) (res : Mem × Int32) (h : c264_33 v1 s0 μ = some res) : Sx 264 33 [(0, .ref 129), (1, .int v1)] [.int s0] 0 0 (mk L μ) (mk L res.1, some (.int res.2)) := by
  unfold c264_33 at h
  refine cx_istore_n (lo2 := [(3, .int s0), (0, .ref 129), (1, .int v1)]) k264_33 rfl (by rw [mx_264]; decide) rfl ?_
  refine sx_aload_n (i := 0) k264_34 rfl rfl ?_
  refine sx_iload_n (i := 1) k264_35 rfl rfl ?_
  obtain ⟨r1, e2, h⟩ := Option.bind_eq_some_iff.mp h
  refine cx_V (sk := []) (vs := [.int v1]) st_264_253 k264_36 ow_264 cl_12_57 (by decide) rfl (Nat.le_of_ble_eq_true rfl) sk_129 (ok253 v1 _ _ e2) (sk3 := [.ref r1.2]) rfl rfl ?_
  refine cx_astore (lo2 := [(4, .ref r1.2), (3, .int s0), (0, .ref 129), (1, .int v1)]) k264_39 (by rw [mx_264]; decide) rfl ?_
  refine sx_iconst (v := 0) k264_41 (by decide) ?_
  refine cx_istore (lo2 := [(5, .int (0 : Int32)), (4, .ref r1.2), (3, .int s0), (0, .ref 129), (1, .int v1)]) k264_42 (by rw [mx_264]; decide) rfl ?_
  refine sx_pick (lo2 := [(0, .ref 129), (1, .int v1), (3, .int s0), (4, .ref r1.2), (5, .int (0 : Int32))]) [3, 4, 2, 1, 0] rfl ?_
  exact l264_44_ok gF v1 s0 r1.2 (0 : Int32) (rk_253 e2) _ _ h
/-- CraftHouseModel.carry(II)I -/
def f264 (p1 : Int32) (p2 : Int32) (μ : Mem) : Option (Mem × Int32) :=
  (f255 p1 μ).bind fun r1 =>
  if r1.2 = 0 then
    some (r1.1, (-1 : Int32))
  else
    if 0 ≤ p2 then
      (ldA 136 p1 r1.1).bind fun x5 =>
      if x5 ≤ p2 then
        (ldA 136 p1 r1.1).bind fun x8 =>
        c264_33 p1 x8 r1.1
      else
        c264_33 p1 p2 r1.1
    else
      some (r1.1, (-1 : Int32))
theorem ok264 {L : Nat} (p1 : Int32) (p2 : Int32) (μ : Mem) (res : Mem × Int32) (h : f264 p1 p2 μ = some res) : Mx 264 [.ref 129, .int p1, .int p2] (mk L μ) (mk L res.1, some (.int res.2)) := by
  refine Mx_of ml_264 (by rw [mx_264]; exact Nat.le_of_ble_eq_true rfl) ?_
  show Sx 264 0 [(0, .ref 129), (1, .int p1), (2, .int p2)] [] 0 0 (mk L μ) _
  unfold f264 at h
  refine sx_iload_n (i := 1) k264_0 rfl rfl ?_
  obtain ⟨r1, e2, h⟩ := Option.bind_eq_some_iff.mp h
  refine cx_S (sk := []) (vs := [.int p1]) st_264_255 k264_1 ow_264 cl_12_61 (by decide) rfl (Nat.le_of_ble_eq_true rfl) (ok255 p1 _ _ e2) (sk3 := [.int r1.2]) rfl rfl ?_
  by_cases hb3 : r1.2 = 0
  · rw [if_pos hb3] at h
    refine sx_if_eq (tgt := 11) k264_4 (by decide) (fun _ => ?_) (fun q => absurd hb3 q)
    refine sx_iconst (v := -1) k264_11 (by decide) ?_
    exact cx_reti k264_12 rt_264 h
  · rw [if_neg hb3] at h
    refine sx_if_eq (tgt := 11) k264_4 (by decide) (fun q => absurd q hb3) (fun _ => ?_)
    refine sx_iload_n (i := 2) k264_7 rfl rfl ?_
    by_cases hb4 : 0 ≤ p2
    · rw [if_pos hb4] at h
      refine sx_if_ge (tgt := 13) k264_8 (by decide) (fun _ => ?_) (fun q => absurd hb4 q)
      refine sx_iload_n (i := 2) k264_13 rfl rfl ?_
      refine sx_aload_n (i := 0) k264_14 rfl rfl ?_
      refine cx_getR (k := 7) k264_15 ow_264 fl_12_54 (by decide) sk_129 ft_11_7 sr_129_7 ?_
      refine sx_iload_n (i := 1) k264_18 rfl rfl ?_
      obtain ⟨x5, e6, h⟩ := Option.bind_eq_some_iff.mp h
      refine cx_iald k264_19 sk_136 e6 ?_
      by_cases hb7 : x5 ≤ p2
      · rw [if_pos hb7] at h
        refine sx_icmp_ge (tgt := 27) k264_20 (by decide) (fun _ => ?_) (fun q => absurd hb7 q)
        refine sx_aload_n (i := 0) k264_27 rfl rfl ?_
        refine cx_getR (k := 7) k264_28 ow_264 fl_12_54 (by decide) sk_129 ft_11_7 sr_129_7 ?_
        refine sx_iload_n (i := 1) k264_31 rfl rfl ?_
        obtain ⟨x8, e9, h⟩ := Option.bind_eq_some_iff.mp h
        refine cx_iald k264_32 sk_136 e9 ?_
        refine sx_pick (lo2 := [(0, .ref 129), (1, .int p1)]) [0, 1] rfl ?_
        exact c264_33_ok p1 x8 _ _ h
      · rw [if_neg hb7] at h
        refine sx_icmp_ge (tgt := 27) k264_20 (by decide) (fun q => absurd q hb7) (fun _ => ?_)
        refine sx_iload_n (i := 2) k264_23 rfl rfl ?_
        refine sx_goto (tgt := 33) k264_24 (by decide) ?_
        refine sx_pick (lo2 := [(0, .ref 129), (1, .int p1)]) [0, 1] rfl ?_
        exact c264_33_ok p1 p2 _ _ h
    · rw [if_neg hb4] at h
      refine sx_if_ge (tgt := 13) k264_8 (by decide) (fun q => absurd q hb4) (fun _ => ?_)
      refine sx_iconst (v := -1) k264_11 (by decide) ?_
      exact cx_reti k264_12 rt_264 h
