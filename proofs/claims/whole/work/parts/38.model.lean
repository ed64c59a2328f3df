theorem k340_0 : decode (gb 340) 0 = .ok (.iconst 0, 1) := by decide +kernel
theorem k340_1 : decode (gb 340) 1 = .ok (.istore_n 1, 1) := by decide +kernel
theorem k340_2 : decode (gb 340) 2 = .ok (.iload_n 1, 1) := by decide +kernel
theorem k340_3 : decode (gb 340) 3 = .ok (.bipush 6, 2) := by decide +kernel
theorem k340_5 : decode (gb 340) 5 = .ok (.if_icmp .ge 210, 3) := by decide +kernel
theorem k340_8 : decode (gb 340) 8 = .ok (.aload_n 0, 1) := by decide +kernel
theorem k340_9 : decode (gb 340) 9 = .ok (.getfield 548, 3) := by decide +kernel
theorem k340_12 : decode (gb 340) 12 = .ok (.iload_n 1, 1) := by decide +kernel
theorem k340_13 : decode (gb 340) 13 = .ok (.iaload, 1) := by decide +kernel
theorem k340_14 : decode (gb 340) 14 = .ok (.iconst 2, 1) := by decide +kernel
theorem k340_15 : decode (gb 340) 15 = .ok (.if_icmp .lt 194, 3) := by decide +kernel
theorem k340_18 : decode (gb 340) 18 = .ok (.aload_n 0, 1) := by decide +kernel
theorem k340_19 : decode (gb 340) 19 = .ok (.aload_n 0, 1) := by decide +kernel
theorem k340_20 : decode (gb 340) 20 = .ok (.getfield 619, 3) := by decide +kernel
theorem k340_23 : decode (gb 340) 23 = .ok (.iload_n 1, 1) := by decide +kernel
theorem k340_24 : decode (gb 340) 24 = .ok (.iaload, 1) := by decide +kernel
theorem k340_25 : decode (gb 340) 25 = .ok (.invokevirtual 589, 3) := by decide +kernel
theorem k340_28 : decode (gb 340) 28 = .ok (.istore_n 2, 1) := by decide +kernel
theorem k340_29 : decode (gb 340) 29 = .ok (.iload_n 2, 1) := by decide +kernel
theorem k340_30 : decode (gb 340) 30 = .ok (.aload_n 0, 1) := by decide +kernel
theorem k340_31 : decode (gb 340) 31 = .ok (.getfield 622, 3) := by decide +kernel
theorem k340_34 : decode (gb 340) 34 = .ok (.iload_n 1, 1) := by decide +kernel
theorem k340_35 : decode (gb 340) 35 = .ok (.iaload, 1) := by decide +kernel
theorem k340_36 : decode (gb 340) 36 = .ok (.if_icmp .ge 7, 3) := by decide +kernel
theorem k340_39 : decode (gb 340) 39 = .ok (.iconst 4, 1) := by decide +kernel
theorem k340_40 : decode (gb 340) 40 = .ok (.goto 18, 3) := by decide +kernel
theorem k340_43 : decode (gb 340) 43 = .ok (.iload_n 2, 1) := by decide +kernel
theorem k340_44 : decode (gb 340) 44 = .ok (.aload_n 0, 1) := by decide +kernel
theorem k340_45 : decode (gb 340) 45 = .ok (.getfield 625, 3) := by decide +kernel
theorem k340_48 : decode (gb 340) 48 = .ok (.iload_n 1, 1) := by decide +kernel
theorem k340_49 : decode (gb 340) 49 = .ok (.iaload, 1) := by decide +kernel
theorem k340_50 : decode (gb 340) 50 = .ok (.if_icmp .le 7, 3) := by decide +kernel
theorem k340_53 : decode (gb 340) 53 = .ok (.iconst 5, 1) := by decide +kernel
theorem k340_54 : decode (gb 340) 54 = .ok (.goto 4, 3) := by decide +kernel
theorem k340_57 : decode (gb 340) 57 = .ok (.iconst 3, 1) := by decide +kernel
theorem k340_58 : decode (gb 340) 58 = .ok (.istore_n 3, 1) := by decide +kernel
theorem k340_59 : decode (gb 340) 59 = .ok (.aload_n 0, 1) := by decide +kernel
theorem k340_60 : decode (gb 340) 60 = .ok (.getfield 634, 3) := by decide +kernel
theorem k340_63 : decode (gb 340) 63 = .ok (.iload_n 1, 1) := by decide +kernel
theorem k340_64 : decode (gb 340) 64 = .ok (.iload_n 3, 1) := by decide +kernel
theorem k340_65 : decode (gb 340) 65 = .ok (.aload_n 0, 1) := by decide +kernel
theorem k340_66 : decode (gb 340) 66 = .ok (.getfield 637, 3) := by decide +kernel
theorem k340_69 : decode (gb 340) 69 = .ok (.iload_n 1, 1) := by decide +kernel
theorem k340_70 : decode (gb 340) 70 = .ok (.iaload, 1) := by decide +kernel
theorem k340_71 : decode (gb 340) 71 = .ok (.if_icmp .eq 7, 3) := by decide +kernel
theorem k340_74 : decode (gb 340) 74 = .ok (.iconst 1, 1) := by decide +kernel
theorem k340_75 : decode (gb 340) 75 = .ok (.goto 29, 3) := by decide +kernel
theorem k340_78 : decode (gb 340) 78 = .ok (.aload_n 0, 1) := by decide +kernel
theorem k340_79 : decode (gb 340) 79 = .ok (.getfield 634, 3) := by decide +kernel
theorem k340_82 : decode (gb 340) 82 = .ok (.iload_n 1, 1) := by decide +kernel
theorem k340_83 : decode (gb 340) 83 = .ok (.iaload, 1) := by decide +kernel
theorem k340_84 : decode (gb 340) 84 = .ok (.sipush 255, 3) := by decide +kernel
theorem k340_87 : decode (gb 340) 87 = .ok (.if_icmp .ge 14, 3) := by decide +kernel
theorem k340_90 : decode (gb 340) 90 = .ok (.aload_n 0, 1) := by decide +kernel
theorem k340_91 : decode (gb 340) 91 = .ok (.getfield 634, 3) := by decide +kernel
theorem k340_94 : decode (gb 340) 94 = .ok (.iload_n 1, 1) := by decide +kernel
theorem k340_95 : decode (gb 340) 95 = .ok (.iaload, 1) := by decide +kernel
theorem k340_96 : decode (gb 340) 96 = .ok (.iconst 1, 1) := by decide +kernel
theorem k340_97 : decode (gb 340) 97 = .ok (.iadd, 1) := by decide +kernel
theorem k340_98 : decode (gb 340) 98 = .ok (.goto 6, 3) := by decide +kernel
theorem k340_101 : decode (gb 340) 101 = .ok (.sipush 255, 3) := by decide +kernel
theorem k340_104 : decode (gb 340) 104 = .ok (.iastore, 1) := by decide +kernel
theorem k340_105 : decode (gb 340) 105 = .ok (.aload_n 0, 1) := by decide +kernel
theorem k340_106 : decode (gb 340) 106 = .ok (.getfield 637, 3) := by decide +kernel
theorem k340_109 : decode (gb 340) 109 = .ok (.iload_n 1, 1) := by decide +kernel
theorem k340_110 : decode (gb 340) 110 = .ok (.iload_n 3, 1) := by decide +kernel
theorem k340_111 : decode (gb 340) 111 = .ok (.iastore, 1) := by decide +kernel
theorem k340_112 : decode (gb 340) 112 = .ok (.aload_n 0, 1) := by decide +kernel
theorem k340_113 : decode (gb 340) 113 = .ok (.getfield 634, 3) := by decide +kernel
theorem k340_116 : decode (gb 340) 116 = .ok (.iload_n 1, 1) := by decide +kernel
theorem k340_117 : decode (gb 340) 117 = .ok (.iaload, 1) := by decide +kernel
theorem k340_118 : decode (gb 340) 118 = .ok (.aload_n 0, 1) := by decide +kernel
theorem k340_119 : decode (gb 340) 119 = .ok (.getfield 628, 3) := by decide +kernel
theorem k340_122 : decode (gb 340) 122 = .ok (.iload_n 1, 1) := by decide +kernel
theorem k340_123 : decode (gb 340) 123 = .ok (.iaload, 1) := by decide +kernel
theorem k340_124 : decode (gb 340) 124 = .ok (.if_icmp .lt 85, 3) := by decide +kernel
theorem k340_127 : decode (gb 340) 127 = .ok (.iload_n 3, 1) := by decide +kernel
theorem k340_128 : decode (gb 340) 128 = .ok (.aload_n 0, 1) := by decide +kernel
theorem k340_129 : decode (gb 340) 129 = .ok (.getfield 548, 3) := by decide +kernel
theorem k340_132 : decode (gb 340) 132 = .ok (.iload_n 1, 1) := by decide +kernel
theorem k340_133 : decode (gb 340) 133 = .ok (.iaload, 1) := by decide +kernel
theorem k340_134 : decode (gb 340) 134 = .ok (.if_icmp .eq 75, 3) := by decide +kernel
theorem k340_137 : decode (gb 340) 137 = .ok (.aload_n 0, 1) := by decide +kernel
theorem k340_138 : decode (gb 340) 138 = .ok (.iload_n 1, 1) := by decide +kernel
theorem k340_139 : decode (gb 340) 139 = .ok (.iconst 1, 1) := by decide +kernel
theorem k340_140 : decode (gb 340) 140 = .ok (.invokevirtual 501, 3) := by decide +kernel
theorem k340_143 : decode (gb 340) 143 = .ok (.aload_n 0, 1) := by decide +kernel
theorem k340_144 : decode (gb 340) 144 = .ok (.aload_n 0, 1) := by decide +kernel
theorem k340_145 : decode (gb 340) 145 = .ok (.getfield 619, 3) := by decide +kernel
theorem k340_148 : decode (gb 340) 148 = .ok (.iload_n 1, 1) := by decide +kernel
theorem k340_149 : decode (gb 340) 149 = .ok (.iaload, 1) := by decide +kernel
theorem k340_150 : decode (gb 340) 150 = .ok (.iconst 1, 1) := by decide +kernel
theorem k340_151 : decode (gb 340) 151 = .ok (.invokevirtual 501, 3) := by decide +kernel
theorem k340_154 : decode (gb 340) 154 = .ok (.aload_n 0, 1) := by decide +kernel
theorem k340_155 : decode (gb 340) 155 = .ok (.iload_n 2, 1) := by decide +kernel
theorem k340_156 : decode (gb 340) 156 = .ok (.iconst 4, 1) := by decide +kernel
theorem k340_157 : decode (gb 340) 157 = .ok (.invokevirtual 501, 3) := by decide +kernel
theorem k340_160 : decode (gb 340) 160 = .ok (.aload_n 0, 1) := by decide +kernel
theorem k340_161 : decode (gb 340) 161 = .ok (.aload_n 0, 1) := by decide +kernel
theorem k340_162 : decode (gb 340) 162 = .ok (.getfield 548, 3) := by decide +kernel
theorem k340_165 : decode (gb 340) 165 = .ok (.iload_n 1, 1) := by decide +kernel
theorem k340_166 : decode (gb 340) 166 = .ok (.iaload, 1) := by decide +kernel
theorem k340_167 : decode (gb 340) 167 = .ok (.iconst 1, 1) := by decide +kernel
theorem k340_168 : decode (gb 340) 168 = .ok (.invokevirtual 501, 3) := by decide +kernel
theorem k340_171 : decode (gb 340) 171 = .ok (.aload_n 0, 1) := by decide +kernel
theorem k340_172 : decode (gb 340) 172 = .ok (.iload_n 3, 1) := by decide +kernel
theorem k340_173 : decode (gb 340) 173 = .ok (.iconst 1, 1) := by decide +kernel
theorem k340_174 : decode (gb 340) 174 = .ok (.invokevirtual 501, 3) := by decide +kernel
theorem k340_177 : decode (gb 340) 177 = .ok (.aload_n 0, 1) := by decide +kernel
theorem k340_178 : decode (gb 340) 178 = .ok (.getfield 548, 3) := by decide +kernel
theorem k340_181 : decode (gb 340) 181 = .ok (.iload_n 1, 1) := by decide +kernel
theorem k340_182 : decode (gb 340) 182 = .ok (.iload_n 3, 1) := by decide +kernel
theorem k340_183 : decode (gb 340) 183 = .ok (.iastore, 1) := by decide +kernel
theorem k340_184 : decode (gb 340) 184 = .ok (.aload_n 0, 1) := by decide +kernel
theorem k340_185 : decode (gb 340) 185 = .ok (.bipush 12, 2) := by decide +kernel
theorem k340_187 : decode (gb 340) 187 = .ok (.bipush 12, 2) := by decide +kernel
theorem k340_189 : decode (gb 340) 189 = .ok (.invokevirtual 504, 3) := by decide +kernel
theorem k340_192 : decode (gb 340) 192 = .ok (.iload_n 3, 1) := by decide +kernel
theorem k340_193 : decode (gb 340) 193 = .ok (.iconst 4, 1) := by decide +kernel
theorem k340_194 : decode (gb 340) 194 = .ok (.if_icmp .lt 15, 3) := by decide +kernel
theorem k340_197 : decode (gb 340) 197 = .ok (.aload_n 0, 1) := by decide +kernel
theorem k340_198 : decode (gb 340) 198 = .ok (.aload_n 0, 1) := by decide +kernel
theorem k340_199 : decode (gb 340) 199 = .ok (.getfield 631, 3) := by decide +kernel
theorem k340_202 : decode (gb 340) 202 = .ok (.iload_n 1, 1) := by decide +kernel
theorem k340_203 : decode (gb 340) 203 = .ok (.iaload, 1) := by decide +kernel
theorem k340_204 : decode (gb 340) 204 = .ok (.iload_n 2, 1) := by decide +kernel
theorem k340_205 : decode (gb 340) 205 = .ok (.iconst 0, 1) := by decide +kernel
theorem k340_206 : decode (gb 340) 206 = .ok (.invokevirtual 574, 3) := by decide +kernel
theorem k340_209 : decode (gb 340) 209 = .ok (.iinc 1 1, 3) := by decide +kernel
theorem k340_212 : decode (gb 340) 212 = .ok (.goto (-210), 3) := by decide +kernel
theorem k340_215 : decode (gb 340) 215 = .ok (.return_, 1) := by decide +kernel
def c340_209 (kl2 : Int32 → Mem → Option (Mem)) (v1 : Int32) (μ : Mem) : Option (Mem) :=
  nm (v1 + (1 : Int32)) fun x1 =>
  kl2 x1 μ
theorem c340_209_ok {L : Nat} (kl2 : Int32 → Mem → Option (Mem)) (hk2 : (∀ (v1 : Int32) (μ : Mem) (res : Mem), kl2 v1 μ = some res → Sx 340 2 [(0, .ref 129), (1, .int v1)] [] 0 0 (mk L μ) (mk L res, none))) (v1 : Int32) (μ : Mem) (res : Mem) (h : c340_209 kl2 v1 μ = some res) : Sx 340 209 [(0, .ref 129), (1, .int v1)] [] 0 0 (mk L μ) (mk L res, none) := by
  unfold c340_209 at h
  refine cx_iinc (c := 1) (lo2 := fun x1 => [(1, .int x1), (0, .ref 129)]) k340_209 rfl (by decide) (by rw [mx_340]; decide) (fun _ => rfl) h (fun x1 h => ?_)
  refine sx_goto (tgt := 2) k340_212 (by decide) ?_
  refine sx_pick (lo2 := [(0, .ref 129), (1, .int x1)]) [1, 0] rfl ?_
  exact hk2 x1 _ _ h
def c340_104 (kl2 : Int32 → Mem → Option (Mem)) (v1 : Int32) (v2 : Int32) (v3 : Int32) (s1 : Int32) (s2 : Int32) (μ : Mem) : Option (Mem) :=
  (stA 201 s1 s2 μ).bind fun m1 =>
  (stA 202 v1 v3 m1).bind fun m3 =>
  (ldA 201 v1 m3).bind fun x5 =>
  (ldA 199 v1 m3).bind fun x7 =>
  if x5 < x7 then
    c340_209 kl2 v1 m3
  else
    (ldA 195 v1 m3).bind fun x10 =>
    if v3 = x10 then
      c340_209 kl2 v1 m3
    else
      (f303 v1 (1 : Int32) m3).bind fun r13 =>
      (ldA 196 v1 r13).bind fun x15 =>
      (f303 x15 (1 : Int32) r13).bind fun r17 =>
      (f303 v2 (4 : Int32) r17).bind fun r19 =>
      (ldA 195 v1 r19).bind fun x21 =>
      (f303 x21 (1 : Int32) r19).bind fun r23 =>
      (f303 v3 (1 : Int32) r23).bind fun r25 =>
      (stA 195 v1 v3 r25).bind fun m27 =>
      (f305 (12 : Int32) (12 : Int32) m27).bind fun r29 =>
      if v3 < (4 : Int32) then
        c340_209 kl2 v1 r29
      else
        (ldA 200 v1 r29).bind fun x32 =>
        (f330 x32 v2 (0 : Int32) r29).bind fun r34 =>
        c340_209 kl2 v1 r34
theorem c340_104_ok {L : Nat} (kl2 : Int32 → Mem → Option (Mem)) (hk2 : (∀ (v1 : Int32) (μ : Mem) (res : Mem), kl2 v1 μ = some res → Sx 340 2 [(0, .ref 129), (1, .int v1)] [] 0 0 (mk L μ) (mk L res, none))) (v1 : Int32) (v2 : Int32) (v3 : Int32) (s1 : Int32) (s2 : Int32) (μ : Mem) (res : Mem) (h : c340_104 kl2 v1 v2 v3 s1 s2 μ = some res) : Sx 340 104 [(0, .ref 129), (1, .int v1), (2, .int v2), (3, .int v3)] [.int s2, .int s1, .ref 201] 0 0 (mk L μ) (mk L res, none) := by
  unfold c340_104 at h
  obtain ⟨m1, e2, h⟩ := Option.bind_eq_some_iff.mp h
  refine cx_iast k340_104 sk_201 e2 ?_
  refine sx_aload_n (i := 0) k340_105 rfl rfl ?_
  refine cx_getR (k := 127) k340_106 ow_340 fl_12_637 (by decide) sk_129 ft_11_127 sr_129_127 ?_
  refine sx_iload_n (i := 1) k340_109 rfl rfl ?_
  refine sx_iload_n (i := 3) k340_110 rfl rfl ?_
  obtain ⟨m3, e4, h⟩ := Option.bind_eq_some_iff.mp h
  refine cx_iast k340_111 sk_202 e4 ?_
  refine sx_aload_n (i := 0) k340_112 rfl rfl ?_
  refine cx_getR (k := 126) k340_113 ow_340 fl_12_634 (by decide) sk_129 ft_11_126 sr_129_126 ?_
  refine sx_iload_n (i := 1) k340_116 rfl rfl ?_
  obtain ⟨x5, e6, h⟩ := Option.bind_eq_some_iff.mp h
  refine cx_iald k340_117 sk_201 e6 ?_
  refine sx_aload_n (i := 0) k340_118 rfl rfl ?_
  refine cx_getR (k := 124) k340_119 ow_340 fl_12_628 (by decide) sk_129 ft_11_124 sr_129_124 ?_
  refine sx_iload_n (i := 1) k340_122 rfl rfl ?_
  obtain ⟨x7, e8, h⟩ := Option.bind_eq_some_iff.mp h
  refine cx_iald k340_123 sk_199 e8 ?_
  by_cases hb9 : x5 < x7
  · rw [if_pos hb9] at h
    refine sx_icmp_lt (tgt := 209) k340_124 (by decide) (fun _ => ?_) (fun q => absurd hb9 q)
    refine sx_pick (lo2 := [(0, .ref 129), (1, .int v1)]) [0, 1] rfl ?_
    exact c340_209_ok kl2 hk2 v1 _ _ h
  · rw [if_neg hb9] at h
    refine sx_icmp_lt (tgt := 209) k340_124 (by decide) (fun q => absurd q hb9) (fun _ => ?_)
    refine sx_iload_n (i := 3) k340_127 rfl rfl ?_
    refine sx_aload_n (i := 0) k340_128 rfl rfl ?_
    refine cx_getR (k := 120) k340_129 ow_340 fl_12_548 (by decide) sk_129 ft_11_120 sr_129_120 ?_
    refine sx_iload_n (i := 1) k340_132 rfl rfl ?_
    obtain ⟨x10, e11, h⟩ := Option.bind_eq_some_iff.mp h
    refine cx_iald k340_133 sk_195 e11 ?_
    by_cases hb12 : v3 = x10
    · rw [if_pos hb12] at h
      refine sx_icmp_eq (tgt := 209) k340_134 (by decide) (fun _ => ?_) (fun q => absurd hb12 q)
      refine sx_pick (lo2 := [(0, .ref 129), (1, .int v1)]) [0, 1] rfl ?_
      exact c340_209_ok kl2 hk2 v1 _ _ h
    · rw [if_neg hb12] at h
      refine sx_icmp_eq (tgt := 209) k340_134 (by decide) (fun q => absurd q hb12) (fun _ => ?_)
      refine sx_aload_n (i := 0) k340_137 rfl rfl ?_
      refine sx_iload_n (i := 1) k340_138 rfl rfl ?_
      refine sx_iconst (v := 1) k340_139 (by decide) ?_
      obtain ⟨r13, e14, h⟩ := Option.bind_eq_some_iff.mp h
      refine cx_V (sk := []) (vs := [.int v1, .int (1 : Int32)]) st_340_303 k340_140 ow_340 cl_12_501 (by decide) rfl (Nat.le_of_ble_eq_true rfl) sk_129 (ok303 v1 (1 : Int32) _ _ e14) (sk3 := []) rfl rfl ?_
      refine sx_aload_n (i := 0) k340_143 rfl rfl ?_
      refine sx_aload_n (i := 0) k340_144 rfl rfl ?_
      refine cx_getR (k := 121) k340_145 ow_340 fl_12_619 (by decide) sk_129 ft_11_121 sr_129_121 ?_
      refine sx_iload_n (i := 1) k340_148 rfl rfl ?_
      obtain ⟨x15, e16, h⟩ := Option.bind_eq_some_iff.mp h
      refine cx_iald k340_149 sk_196 e16 ?_
      refine sx_iconst (v := 1) k340_150 (by decide) ?_
      obtain ⟨r17, e18, h⟩ := Option.bind_eq_some_iff.mp h
      refine cx_V (sk := []) (vs := [.int x15, .int (1 : Int32)]) st_340_303 k340_151 ow_340 cl_12_501 (by decide) rfl (Nat.le_of_ble_eq_true rfl) sk_129 (ok303 x15 (1 : Int32) _ _ e18) (sk3 := []) rfl rfl ?_
      refine sx_aload_n (i := 0) k340_154 rfl rfl ?_
      refine sx_iload_n (i := 2) k340_155 rfl rfl ?_
      refine sx_iconst (v := 4) k340_156 (by decide) ?_
      obtain ⟨r19, e20, h⟩ := Option.bind_eq_some_iff.mp h
      refine cx_V (sk := []) (vs := [.int v2, .int (4 : Int32)]) st_340_303 k340_157 ow_340 cl_12_501 (by decide) rfl (Nat.le_of_ble_eq_true rfl) sk_129 (ok303 v2 (4 : Int32) _ _ e20) (sk3 := []) rfl rfl ?_
      refine sx_aload_n (i := 0) k340_160 rfl rfl ?_
      refine sx_aload_n (i := 0) k340_161 rfl rfl ?_
      refine cx_getR (k := 120) k340_162 ow_340 fl_12_548 (by decide) sk_129 ft_11_120 sr_129_120 ?_
      refine sx_iload_n (i := 1) k340_165 rfl rfl ?_
      obtain ⟨x21, e22, h⟩ := Option.bind_eq_some_iff.mp h
      refine cx_iald k340_166 sk_195 e22 ?_
      refine sx_iconst (v := 1) k340_167 (by decide) ?_
      obtain ⟨r23, e24, h⟩ := Option.bind_eq_some_iff.mp h
      refine cx_V (sk := []) (vs := [.int x21, .int (1 : Int32)]) st_340_303 k340_168 ow_340 cl_12_501 (by decide) rfl (Nat.le_of_ble_eq_true rfl) sk_129 (ok303 x21 (1 : Int32) _ _ e24) (sk3 := []) rfl rfl ?_
      refine sx_aload_n (i := 0) k340_171 rfl rfl ?_
      refine sx_iload_n (i := 3) k340_172 rfl rfl ?_
      refine sx_iconst (v := 1) k340_173 (by decide) ?_
      obtain ⟨r25, e26, h⟩ := Option.bind_eq_some_iff.mp h
      refine cx_V (sk := []) (vs := [.int v3, .int (1 : Int32)]) st_340_303 k340_174 ow_340 cl_12_501 (by decide) rfl (Nat.le_of_ble_eq_true rfl) sk_129 (ok303 v3 (1 : Int32) _ _ e26) (sk3 := []) rfl rfl ?_
      refine sx_aload_n (i := 0) k340_177 rfl rfl ?_
      refine cx_getR (k := 120) k340_178 ow_340 fl_12_548 (by decide) sk_129 ft_11_120 sr_129_120 ?_
      refine sx_iload_n (i := 1) k340_181 rfl rfl ?_
      refine sx_iload_n (i := 3) k340_182 rfl rfl ?_
      obtain ⟨m27, e28, h⟩ := Option.bind_eq_some_iff.mp h
      refine cx_iast k340_183 sk_195 e28 ?_
      refine sx_aload_n (i := 0) k340_184 rfl rfl ?_
      refine sx_bipush (v := 12) k340_185 (by decide) ?_
      refine sx_bipush (v := 12) k340_187 (by decide) ?_
      obtain ⟨r29, e30, h⟩ := Option.bind_eq_some_iff.mp h
      refine cx_V (sk := []) (vs := [.int (12 : Int32), .int (12 : Int32)]) st_340_305 k340_189 ow_340 cl_12_504 (by decide) rfl (Nat.le_of_ble_eq_true rfl) sk_129 (ok305 (12 : Int32) (12 : Int32) _ _ e30) (sk3 := []) rfl rfl ?_
      refine sx_iload_n (i := 3) k340_192 rfl rfl ?_
      refine sx_iconst (v := 4) k340_193 (by decide) ?_
      by_cases hb31 : v3 < (4 : Int32)
      · rw [if_pos hb31] at h
        refine sx_icmp_lt (tgt := 209) k340_194 (by decide) (fun _ => ?_) (fun q => absurd hb31 q)
        refine sx_pick (lo2 := [(0, .ref 129), (1, .int v1)]) [0, 1] rfl ?_
        exact c340_209_ok kl2 hk2 v1 _ _ h
      · rw [if_neg hb31] at h
        refine sx_icmp_lt (tgt := 209) k340_194 (by decide) (fun q => absurd q hb31) (fun _ => ?_)
        refine sx_aload_n (i := 0) k340_197 rfl rfl ?_
        refine sx_aload_n (i := 0) k340_198 rfl rfl ?_
        refine cx_getR (k := 125) k340_199 ow_340 fl_12_631 (by decide) sk_129 ft_11_125 sr_129_125 ?_
        refine sx_iload_n (i := 1) k340_202 rfl rfl ?_
        obtain ⟨x32, e33, h⟩ := Option.bind_eq_some_iff.mp h
        refine cx_iald k340_203 sk_200 e33 ?_
        refine sx_iload_n (i := 2) k340_204 rfl rfl ?_
        refine sx_iconst (v := 0) k340_205 (by decide) ?_
        obtain ⟨r34, e35, h⟩ := Option.bind_eq_some_iff.mp h
        refine cx_V (sk := []) (vs := [.int x32, .int v2, .int (0 : Int32)]) st_340_330 k340_206 ow_340 cl_12_574 (by decide) rfl (Nat.le_of_ble_eq_true rfl) sk_129 (ok330 x32 v2 (0 : Int32) _ _ e35) (sk3 := []) rfl rfl ?_
        refine sx_pick (lo2 := [(0, .ref 129), (1, .int v1)]) [0, 1] rfl ?_
        exact c340_209_ok kl2 hk2 v1 _ _ h
def c340_58 (kl2 : Int32 → Mem → Option (Mem)) (v1 : Int32) (v2 : Int32) (s0 : Int32) (μ : Mem) : Option (Mem) :=
  (ldA 202 v1 μ).bind fun x1 =>
  if s0 = x1 then
    (ldA 201 v1 μ).bind fun x4 =>
    if (255 : Int32) ≤ x4 then
      c340_104 kl2 v1 v2 s0 v1 (255 : Int32) μ
    else
      (ldA 201 v1 μ).bind fun x7 =>
      c340_104 kl2 v1 v2 s0 v1 (x7 + (1 : Int32)) μ
  else
    c340_104 kl2 v1 v2 s0 v1 (1 : Int32) μ
theorem c340_58_ok {L : Nat} (kl2 : Int32 → Mem → Option (Mem)) (hk2 : (∀ (v1 : Int32) (μ : Mem) (res : Mem), kl2 v1 μ = some res → Sx 340 2 [(0, .ref 129), (1, .int v1)] [] 0 0 (mk L μ) (mk L res, none))) (v1 : Int32) (v2 : Int32) (s0 : Int32) (μ : Mem) (res : Mem) (h : c340_58 kl2 v1 v2 s0 μ = some res) : Sx 340 58 [(0, .ref 129), (1, .int v1), (2, .int v2)] [.int s0] 0 0 (mk L μ) (mk L res, none) := by
  unfold c340_58 at h
  refine cx_istore_n (lo2 := [(3, .int s0), (0, .ref 129), (1, .int v1), (2, .int v2)]) k340_58 rfl (by rw [mx_340]; decide) rfl ?_
  refine sx_aload_n (i := 0) k340_59 rfl rfl ?_
  refine cx_getR (k := 126) k340_60 ow_340 fl_12_634 (by decide) sk_129 ft_11_126 sr_129_126 ?_
  refine sx_iload_n (i := 1) k340_63 rfl rfl ?_
  refine sx_iload_n (i := 3) k340_64 rfl rfl ?_
  refine sx_aload_n (i := 0) k340_65 rfl rfl ?_
  refine cx_getR (k := 127) k340_66 ow_340 fl_12_637 (by decide) sk_129 ft_11_127 sr_129_127 ?_
  refine sx_iload_n (i := 1) k340_69 rfl rfl ?_
  obtain ⟨x1, e2, h⟩ := Option.bind_eq_some_iff.mp h
  refine cx_iald k340_70 sk_202 e2 ?_
  by_cases hb3 : s0 = x1
  · rw [if_pos hb3] at h
    refine sx_icmp_eq (tgt := 78) k340_71 (by decide) (fun _ => ?_) (fun q => absurd hb3 q)
    refine sx_aload_n (i := 0) k340_78 rfl rfl ?_
    refine cx_getR (k := 126) k340_79 ow_340 fl_12_634 (by decide) sk_129 ft_11_126 sr_129_126 ?_
    refine sx_iload_n (i := 1) k340_82 rfl rfl ?_
    obtain ⟨x4, e5, h⟩ := Option.bind_eq_some_iff.mp h
    refine cx_iald k340_83 sk_201 e5 ?_
    refine sx_sipush (v := 255) k340_84 (by decide) ?_
    by_cases hb6 : (255 : Int32) ≤ x4
    · rw [if_pos hb6] at h
      refine sx_icmp_ge (tgt := 101) k340_87 (by decide) (fun _ => ?_) (fun q => absurd hb6 q)
      refine sx_sipush (v := 255) k340_101 (by decide) ?_
      refine sx_pick (lo2 := [(0, .ref 129), (1, .int v1), (2, .int v2), (3, .int s0)]) [1, 2, 3, 0] rfl ?_
      exact c340_104_ok kl2 hk2 v1 v2 s0 v1 (255 : Int32) _ _ h
    · rw [if_neg hb6] at h
      refine sx_icmp_ge (tgt := 101) k340_87 (by decide) (fun q => absurd q hb6) (fun _ => ?_)
      refine sx_aload_n (i := 0) k340_90 rfl rfl ?_
      refine cx_getR (k := 126) k340_91 ow_340 fl_12_634 (by decide) sk_129 ft_11_126 sr_129_126 ?_
      refine sx_iload_n (i := 1) k340_94 rfl rfl ?_
      obtain ⟨x7, e8, h⟩ := Option.bind_eq_some_iff.mp h
      refine cx_iald k340_95 sk_201 e8 ?_
      refine sx_iconst (v := 1) k340_96 (by decide) ?_
      refine sx_iadd k340_97 ?_
      refine sx_goto (tgt := 104) k340_98 (by decide) ?_
      refine sx_pick (lo2 := [(0, .ref 129), (1, .int v1), (2, .int v2), (3, .int s0)]) [1, 2, 3, 0] rfl ?_
      exact c340_104_ok kl2 hk2 v1 v2 s0 v1 (x7 + (1 : Int32)) _ _ h
  · rw [if_neg hb3] at h
    refine sx_icmp_eq (tgt := 78) k340_71 (by decide) (fun q => absurd q hb3) (fun _ => ?_)
    refine sx_iconst (v := 1) k340_74 (by decide) ?_
    refine sx_goto (tgt := 104) k340_75 (by decide) ?_
    refine sx_pick (lo2 := [(0, .ref 129), (1, .int v1), (2, .int v2), (3, .int s0)]) [1, 2, 3, 0] rfl ?_
    exact c340_104_ok kl2 hk2 v1 v2 s0 v1 (1 : Int32) _ _ h
def b340_2 (kl2 : Int32 → Mem → Option (Mem)) (v1 : Int32) (μ : Mem) : Option (Mem) :=
  if (6 : Int32) ≤ v1 then
    some μ
  else
    (ldA 195 v1 μ).bind fun x2 =>
    if x2 < (2 : Int32) then
      c340_209 kl2 v1 μ
    else
      (ldA 196 v1 μ).bind fun x5 =>
      (f304 x5 μ).bind fun r7 =>
      (ldA 197 v1 r7.1).bind fun x9 =>
      if x9 ≤ r7.2 then
        (ldA 198 v1 r7.1).bind fun x12 =>
        if r7.2 ≤ x12 then
          c340_58 kl2 v1 r7.2 (3 : Int32) r7.1
        else
          c340_58 kl2 v1 r7.2 (5 : Int32) r7.1
      else
        c340_58 kl2 v1 r7.2 (4 : Int32) r7.1
theorem b340_2_ok {L : Nat} (kl2 : Int32 → Mem → Option (Mem)) (hk2 : (∀ (v1 : Int32) (μ : Mem) (res : Mem), kl2 v1 μ = some res → Sx 340 2 [(0, .ref 129), (1, .int v1)] [] 0 0 (mk L μ) (mk L res, none))) (v1 : Int32) (μ : Mem) (res : Mem) (h : b340_2 kl2 v1 μ = some res) : Sx 340 2 [(0, .ref 129), (1, .int v1)] [] 0 0 (mk L μ) (mk L res, none) := by
  unfold b340_2 at h
  refine sx_iload_n (i := 1) k340_2 rfl rfl ?_
  refine sx_bipush (v := 6) k340_3 (by decide) ?_
  by_cases hb1 : (6 : Int32) ≤ v1
  · rw [if_pos hb1] at h
    refine sx_icmp_ge (tgt := 215) k340_5 (by decide) (fun _ => ?_) (fun q => absurd hb1 q)
    exact cx_retv k340_215 rt_340 h
  · rw [if_neg hb1] at h
    refine sx_icmp_ge (tgt := 215) k340_5 (by decide) (fun q => absurd q hb1) (fun _ => ?_)
    refine sx_aload_n (i := 0) k340_8 rfl rfl ?_
    refine cx_getR (k := 120) k340_9 ow_340 fl_12_548 (by decide) sk_129 ft_11_120 sr_129_120 ?_
    refine sx_iload_n (i := 1) k340_12 rfl rfl ?_
    obtain ⟨x2, e3, h⟩ := Option.bind_eq_some_iff.mp h
    refine cx_iald k340_13 sk_195 e3 ?_
    refine sx_iconst (v := 2) k340_14 (by decide) ?_
    by_cases hb4 : x2 < (2 : Int32)
    · rw [if_pos hb4] at h
      refine sx_icmp_lt (tgt := 209) k340_15 (by decide) (fun _ => ?_) (fun q => absurd hb4 q)
      refine sx_pick (lo2 := [(0, .ref 129), (1, .int v1)]) [0, 1] rfl ?_
      exact c340_209_ok kl2 hk2 v1 _ _ h
    · rw [if_neg hb4] at h
      refine sx_icmp_lt (tgt := 209) k340_15 (by decide) (fun q => absurd q hb4) (fun _ => ?_)
      refine sx_aload_n (i := 0) k340_18 rfl rfl ?_
      refine sx_aload_n (i := 0) k340_19 rfl rfl ?_
      refine cx_getR (k := 121) k340_20 ow_340 fl_12_619 (by decide) sk_129 ft_11_121 sr_129_121 ?_
      refine sx_iload_n (i := 1) k340_23 rfl rfl ?_
      obtain ⟨x5, e6, h⟩ := Option.bind_eq_some_iff.mp h
      refine cx_iald k340_24 sk_196 e6 ?_
      obtain ⟨r7, e8, h⟩ := Option.bind_eq_some_iff.mp h
      refine cx_V (sk := []) (vs := [.int x5]) st_340_304 k340_25 ow_340 cl_12_589 (by decide) rfl (Nat.le_of_ble_eq_true rfl) sk_129 (ok304 x5 _ _ e8) (sk3 := [.int r7.2]) rfl rfl ?_
      refine cx_istore_n (lo2 := [(2, .int r7.2), (0, .ref 129), (1, .int v1)]) k340_28 rfl (by rw [mx_340]; decide) rfl ?_
      refine sx_iload_n (i := 2) k340_29 rfl rfl ?_
      refine sx_aload_n (i := 0) k340_30 rfl rfl ?_
      refine cx_getR (k := 122) k340_31 ow_340 fl_12_622 (by decide) sk_129 ft_11_122 sr_129_122 ?_
      refine sx_iload_n (i := 1) k340_34 rfl rfl ?_
      obtain ⟨x9, e10, h⟩ := Option.bind_eq_some_iff.mp h
      refine cx_iald k340_35 sk_197 e10 ?_
      by_cases hb11 : x9 ≤ r7.2
      · rw [if_pos hb11] at h
        refine sx_icmp_ge (tgt := 43) k340_36 (by decide) (fun _ => ?_) (fun q => absurd hb11 q)
        refine sx_iload_n (i := 2) k340_43 rfl rfl ?_
        refine sx_aload_n (i := 0) k340_44 rfl rfl ?_
        refine cx_getR (k := 123) k340_45 ow_340 fl_12_625 (by decide) sk_129 ft_11_123 sr_129_123 ?_
        refine sx_iload_n (i := 1) k340_48 rfl rfl ?_
        obtain ⟨x12, e13, h⟩ := Option.bind_eq_some_iff.mp h
        refine cx_iald k340_49 sk_198 e13 ?_
        by_cases hb14 : r7.2 ≤ x12
        · rw [if_pos hb14] at h
          refine sx_icmp_le (tgt := 57) k340_50 (by decide) (fun _ => ?_) (fun q => absurd hb14 q)
          refine sx_iconst (v := 3) k340_57 (by decide) ?_
          refine sx_pick (lo2 := [(0, .ref 129), (1, .int v1), (2, .int r7.2)]) [1, 2, 0] rfl ?_
          exact c340_58_ok kl2 hk2 v1 r7.2 (3 : Int32) _ _ h
        · rw [if_neg hb14] at h
          refine sx_icmp_le (tgt := 57) k340_50 (by decide) (fun q => absurd q hb14) (fun _ => ?_)
          refine sx_iconst (v := 5) k340_53 (by decide) ?_
          refine sx_goto (tgt := 58) k340_54 (by decide) ?_
          refine sx_pick (lo2 := [(0, .ref 129), (1, .int v1), (2, .int r7.2)]) [1, 2, 0] rfl ?_
          exact c340_58_ok kl2 hk2 v1 r7.2 (5 : Int32) _ _ h
      · rw [if_neg hb11] at h
        refine sx_icmp_ge (tgt := 43) k340_36 (by decide) (fun q => absurd q hb11) (fun _ => ?_)
        refine sx_iconst (v := 4) k340_39 (by decide) ?_
        refine sx_goto (tgt := 58) k340_40 (by decide) ?_
        refine sx_pick (lo2 := [(0, .ref 129), (1, .int v1), (2, .int r7.2)]) [1, 2, 0] rfl ?_
        exact c340_58_ok kl2 hk2 v1 r7.2 (4 : Int32) _ _ h
def l340_2 : Nat → Int32 × Mem → Option (Mem) :=
  fixN (fun self x => b340_2 (fun v1 μ => self (v1, μ)) (x.1) (x.2))
theorem l340_2_ok {L : Nat} (n : Nat) (v1 : Int32) (μ : Mem) (res : Mem) (h : l340_2 n (v1, μ) = some res) : Sx 340 2 [(0, .ref 129), (1, .int v1)] [] 0 0 (mk L μ) (mk L res, none) := by
  have key := fixN_ind (P := fun x res => Sx 340 2 [(0, .ref 129), (1, .int (x.1))] [] 0 0 (mk L (x.2)) (mk L res, none)) (F := fun self x => b340_2 (fun v1 μ => self (v1, μ)) (x.1) (x.2)) (fun self hself x res h => b340_2_ok (fun v1 μ => self (v1, μ)) (fun v1 μ res hh => hself (v1, μ) res hh) (x.1) (x.2) res h) n (v1, μ) res h
  exact key
/-- CraftHouseModel.watchesTick()V -/
def f340 (μ : Mem) : Option (Mem) :=
  l340_2 gF ((0 : Int32), μ)
theorem ok340 {L : Nat} (μ : Mem) (res : Mem) (h : f340 μ = some res) : Mx 340 [.ref 129] (mk L μ) (mk L res, none) := by
  refine Mx_of ml_340 (by rw [mx_340]; exact Nat.le_of_ble_eq_true rfl) ?_
  show Sx 340 0 [(0, .ref 129)] [] 0 0 (mk L μ) _
  unfold f340 at h
  refine sx_iconst (v := 0) k340_0 (by decide) ?_
  refine cx_istore_n (lo2 := [(1, .int (0 : Int32)), (0, .ref 129)]) k340_1 rfl (by rw [mx_340]; decide) rfl ?_
  refine sx_pick (lo2 := [(0, .ref 129), (1, .int (0 : Int32))]) [1, 0] rfl ?_
  exact l340_2_ok gF (0 : Int32) _ _ h
theorem k342_0 : decode (gb 342) 0 = .ok (.aload_n 0, 1) := by decide +kernel
theorem k342_1 : decode (gb 342) 1 = .ok (.getfield 685, 3) := by decide +kernel
theorem k342_4 : decode (gb 342) 4 = .ok (.iload_n 1, 1) := by decide +kernel
theorem k342_5 : decode (gb 342) 5 = .ok (.iaload, 1) := by decide +kernel
theorem k342_6 : decode (gb 342) 6 = .ok (.aload_n 0, 1) := by decide +kernel
theorem k342_7 : decode (gb 342) 7 = .ok (.getfield 688, 3) := by decide +kernel
theorem k342_10 : decode (gb 342) 10 = .ok (.iload_n 1, 1) := by decide +kernel
theorem k342_11 : decode (gb 342) 11 = .ok (.iaload, 1) := by decide +kernel
theorem k342_12 : decode (gb 342) 12 = .ok (.if_icmp .ge 7, 3) := by decide +kernel
theorem k342_15 : decode (gb 342) 15 = .ok (.iconst 1, 1) := by decide +kernel
theorem k342_16 : decode (gb 342) 16 = .ok (.goto 4, 3) := by decide +kernel
theorem k342_19 : decode (gb 342) 19 = .ok (.iconst 0, 1) := by decide +kernel
theorem k342_20 : decode (gb 342) 20 = .ok (.ireturn, 1) := by decide +kernel
/-- CraftHouseModel.isLeft(I)Z -/
def f342 (p1 : Int32) (μ : Mem) : Option (Mem × Int32) :=
  (ldA 210 p1 μ).bind fun x1 =>
  (ldA 209 p1 μ).bind fun x3 =>
  if x3 ≤ x1 then
    rtZ (0 : Int32) μ
  else
    rtZ (1 : Int32) μ
theorem ok342 {L : Nat} (p1 : Int32) (μ : Mem) (res : Mem × Int32) (h : f342 p1 μ = some res) : Mx 342 [.ref 129, .int p1] (mk L μ) (mk L res.1, some (.int res.2)) := by
  refine Mx_of ml_342 (by rw [mx_342]; exact Nat.le_of_ble_eq_true rfl) ?_
  show Sx 342 0 [(0, .ref 129), (1, .int p1)] [] 0 0 (mk L μ) _
  unfold f342 at h
  refine sx_aload_n (i := 0) k342_0 rfl rfl ?_
  refine cx_getR (k := 137) k342_1 ow_342 fl_12_685 (by decide) sk_129 ft_11_137 sr_129_137 ?_
  refine sx_iload_n (i := 1) k342_4 rfl rfl ?_
  obtain ⟨x1, e2, h⟩ := Option.bind_eq_some_iff.mp h
  refine cx_iald k342_5 sk_210 e2 ?_
  refine sx_aload_n (i := 0) k342_6 rfl rfl ?_
  refine cx_getR (k := 136) k342_7 ow_342 fl_12_688 (by decide) sk_129 ft_11_136 sr_129_136 ?_
  refine sx_iload_n (i := 1) k342_10 rfl rfl ?_
  obtain ⟨x3, e4, h⟩ := Option.bind_eq_some_iff.mp h
  refine cx_iald k342_11 sk_209 e4 ?_
  by_cases hb5 : x3 ≤ x1
  · rw [if_pos hb5] at h
    refine sx_icmp_ge (tgt := 19) k342_12 (by decide) (fun _ => ?_) (fun q => absurd hb5 q)
    refine sx_iconst (v := 0) k342_19 (by decide) ?_
    exact cx_retz k342_20 rt_342 h
  · rw [if_neg hb5] at h
    refine sx_icmp_ge (tgt := 19) k342_12 (by decide) (fun q => absurd q hb5) (fun _ => ?_)
    refine sx_iconst (v := 1) k342_15 (by decide) ?_
    refine sx_goto (tgt := 20) k342_16 (by decide) ?_
    exact cx_retz k342_20 rt_342 h
theorem k343_0 : decode (gb 343) 0 = .ok (.iload_n 1, 1) := by decide +kernel
theorem k343_1 : decode (gb 343) 1 = .ok (.ifCond .ne 10, 3) := by decide +kernel
theorem k343_4 : decode (gb 343) 4 = .ok (.aload_n 0, 1) := by decide +kernel
theorem k343_5 : decode (gb 343) 5 = .ok (.getfield 426, 3) := by decide +kernel
theorem k343_8 : decode (gb 343) 8 = .ok (.goto 7, 3) := by decide +kernel
theorem k343_11 : decode (gb 343) 11 = .ok (.aload_n 0, 1) := by decide +kernel
theorem k343_12 : decode (gb 343) 12 = .ok (.getfield 559, 3) := by decide +kernel
theorem k343_15 : decode (gb 343) 15 = .ok (.ifCond .gt 20, 3) := by decide +kernel
theorem k343_18 : decode (gb 343) 18 = .ok (.aload_n 0, 1) := by decide +kernel
theorem k343_19 : decode (gb 343) 19 = .ok (.iload_n 1, 1) := by decide +kernel
theorem k343_20 : decode (gb 343) 20 = .ok (.invokevirtual 691, 3) := by decide +kernel
theorem k343_23 : decode (gb 343) 23 = .ok (.ifCond .eq 16, 3) := by decide +kernel
theorem k343_26 : decode (gb 343) 26 = .ok (.aload_n 0, 1) := by decide +kernel
theorem k343_27 : decode (gb 343) 27 = .ok (.getfield 694, 3) := by decide +kernel
theorem k343_30 : decode (gb 343) 30 = .ok (.iload_n 1, 1) := by decide +kernel
theorem k343_31 : decode (gb 343) 31 = .ok (.baload, 1) := by decide +kernel
theorem k343_32 : decode (gb 343) 32 = .ok (.ifCond .ne 7, 3) := by decide +kernel
theorem k343_35 : decode (gb 343) 35 = .ok (.iconst 1, 1) := by decide +kernel
theorem k343_36 : decode (gb 343) 36 = .ok (.goto 4, 3) := by decide +kernel
theorem k343_39 : decode (gb 343) 39 = .ok (.iconst 0, 1) := by decide +kernel
theorem k343_40 : decode (gb 343) 40 = .ok (.ireturn, 1) := by decide +kernel
def c343_35 (μ : Mem) : Option (Mem × Int32) :=
  rtZ (1 : Int32) μ
theorem c343_35_ok {L : Nat} (μ : Mem) (res : Mem × Int32) (h : c343_35 μ = some res) : Sx 343 35 [] [] 0 0 (mk L μ) (mk L res.1, some (.int res.2)) := by
  unfold c343_35 at h
  refine sx_iconst (v := 1) k343_35 (by decide) ?_
  refine sx_goto (tgt := 40) k343_36 (by decide) ?_
  exact cx_retz k343_40 rt_343 h
def c343_15 (v1 : Int32) (s0 : Int32) (μ : Mem) : Option (Mem × Int32) :=
  if 0 < s0 then
    c343_35 μ
  else
    (f342 v1 μ).bind fun r2 =>
    if r2.2 = 0 then
      rtZ (0 : Int32) r2.1
    else
      (ldA 211 v1 r2.1).bind fun x5 =>
      if x5 = 0 then
        c343_35 r2.1
      else
        rtZ (0 : Int32) r2.1
theorem c343_15_ok {L : Nat} (v1 : Int32) (s0 : Int32) (μ : Mem) (res : Mem × Int32) (h : c343_15 v1 s0 μ = some res) : Sx 343 15 [(0, .ref 129), (1, .int v1)] [.int s0] 0 0 (mk L μ) (mk L res.1, some (.int res.2)) := by
  unfold c343_15 at h
  by_cases hb1 : 0 < s0
  · rw [if_pos hb1] at h
    refine sx_if_gt (tgt := 35) k343_15 (by decide) (fun _ => ?_) (fun q => absurd hb1 q)
    refine sx_pick (lo2 := []) [] rfl ?_
    exact c343_35_ok _ _ h
  · rw [if_neg hb1] at h
    refine sx_if_gt (tgt := 35) k343_15 (by decide) (fun q => absurd q hb1) (fun _ => ?_)
    refine sx_aload_n (i := 0) k343_18 rfl rfl ?_
    refine sx_iload_n (i := 1) k343_19 rfl rfl ?_
    obtain ⟨r2, e3, h⟩ := Option.bind_eq_some_iff.mp h
    refine cx_V (sk := []) (vs := [.int v1]) st_343_342 k343_20 ow_343 cl_12_691 (by decide) rfl (Nat.le_of_ble_eq_true rfl) sk_129 (ok342 v1 _ _ e3) (sk3 := [.int r2.2]) rfl rfl ?_
    by_cases hb4 : r2.2 = 0
    · rw [if_pos hb4] at h
      refine sx_if_eq (tgt := 39) k343_23 (by decide) (fun _ => ?_) (fun q => absurd hb4 q)
      refine sx_iconst (v := 0) k343_39 (by decide) ?_
      exact cx_retz k343_40 rt_343 h
    · rw [if_neg hb4] at h
      refine sx_if_eq (tgt := 39) k343_23 (by decide) (fun q => absurd q hb4) (fun _ => ?_)
      refine sx_aload_n (i := 0) k343_26 rfl rfl ?_
      refine cx_getR (k := 138) k343_27 ow_343 fl_12_694 (by decide) sk_129 ft_11_138 sr_129_138 ?_
      refine sx_iload_n (i := 1) k343_30 rfl rfl ?_
      obtain ⟨x5, e6, h⟩ := Option.bind_eq_some_iff.mp h
      refine cx_bald k343_31 (Or.inr sk_211) e6 ?_
      by_cases hb7 : x5 = 0
      · rw [if_pos hb7] at h
        refine sx_if_ne (tgt := 39) k343_32 (by decide) (fun q => absurd hb7 q) (fun _ => ?_)
        refine sx_pick (lo2 := []) [] rfl ?_
        exact c343_35_ok _ _ h
      · rw [if_neg hb7] at h
        refine sx_if_ne (tgt := 39) k343_32 (by decide) (fun _ => ?_) (fun q => absurd q hb7)
        refine sx_iconst (v := 0) k343_39 (by decide) ?_
        exact cx_retz k343_40 rt_343 h
/-- CraftHouseModel.wants(I)Z -/
def f343 (p1 : Int32) (μ : Mem) : Option (Mem × Int32) :=
  if p1 = 0 then
    c343_15 p1 (μ.1 129 86) μ
  else
    c343_15 p1 (μ.1 129 90) μ
theorem ok343 {L : Nat} (p1 : Int32) (μ : Mem) (res : Mem × Int32) (h : f343 p1 μ = some res) : Mx 343 [.ref 129, .int p1] (mk L μ) (mk L res.1, some (.int res.2)) := by
  refine Mx_of ml_343 (by rw [mx_343]; exact Nat.le_of_ble_eq_true rfl) ?_
  show Sx 343 0 [(0, .ref 129), (1, .int p1)] [] 0 0 (mk L μ) _
  unfold f343 at h
  refine sx_iload_n (i := 1) k343_0 rfl rfl ?_
  by_cases hb1 : p1 = 0
  · rw [if_pos hb1] at h
    refine sx_if_ne (tgt := 11) k343_1 (by decide) (fun q => absurd hb1 q) (fun _ => ?_)
    refine sx_aload_n (i := 0) k343_4 rfl rfl ?_
    refine cx_getI (k := 86) k343_5 ow_343 fl_12_426 (by decide) sk_129 ft_11_86 ?_
    refine sx_goto (tgt := 15) k343_8 (by decide) ?_
    refine sx_pick (lo2 := [(0, .ref 129), (1, .int p1)]) [0, 1] rfl ?_
    exact c343_15_ok p1 (μ.1 129 86) _ _ h
  · rw [if_neg hb1] at h
    refine sx_if_ne (tgt := 11) k343_1 (by decide) (fun _ => ?_) (fun q => absurd q hb1)
    refine sx_aload_n (i := 0) k343_11 rfl rfl ?_
    refine cx_getI (k := 90) k343_12 ow_343 fl_12_559 (by decide) sk_129 ft_11_90 ?_
    refine sx_pick (lo2 := [(0, .ref 129), (1, .int p1)]) [0, 1] rfl ?_
    exact c343_15_ok p1 (μ.1 129 90) _ _ h
theorem k344_0 : decode (gb 344) 0 = .ok (.bipush 100, 2) := by decide +kernel
theorem k344_2 : decode (gb 344) 2 = .ok (.iload_n 1, 1) := by decide +kernel
theorem k344_3 : decode (gb 344) 3 = .ok (.imul, 1) := by decide +kernel
theorem k344_4 : decode (gb 344) 4 = .ok (.istore_n 3, 1) := by decide +kernel
theorem k344_5 : decode (gb 344) 5 = .ok (.aload_n 0, 1) := by decide +kernel
theorem k344_6 : decode (gb 344) 6 = .ok (.getfield 685, 3) := by decide +kernel
theorem k344_9 : decode (gb 344) 9 = .ok (.iload_n 1, 1) := by decide +kernel
theorem k344_10 : decode (gb 344) 10 = .ok (.iconst 0, 1) := by decide +kernel
theorem k344_11 : decode (gb 344) 11 = .ok (.iastore, 1) := by decide +kernel
theorem k344_12 : decode (gb 344) 12 = .ok (.iload_n 1, 1) := by decide +kernel
theorem k344_13 : decode (gb 344) 13 = .ok (.ifCond .ne 10, 3) := by decide +kernel
theorem k344_16 : decode (gb 344) 16 = .ok (.aload_n 0, 1) := by decide +kernel
theorem k344_17 : decode (gb 344) 17 = .ok (.getfield 432, 3) := by decide +kernel
theorem k344_20 : decode (gb 344) 20 = .ok (.goto 7, 3) := by decide +kernel
theorem k344_23 : decode (gb 344) 23 = .ok (.aload_n 0, 1) := by decide +kernel
theorem k344_24 : decode (gb 344) 24 = .ok (.getfield 664, 3) := by decide +kernel
theorem k344_27 : decode (gb 344) 27 = .ok (.astore 4, 2) := by decide +kernel
theorem k344_29 : decode (gb 344) 29 = .ok (.iload_n 1, 1) := by decide +kernel
theorem k344_30 : decode (gb 344) 30 = .ok (.ifCond .ne 10, 3) := by decide +kernel
theorem k344_33 : decode (gb 344) 33 = .ok (.aload_n 0, 1) := by decide +kernel
theorem k344_34 : decode (gb 344) 34 = .ok (.getfield 435, 3) := by decide +kernel
theorem k344_37 : decode (gb 344) 37 = .ok (.goto 7, 3) := by decide +kernel
theorem k344_40 : decode (gb 344) 40 = .ok (.aload_n 0, 1) := by decide +kernel
theorem k344_41 : decode (gb 344) 41 = .ok (.getfield 661, 3) := by decide +kernel
theorem k344_44 : decode (gb 344) 44 = .ok (.astore 5, 2) := by decide +kernel
theorem k344_46 : decode (gb 344) 46 = .ok (.iload_n 1, 1) := by decide +kernel
theorem k344_47 : decode (gb 344) 47 = .ok (.ifCond .ne 10, 3) := by decide +kernel
theorem k344_50 : decode (gb 344) 50 = .ok (.aload_n 0, 1) := by decide +kernel
theorem k344_51 : decode (gb 344) 51 = .ok (.getfield 426, 3) := by decide +kernel
theorem k344_54 : decode (gb 344) 54 = .ok (.goto 7, 3) := by decide +kernel
theorem k344_57 : decode (gb 344) 57 = .ok (.aload_n 0, 1) := by decide +kernel
theorem k344_58 : decode (gb 344) 58 = .ok (.getfield 559, 3) := by decide +kernel
theorem k344_61 : decode (gb 344) 61 = .ok (.istore 6, 2) := by decide +kernel
theorem k344_63 : decode (gb 344) 63 = .ok (.aload_n 0, 1) := by decide +kernel
theorem k344_64 : decode (gb 344) 64 = .ok (.getfield 694, 3) := by decide +kernel
theorem k344_67 : decode (gb 344) 67 = .ok (.iload_n 1, 1) := by decide +kernel
theorem k344_68 : decode (gb 344) 68 = .ok (.iload 6, 2) := by decide +kernel
theorem k344_70 : decode (gb 344) 70 = .ok (.ifCond .ne 7, 3) := by decide +kernel
theorem k344_73 : decode (gb 344) 73 = .ok (.iconst 1, 1) := by decide +kernel
theorem k344_74 : decode (gb 344) 74 = .ok (.goto 4, 3) := by decide +kernel
theorem k344_77 : decode (gb 344) 77 = .ok (.iconst 0, 1) := by decide +kernel
theorem k344_78 : decode (gb 344) 78 = .ok (.bastore, 1) := by decide +kernel
theorem k344_79 : decode (gb 344) 79 = .ok (.iload 6, 2) := by decide +kernel
theorem k344_81 : decode (gb 344) 81 = .ok (.ifCond .ne 95, 3) := by decide +kernel
theorem k344_84 : decode (gb 344) 84 = .ok (.iload_n 2, 1) := by decide +kernel
theorem k344_85 : decode (gb 344) 85 = .ok (.bipush 7, 2) := by decide +kernel
theorem k344_87 : decode (gb 344) 87 = .ok (.if_icmp .ge 8, 3) := by decide +kernel
theorem k344_90 : decode (gb 344) 90 = .ok (.bipush 7, 2) := by decide +kernel
theorem k344_92 : decode (gb 344) 92 = .ok (.goto 4, 3) := by decide +kernel
theorem k344_95 : decode (gb 344) 95 = .ok (.iload_n 2, 1) := by decide +kernel
theorem k344_96 : decode (gb 344) 96 = .ok (.istore 7, 2) := by decide +kernel
theorem k344_98 : decode (gb 344) 98 = .ok (.aload_n 0, 1) := by decide +kernel
theorem k344_99 : decode (gb 344) 99 = .ok (.getfield 688, 3) := by decide +kernel
theorem k344_102 : decode (gb 344) 102 = .ok (.iload_n 1, 1) := by decide +kernel
theorem k344_103 : decode (gb 344) 103 = .ok (.iload 7, 2) := by decide +kernel
theorem k344_105 : decode (gb 344) 105 = .ok (.iastore, 1) := by decide +kernel
theorem k344_106 : decode (gb 344) 106 = .ok (.iconst 0, 1) := by decide +kernel
theorem k344_107 : decode (gb 344) 107 = .ok (.istore 8, 2) := by decide +kernel
theorem k344_109 : decode (gb 344) 109 = .ok (.iload 8, 2) := by decide +kernel
theorem k344_111 : decode (gb 344) 111 = .ok (.iload 7, 2) := by decide +kernel
theorem k344_113 : decode (gb 344) 113 = .ok (.if_icmp .ge 19, 3) := by decide +kernel
theorem k344_116 : decode (gb 344) 116 = .ok (.aload_n 0, 1) := by decide +kernel
theorem k344_117 : decode (gb 344) 117 = .ok (.getfield 697, 3) := by decide +kernel
theorem k344_120 : decode (gb 344) 120 = .ok (.iload_n 3, 1) := by decide +kernel
theorem k344_121 : decode (gb 344) 121 = .ok (.iload 8, 2) := by decide +kernel
theorem k344_123 : decode (gb 344) 123 = .ok (.iadd, 1) := by decide +kernel
theorem k344_124 : decode (gb 344) 124 = .ok (.iconst 0, 1) := by decide +kernel
theorem k344_125 : decode (gb 344) 125 = .ok (.iastore, 1) := by decide +kernel
theorem k344_126 : decode (gb 344) 126 = .ok (.iinc 8 1, 3) := by decide +kernel
theorem k344_129 : decode (gb 344) 129 = .ok (.goto (-20), 3) := by decide +kernel
theorem k344_132 : decode (gb 344) 132 = .ok (.aload_n 0, 1) := by decide +kernel
theorem k344_133 : decode (gb 344) 133 = .ok (.getfield 697, 3) := by decide +kernel
theorem k344_136 : decode (gb 344) 136 = .ok (.iload_n 3, 1) := by decide +kernel
theorem k344_137 : decode (gb 344) 137 = .ok (.bipush 7, 2) := by decide +kernel
theorem k344_139 : decode (gb 344) 139 = .ok (.iastore, 1) := by decide +kernel
theorem k344_140 : decode (gb 344) 140 = .ok (.aload_n 0, 1) := by decide +kernel
theorem k344_141 : decode (gb 344) 141 = .ok (.getfield 697, 3) := by decide +kernel
theorem k344_144 : decode (gb 344) 144 = .ok (.iload_n 3, 1) := by decide +kernel
theorem k344_145 : decode (gb 344) 145 = .ok (.iconst 1, 1) := by decide +kernel
theorem k344_146 : decode (gb 344) 146 = .ok (.iadd, 1) := by decide +kernel
theorem k344_147 : decode (gb 344) 147 = .ok (.sipush 255, 3) := by decide +kernel
theorem k344_150 : decode (gb 344) 150 = .ok (.iastore, 1) := by decide +kernel
theorem k344_151 : decode (gb 344) 151 = .ok (.aload_n 0, 1) := by decide +kernel
theorem k344_152 : decode (gb 344) 152 = .ok (.getfield 697, 3) := by decide +kernel
theorem k344_155 : decode (gb 344) 155 = .ok (.iload_n 3, 1) := by decide +kernel
theorem k344_156 : decode (gb 344) 156 = .ok (.iconst 2, 1) := by decide +kernel
theorem k344_157 : decode (gb 344) 157 = .ok (.iadd, 1) := by decide +kernel
theorem k344_158 : decode (gb 344) 158 = .ok (.sipush 192, 3) := by decide +kernel
theorem k344_161 : decode (gb 344) 161 = .ok (.iastore, 1) := by decide +kernel
theorem k344_162 : decode (gb 344) 162 = .ok (.aload_n 0, 1) := by decide +kernel
theorem k344_163 : decode (gb 344) 163 = .ok (.getfield 697, 3) := by decide +kernel
theorem k344_166 : decode (gb 344) 166 = .ok (.iload_n 3, 1) := by decide +kernel
theorem k344_167 : decode (gb 344) 167 = .ok (.iconst 5, 1) := by decide +kernel
theorem k344_168 : decode (gb 344) 168 = .ok (.iadd, 1) := by decide +kernel
theorem k344_169 : decode (gb 344) 169 = .ok (.iload 7, 2) := by decide +kernel
theorem k344_171 : decode (gb 344) 171 = .ok (.bipush 7, 2) := by decide +kernel
theorem k344_173 : decode (gb 344) 173 = .ok (.isub, 1) := by decide +kernel
theorem k344_174 : decode (gb 344) 174 = .ok (.iastore, 1) := by decide +kernel
theorem k344_175 : decode (gb 344) 175 = .ok (.return_, 1) := by decide +kernel
theorem k344_176 : decode (gb 344) 176 = .ok (.aload_n 0, 1) := by decide +kernel
theorem k344_177 : decode (gb 344) 177 = .ok (.getfield 688, 3) := by decide +kernel
theorem k344_180 : decode (gb 344) 180 = .ok (.iload_n 1, 1) := by decide +kernel
theorem k344_181 : decode (gb 344) 181 = .ok (.aload 5, 2) := by decide +kernel
theorem k344_183 : decode (gb 344) 183 = .ok (.iconst 0, 1) := by decide +kernel
theorem k344_184 : decode (gb 344) 184 = .ok (.iaload, 1) := by decide +kernel
theorem k344_185 : decode (gb 344) 185 = .ok (.iastore, 1) := by decide +kernel
theorem k344_186 : decode (gb 344) 186 = .ok (.aload 4, 2) := by decide +kernel
theorem k344_188 : decode (gb 344) 188 = .ok (.iconst 0, 1) := by decide +kernel
theorem k344_189 : decode (gb 344) 189 = .ok (.aload_n 0, 1) := by decide +kernel
theorem k344_190 : decode (gb 344) 190 = .ok (.getfield 697, 3) := by decide +kernel
theorem k344_193 : decode (gb 344) 193 = .ok (.iload_n 3, 1) := by decide +kernel
theorem k344_194 : decode (gb 344) 194 = .ok (.aload 5, 2) := by decide +kernel
theorem k344_196 : decode (gb 344) 196 = .ok (.iconst 0, 1) := by decide +kernel
theorem k344_197 : decode (gb 344) 197 = .ok (.iaload, 1) := by decide +kernel
theorem k344_198 : decode (gb 344) 198 = .ok (.invokestatic 228, 3) := by decide +kernel
theorem k344_201 : decode (gb 344) 201 = .ok (.iconst 1, 1) := by decide +kernel
theorem k344_202 : decode (gb 344) 202 = .ok (.istore 7, 2) := by decide +kernel
theorem k344_204 : decode (gb 344) 204 = .ok (.iload 7, 2) := by decide +kernel
theorem k344_206 : decode (gb 344) 206 = .ok (.iload 6, 2) := by decide +kernel
theorem k344_208 : decode (gb 344) 208 = .ok (.if_icmp .ge 45, 3) := by decide +kernel
theorem k344_211 : decode (gb 344) 211 = .ok (.aload 5, 2) := by decide +kernel
theorem k344_213 : decode (gb 344) 213 = .ok (.iload 7, 2) := by decide +kernel
theorem k344_215 : decode (gb 344) 215 = .ok (.iconst 1, 1) := by decide +kernel
theorem k344_216 : decode (gb 344) 216 = .ok (.isub, 1) := by decide +kernel
theorem k344_217 : decode (gb 344) 217 = .ok (.aload 5, 2) := by decide +kernel
theorem k344_219 : decode (gb 344) 219 = .ok (.iload 7, 2) := by decide +kernel
theorem k344_221 : decode (gb 344) 221 = .ok (.iaload, 1) := by decide +kernel
theorem k344_222 : decode (gb 344) 222 = .ok (.iastore, 1) := by decide +kernel
theorem k344_223 : decode (gb 344) 223 = .ok (.aload 4, 2) := by decide +kernel
theorem k344_225 : decode (gb 344) 225 = .ok (.bipush 100, 2) := by decide +kernel
theorem k344_227 : decode (gb 344) 227 = .ok (.iload 7, 2) := by decide +kernel
theorem k344_229 : decode (gb 344) 229 = .ok (.imul, 1) := by decide +kernel
theorem k344_230 : decode (gb 344) 230 = .ok (.aload 4, 2) := by decide +kernel
theorem k344_232 : decode (gb 344) 232 = .ok (.bipush 100, 2) := by decide +kernel
theorem k344_234 : decode (gb 344) 234 = .ok (.iload 7, 2) := by decide +kernel
theorem k344_236 : decode (gb 344) 236 = .ok (.iconst 1, 1) := by decide +kernel
theorem k344_237 : decode (gb 344) 237 = .ok (.isub, 1) := by decide +kernel
theorem k344_238 : decode (gb 344) 238 = .ok (.imul, 1) := by decide +kernel
theorem k344_239 : decode (gb 344) 239 = .ok (.aload 5, 2) := by decide +kernel
theorem k344_241 : decode (gb 344) 241 = .ok (.iload 7, 2) := by decide +kernel
theorem k344_243 : decode (gb 344) 243 = .ok (.iaload, 1) := by decide +kernel
theorem k344_244 : decode (gb 344) 244 = .ok (.invokestatic 228, 3) := by decide +kernel
theorem k344_247 : decode (gb 344) 247 = .ok (.iinc 7 1, 3) := by decide +kernel
theorem k344_250 : decode (gb 344) 250 = .ok (.goto (-46), 3) := by decide +kernel
theorem k344_253 : decode (gb 344) 253 = .ok (.iload_n 1, 1) := by decide +kernel
theorem k344_254 : decode (gb 344) 254 = .ok (.ifCond .ne 16, 3) := by decide +kernel
theorem k344_257 : decode (gb 344) 257 = .ok (.aload_n 0, 1) := by decide +kernel
theorem k344_258 : decode (gb 344) 258 = .ok (.dup, 1) := by decide +kernel
theorem k344_259 : decode (gb 344) 259 = .ok (.getfield 426, 3) := by decide +kernel
theorem k344_262 : decode (gb 344) 262 = .ok (.iconst 1, 1) := by decide +kernel
theorem k344_263 : decode (gb 344) 263 = .ok (.isub, 1) := by decide +kernel
theorem k344_264 : decode (gb 344) 264 = .ok (.putfield 426, 3) := by decide +kernel
theorem k344_267 : decode (gb 344) 267 = .ok (.goto 13, 3) := by decide +kernel
theorem k344_270 : decode (gb 344) 270 = .ok (.aload_n 0, 1) := by decide +kernel
theorem k344_271 : decode (gb 344) 271 = .ok (.dup, 1) := by decide +kernel
theorem k344_272 : decode (gb 344) 272 = .ok (.getfield 559, 3) := by decide +kernel
theorem k344_275 : decode (gb 344) 275 = .ok (.iconst 1, 1) := by decide +kernel
theorem k344_276 : decode (gb 344) 276 = .ok (.isub, 1) := by decide +kernel
theorem k344_277 : decode (gb 344) 277 = .ok (.putfield 559, 3) := by decide +kernel
theorem k344_280 : decode (gb 344) 280 = .ok (.return_, 1) := by decide +kernel
def b344_109 (kl109 : Int32 → Int32 → Int32 → Mem → Option (Mem)) (v3 : Int32) (v7 : Int32) (v8 : Int32) (μ : Mem) : Option (Mem) :=
  if v7 ≤ v8 then
    (stA 208 v3 (7 : Int32) μ).bind fun m2 =>
    (stA 208 (v3 + (1 : Int32)) (255 : Int32) m2).bind fun m4 =>
    (stA 208 (v3 + (2 : Int32)) (192 : Int32) m4).bind fun m6 =>
    (stA 208 (v3 + (5 : Int32)) (v7 - (7 : Int32)) m6).bind fun m8 =>
    some m8
  else
    (stA 208 (v3 + v8) (0 : Int32) μ).bind fun m10 =>
    nm (v8 + (1 : Int32)) fun x12 =>
    kl109 v3 v7 x12 m10
theorem b344_109_ok {L : Nat} (kl109 : Int32 → Int32 → Int32 → Mem → Option (Mem)) (hk109 : (∀ (v3 : Int32) (v7 : Int32) (v8 : Int32) (μ : Mem) (res : Mem), kl109 v3 v7 v8 μ = some res → Sx 344 109 [(0, .ref 129), (3, .int v3), (7, .int v7), (8, .int v8)] [] 0 0 (mk L μ) (mk L res, none))) (v3 : Int32) (v7 : Int32) (v8 : Int32) (μ : Mem) (res : Mem) (h : b344_109 kl109 v3 v7 v8 μ = some res) : Sx 344 109 [(0, .ref 129), (3, .int v3), (7, .int v7), (8, .int v8)] [] 0 0 (mk L μ) (mk L res, none) := by
  unfold b344_109 at h
  refine sx_iload k344_109 rfl ?_
  refine sx_iload k344_111 rfl ?_
  by_cases hb1 : v7 ≤ v8
  · rw [if_pos hb1] at h
    refine sx_icmp_ge (tgt := 132) k344_113 (by decide) (fun _ => ?_) (fun q => absurd hb1 q)
    refine sx_aload_n (i := 0) k344_132 rfl rfl ?_
    refine cx_getR (k := 135) k344_133 ow_344 fl_12_697 (by decide) sk_129 ft_11_135 sr_129_135 ?_
    refine sx_iload_n (i := 3) k344_136 rfl rfl ?_
    refine sx_bipush (v := 7) k344_137 (by decide) ?_
    obtain ⟨m2, e3, h⟩ := Option.bind_eq_some_iff.mp h
    refine cx_iast k344_139 sk_208 e3 ?_
    refine sx_aload_n (i := 0) k344_140 rfl rfl ?_
    refine cx_getR (k := 135) k344_141 ow_344 fl_12_697 (by decide) sk_129 ft_11_135 sr_129_135 ?_
    refine sx_iload_n (i := 3) k344_144 rfl rfl ?_
    refine sx_iconst (v := 1) k344_145 (by decide) ?_
    refine sx_iadd k344_146 ?_
    refine sx_sipush (v := 255) k344_147 (by decide) ?_
    obtain ⟨m4, e5, h⟩ := Option.bind_eq_some_iff.mp h
    refine cx_iast k344_150 sk_208 e5 ?_
    refine sx_aload_n (i := 0) k344_151 rfl rfl ?_
    refine cx_getR (k := 135) k344_152 ow_344 fl_12_697 (by decide) sk_129 ft_11_135 sr_129_135 ?_
    refine sx_iload_n (i := 3) k344_155 rfl rfl ?_
    refine sx_iconst (v := 2) k344_156 (by decide) ?_
    refine sx_iadd k344_157 ?_
    refine sx_sipush (v := 192) k344_158 (by decide) ?_
    obtain ⟨m6, e7, h⟩ := Option.bind_eq_some_iff.mp h
    refine cx_iast k344_161 sk_208 e7 ?_
    refine sx_aload_n (i := 0) k344_162 rfl rfl ?_
    refine cx_getR (k := 135) k344_163 ow_344 fl_12_697 (by decide) sk_129 ft_11_135 sr_129_135 ?_
    refine sx_iload_n (i := 3) k344_166 rfl rfl ?_
    refine sx_iconst (v := 5) k344_167 (by decide) ?_
    refine sx_iadd k344_168 ?_
    refine sx_iload k344_169 rfl ?_
    refine sx_bipush (v := 7) k344_171 (by decide) ?_
    refine sx_isub k344_173 ?_
    obtain ⟨m8, e9, h⟩ := Option.bind_eq_some_iff.mp h
    refine cx_iast k344_174 sk_208 e9 ?_
    exact cx_retv k344_175 rt_344 h
  · rw [if_neg hb1] at h
    refine sx_icmp_ge (tgt := 132) k344_113 (by decide) (fun q => absurd q hb1) (fun _ => ?_)
    refine sx_aload_n (i := 0) k344_116 rfl rfl ?_
    refine cx_getR (k := 135) k344_117 ow_344 fl_12_697 (by decide) sk_129 ft_11_135 sr_129_135 ?_
    refine sx_iload_n (i := 3) k344_120 rfl rfl ?_
    refine sx_iload k344_121 rfl ?_
    refine sx_iadd k344_123 ?_
    refine sx_iconst (v := 0) k344_124 (by decide) ?_
    obtain ⟨m10, e11, h⟩ := Option.bind_eq_some_iff.mp h
    refine cx_iast k344_125 sk_208 e11 ?_
    refine cx_iinc (c := 1) (lo2 := fun x12 => [(8, .int x12), (0, .ref 129), (3, .int v3), (7, .int v7)]) k344_126 rfl (by decide) (by rw [mx_344]; decide) (fun _ => rfl) h (fun x12 h => ?_)
    refine sx_goto (tgt := 109) k344_129 (by decide) ?_
    refine sx_pick (lo2 := [(0, .ref 129), (3, .int v3), (7, .int v7), (8, .int x12)]) [1, 2, 3, 0] rfl ?_
    exact hk109 v3 v7 x12 _ _ h
def l344_109 : Nat → Int32 × Int32 × Int32 × Mem → Option (Mem) :=
  fixN (fun self x => b344_109 (fun v3 v7 v8 μ => self (v3, v7, v8, μ)) (x.1) (x.2.1) (x.2.2.1) (x.2.2.2))
theorem l344_109_ok {L : Nat} (n : Nat) (v3 : Int32) (v7 : Int32) (v8 : Int32) (μ : Mem) (res : Mem) (h : l344_109 n (v3, v7, v8, μ) = some res) : Sx 344 109 [(0, .ref 129), (3, .int v3), (7, .int v7), (8, .int v8)] [] 0 0 (mk L μ) (mk L res, none) := by
  have key := fixN_ind (P := fun x res => Sx 344 109 [(0, .ref 129), (3, .int (x.1)), (7, .int (x.2.1)), (8, .int (x.2.2.1))] [] 0 0 (mk L (x.2.2.2)) (mk L res, none)) (F := fun self x => b344_109 (fun v3 v7 v8 μ => self (v3, v7, v8, μ)) (x.1) (x.2.1) (x.2.2.1) (x.2.2.2)) (fun self hself x res h => b344_109_ok (fun v3 v7 v8 μ => self (v3, v7, v8, μ)) (fun v3 v7 v8 μ res hh => hself (v3, v7, v8, μ) res hh) (x.1) (x.2.1) (x.2.2.1) (x.2.2.2) res h) n (v3, v7, v8, μ) res h
  exact key
def c344_96 (v1 : Int32) (v3 : Int32) (s0 : Int32) (μ : Mem) : Option (Mem) :=
  (stA 209 v1 s0 μ).bind fun m1 =>
  l344_109 gF (v3, s0, (0 : Int32), m1)
theorem c344_96_ok {L : Nat} (v1 : Int32) (v3 : Int32) (s0 : Int32) (μ : Mem) (res : Mem) (h : c344_96 v1 v3 s0 μ = some res) : Sx 344 96 [(0, .ref 129), (1, .int v1), (3, .int v3)] [.int s0] 0 0 (mk L μ) (mk L res, none) := by
  unfold c344_96 at h
  refine cx_istore (lo2 := [(7, .int s0), (0, .ref 129), (1, .int v1), (3, .int v3)]) k344_96 (by rw [mx_344]; decide) rfl ?_
  refine sx_aload_n (i := 0) k344_98 rfl rfl ?_
  refine cx_getR (k := 136) k344_99 ow_344 fl_12_688 (by decide) sk_129 ft_11_136 sr_129_136 ?_
  refine sx_iload_n (i := 1) k344_102 rfl rfl ?_
  refine sx_iload k344_103 rfl ?_
  obtain ⟨m1, e2, h⟩ := Option.bind_eq_some_iff.mp h
  refine cx_iast k344_105 sk_209 e2 ?_
  refine sx_iconst (v := 0) k344_106 (by decide) ?_
  refine cx_istore (lo2 := [(8, .int (0 : Int32)), (7, .int s0), (0, .ref 129), (1, .int v1), (3, .int v3)]) k344_107 (by rw [mx_344]; decide) rfl ?_
  refine sx_pick (lo2 := [(0, .ref 129), (3, .int v3), (7, .int s0), (8, .int (0 : Int32))]) [2, 4, 1, 0] rfl ?_
  exact l344_109_ok gF v3 s0 (0 : Int32) _ _ h
def b344_204 (kl204 : Int32 → Nat → Nat → Int32 → Int32 → Mem → Option (Mem)) (v1 : Int32) (q4 : Nat) (q5 : Nat) (v6 : Int32) (v7 : Int32) (μ : Mem) : Option (Mem) :=
  if v6 ≤ v7 then
    if v1 = 0 then
      (pfI 129 86 ((μ.1 129 86) - (1 : Int32)) μ).bind fun m5 =>
      some m5
    else
      (pfI 129 90 ((μ.1 129 90) - (1 : Int32)) μ).bind fun m3 =>
      some m3
  else
    (ldA q5 v7 μ).bind fun x7 =>
    (stA q5 (v7 - (1 : Int32)) x7 μ).bind fun m9 =>
    (ldA q5 v7 m9).bind fun x11 =>
    (f273 q4 ((100 : Int32) * v7) q4 ((100 : Int32) * (v7 - (1 : Int32))) x11 m9).bind fun r13 =>
    nm (v7 + (1 : Int32)) fun x15 =>
    kl204 v1 q4 q5 v6 x15 r13
theorem b344_204_ok {L : Nat} (kl204 : Int32 → Nat → Nat → Int32 → Int32 → Mem → Option (Mem)) (hk204 : (∀ (v1 : Int32) (q4 : Nat) (q5 : Nat) (v6 : Int32) (v7 : Int32) (hq4 : SK0 q4 = (1, gln q4)) (hq5 : SK0 q5 = (1, gln q5)) (μ : Mem) (res : Mem), kl204 v1 q4 q5 v6 v7 μ = some res → Sx 344 204 [(0, .ref 129), (1, .int v1), (4, .ref q4), (5, .ref q5), (6, .int v6), (7, .int v7)] [] 0 0 (mk L μ) (mk L res, none))) (v1 : Int32) (q4 : Nat) (q5 : Nat) (v6 : Int32) (v7 : Int32) (hq4 : SK0 q4 = (1, gln q4)) (hq5 : SK0 q5 = (1, gln q5)) (μ : Mem) (res : Mem) (h : b344_204 kl204 v1 q4 q5 v6 v7 μ = some res) : Sx 344 204 [(0, .ref 129), (1, .int v1), (4, .ref q4), (5, .ref q5), (6, .int v6), (7, .int v7)] [] 0 0 (mk L μ) (mk L res, none) := by
  unfold b344_204 at h
  refine sx_iload k344_204 rfl ?_
  refine sx_iload k344_206 rfl ?_
  by_cases hb1 : v6 ≤ v7
  · rw [if_pos hb1] at h
    refine sx_icmp_ge (tgt := 253) k344_208 (by decide) (fun _ => ?_) (fun q => absurd hb1 q)
    refine sx_iload_n (i := 1) k344_253 rfl rfl ?_
    by_cases hb2 : v1 = 0
    · rw [if_pos hb2] at h
      refine sx_if_ne (tgt := 270) k344_254 (by decide) (fun q => absurd hb2 q) (fun _ => ?_)
      refine sx_aload_n (i := 0) k344_257 rfl rfl ?_
      refine sx_dup k344_258 rfl ?_
      refine cx_getI (k := 86) k344_259 ow_344 fl_12_426 (by decide) sk_129 ft_11_86 ?_
      refine sx_iconst (v := 1) k344_262 (by decide) ?_
      refine sx_isub k344_263 ?_
      obtain ⟨m5, e6, h⟩ := Option.bind_eq_some_iff.mp h
      refine cx_putI (k := 86) k344_264 ow_344 fl_12_426 (by decide) sk_129 nf_11_86 fu_11_86 e6 ?_
      refine sx_goto (tgt := 280) k344_267 (by decide) ?_
      exact cx_retv k344_280 rt_344 h
    · rw [if_neg hb2] at h
      refine sx_if_ne (tgt := 270) k344_254 (by decide) (fun _ => ?_) (fun q => absurd q hb2)
      refine sx_aload_n (i := 0) k344_270 rfl rfl ?_
      refine sx_dup k344_271 rfl ?_
      refine cx_getI (k := 90) k344_272 ow_344 fl_12_559 (by decide) sk_129 ft_11_90 ?_
      refine sx_iconst (v := 1) k344_275 (by decide) ?_
      refine sx_isub k344_276 ?_
      obtain ⟨m3, e4, h⟩ := Option.bind_eq_some_iff.mp h
      refine cx_putI (k := 90) k344_277 ow_344 fl_12_559 (by decide) sk_129 nf_11_90 fu_11_90 e4 ?_
      exact cx_retv k344_280 rt_344 h
  · rw [if_neg hb1] at h
    refine sx_icmp_ge (tgt := 253) k344_208 (by decide) (fun q => absurd q hb1) (fun _ => ?_)
    refine sx_aload k344_211 rfl ?_
    refine sx_iload k344_213 rfl ?_
    refine sx_iconst (v := 1) k344_215 (by decide) ?_
    refine sx_isub k344_216 ?_
    refine sx_aload k344_217 rfl ?_
    refine sx_iload k344_219 rfl ?_
    obtain ⟨x7, e8, h⟩ := Option.bind_eq_some_iff.mp h
    refine cx_iald k344_221 hq5 e8 ?_
    obtain ⟨m9, e10, h⟩ := Option.bind_eq_some_iff.mp h
    refine cx_iast k344_222 hq5 e10 ?_
    refine sx_aload k344_223 rfl ?_
    refine sx_bipush (v := 100) k344_225 (by decide) ?_
    refine sx_iload k344_227 rfl ?_
    refine sx_imul k344_229 ?_
    refine sx_aload k344_230 rfl ?_
    refine sx_bipush (v := 100) k344_232 (by decide) ?_
    refine sx_iload k344_234 rfl ?_
    refine sx_iconst (v := 1) k344_236 (by decide) ?_
    refine sx_isub k344_237 ?_
    refine sx_imul k344_238 ?_
    refine sx_aload k344_239 rfl ?_
    refine sx_iload k344_241 rfl ?_
    obtain ⟨x11, e12, h⟩ := Option.bind_eq_some_iff.mp h
    refine cx_iald k344_243 hq5 e12 ?_
    obtain ⟨r13, e14, h⟩ := Option.bind_eq_some_iff.mp h
    refine cx_S (sk := []) (vs := [.ref q4, .int ((100 : Int32) * v7), .ref q4, .int ((100 : Int32) * (v7 - (1 : Int32))), .int x11]) st_344_273 k344_244 ow_344 cl_12_228 (by decide) rfl (Nat.le_of_ble_eq_true rfl) (ok273 q4 ((100 : Int32) * v7) q4 ((100 : Int32) * (v7 - (1 : Int32))) x11 hq4 hq4 _ _ e14) (sk3 := []) rfl rfl ?_
    refine cx_iinc (c := 1) (lo2 := fun x15 => [(7, .int x15), (0, .ref 129), (1, .int v1), (4, .ref q4), (5, .ref q5), (6, .int v6)]) k344_247 rfl (by decide) (by rw [mx_344]; decide) (fun _ => rfl) h (fun x15 h => ?_)
    refine sx_goto (tgt := 204) k344_250 (by decide) ?_
    refine sx_pick (lo2 := [(0, .ref 129), (1, .int v1), (4, .ref q4), (5, .ref q5), (6, .int v6), (7, .int x15)]) [1, 2, 3, 4, 5, 0] rfl ?_
    exact hk204 v1 q4 q5 v6 x15 hq4 hq5 _ _ h
def l344_204 : Nat → Int32 × Nat × Nat × Int32 × Int32 × Mem → Option (Mem) :=
  fixN (fun self x => b344_204 (fun v1 q4 q5 v6 v7 μ => self (v1, q4, q5, v6, v7, μ)) (x.1) (x.2.1) (x.2.2.1) (x.2.2.2.1) (x.2.2.2.2.1) (x.2.2.2.2.2))
theorem l344_204_ok {L : Nat} (n : Nat) (v1 : Int32) (q4 : Nat) (q5 : Nat) (v6 : Int32) (v7 : Int32) (hq4 : SK0 q4 = (1, gln q4)) (hq5 : SK0 q5 = (1, gln q5)) (μ : Mem) (res : Mem) (h : l344_204 n (v1, q4, q5, v6, v7, μ) = some res) : Sx 344 204 [(0, .ref 129), (1, .int v1), (4, .ref q4), (5, .ref q5), (6, .int v6), (7, .int v7)] [] 0 0 (mk L μ) (mk L res, none) := by
  have key := fixN_ind (P := fun x res => SK0 (x.2.1) = (1, gln (x.2.1)) → SK0 (x.2.2.1) = (1, gln (x.2.2.1)) → Sx 344 204 [(0, .ref 129), (1, .int (x.1)), (4, .ref (x.2.1)), (5, .ref (x.2.2.1)), (6, .int (x.2.2.2.1)), (7, .int (x.2.2.2.2.1))] [] 0 0 (mk L (x.2.2.2.2.2)) (mk L res, none)) (F := fun self x => b344_204 (fun v1 q4 q5 v6 v7 μ => self (v1, q4, q5, v6, v7, μ)) (x.1) (x.2.1) (x.2.2.1) (x.2.2.2.1) (x.2.2.2.2.1) (x.2.2.2.2.2)) (fun self hself x res h hq4 hq5 => b344_204_ok (fun v1 q4 q5 v6 v7 μ => self (v1, q4, q5, v6, v7, μ)) (fun v1 q4 q5 v6 v7 hq4 hq5 μ res hh => hself (v1, q4, q5, v6, v7, μ) res hh hq4 hq5) (x.1) (x.2.1) (x.2.2.1) (x.2.2.2.1) (x.2.2.2.2.1) hq4 hq5 (x.2.2.2.2.2) res h) n (v1, q4, q5, v6, v7, μ) res h hq4 hq5
  exact key
def c344_78 (v1 : Int32) (v2 : Int32) (v3 : Int32) (q4 : Nat) (q5 : Nat) (v6 : Int32) (s1 : Int32) (s2 : Int32) (μ : Mem) : Option (Mem) :=
  (stZ 211 s1 s2 μ).bind fun m1 =>
  if v6 = 0 then
    if (7 : Int32) ≤ v2 then
      c344_96 v1 v3 v2 m1
    else
      c344_96 v1 v3 (7 : Int32) m1
  else
    (ldA q5 (0 : Int32) m1).bind fun x4 =>
    (stA 209 v1 x4 m1).bind fun m6 =>
    (ldA q5 (0 : Int32) m6).bind fun x8 =>
    (f273 q4 (0 : Int32) 208 v3 x8 m6).bind fun r10 =>
    l344_204 gF (v1, q4, q5, v6, (1 : Int32), r10)
theorem c344_78_ok {L : Nat} (v1 : Int32) (v2 : Int32) (v3 : Int32) (q4 : Nat) (q5 : Nat) (v6 : Int32) (s1 : Int32) (s2 : Int32) (hq4 : SK0 q4 = (1, gln q4)) (hq5 : SK0 q5 = (1, gln q5)) (μ : Mem) (res : Mem) (h : c344_78 v1 v2 v3 q4 q5 v6 s1 s2 μ = some res) : Sx 344 78 [(0, .ref 129), (1, .int v1), (2, .int v2), (3, .int v3), (4, .ref q4), (5, .ref q5), (6, .int v6)] [.int s2, .int s1, .ref 211] 0 0 (mk L μ) (mk L res, none) := by
  unfold c344_78 at h
  obtain ⟨m1, e2, h⟩ := Option.bind_eq_some_iff.mp h
  refine cx_zast k344_78 sk_211 e2 ?_
  refine sx_iload k344_79 rfl ?_
  by_cases hb3 : v6 = 0
  · rw [if_pos hb3] at h
    refine sx_if_ne (tgt := 176) k344_81 (by decide) (fun q => absurd hb3 q) (fun _ => ?_)
    refine sx_iload_n (i := 2) k344_84 rfl rfl ?_
    refine sx_bipush (v := 7) k344_85 (by decide) ?_
    by_cases hb12 : (7 : Int32) ≤ v2
    · rw [if_pos hb12] at h
      refine sx_icmp_ge (tgt := 95) k344_87 (by decide) (fun _ => ?_) (fun q => absurd hb12 q)
      refine sx_iload_n (i := 2) k344_95 rfl rfl ?_
      refine sx_pick (lo2 := [(0, .ref 129), (1, .int v1), (3, .int v3)]) [0, 1, 3] rfl ?_
      exact c344_96_ok v1 v3 v2 _ _ h
    · rw [if_neg hb12] at h
      refine sx_icmp_ge (tgt := 95) k344_87 (by decide) (fun q => absurd q hb12) (fun _ => ?_)
      refine sx_bipush (v := 7) k344_90 (by decide) ?_
      refine sx_goto (tgt := 96) k344_92 (by decide) ?_
      refine sx_pick (lo2 := [(0, .ref 129), (1, .int v1), (3, .int v3)]) [0, 1, 3] rfl ?_
      exact c344_96_ok v1 v3 (7 : Int32) _ _ h
  · rw [if_neg hb3] at h
    refine sx_if_ne (tgt := 176) k344_81 (by decide) (fun _ => ?_) (fun q => absurd q hb3)
    refine sx_aload_n (i := 0) k344_176 rfl rfl ?_
    refine cx_getR (k := 136) k344_177 ow_344 fl_12_688 (by decide) sk_129 ft_11_136 sr_129_136 ?_
    refine sx_iload_n (i := 1) k344_180 rfl rfl ?_
    refine sx_aload k344_181 rfl ?_
    refine sx_iconst (v := 0) k344_183 (by decide) ?_
    obtain ⟨x4, e5, h⟩ := Option.bind_eq_some_iff.mp h
    refine cx_iald k344_184 hq5 e5 ?_
    obtain ⟨m6, e7, h⟩ := Option.bind_eq_some_iff.mp h
    refine cx_iast k344_185 sk_209 e7 ?_
    refine sx_aload k344_186 rfl ?_
    refine sx_iconst (v := 0) k344_188 (by decide) ?_
    refine sx_aload_n (i := 0) k344_189 rfl rfl ?_
    refine cx_getR (k := 135) k344_190 ow_344 fl_12_697 (by decide) sk_129 ft_11_135 sr_129_135 ?_
    refine sx_iload_n (i := 3) k344_193 rfl rfl ?_
    refine sx_aload k344_194 rfl ?_
    refine sx_iconst (v := 0) k344_196 (by decide) ?_
    obtain ⟨x8, e9, h⟩ := Option.bind_eq_some_iff.mp h
    refine cx_iald k344_197 hq5 e9 ?_
    obtain ⟨r10, e11, h⟩ := Option.bind_eq_some_iff.mp h
    refine cx_S (sk := []) (vs := [.ref q4, .int (0 : Int32), .ref 208, .int v3, .int x8]) st_344_273 k344_198 ow_344 cl_12_228 (by decide) rfl (Nat.le_of_ble_eq_true rfl) (ok273 q4 (0 : Int32) 208 v3 x8 hq4 sk_208 _ _ e11) (sk3 := []) rfl rfl ?_
    refine sx_iconst (v := 1) k344_201 (by decide) ?_
    refine cx_istore (lo2 := [(7, .int (1 : Int32)), (0, .ref 129), (1, .int v1), (2, .int v2), (3, .int v3), (4, .ref q4), (5, .ref q5), (6, .int v6)]) k344_202 (by rw [mx_344]; decide) rfl ?_
    refine sx_pick (lo2 := [(0, .ref 129), (1, .int v1), (4, .ref q4), (5, .ref q5), (6, .int v6), (7, .int (1 : Int32))]) [1, 2, 5, 6, 7, 0] rfl ?_
    exact l344_204_ok gF v1 q4 q5 v6 (1 : Int32) hq4 hq5 _ _ h
def c344_61 (v1 : Int32) (v2 : Int32) (v3 : Int32) (q4 : Nat) (q5 : Nat) (s0 : Int32) (μ : Mem) : Option (Mem) :=
  if s0 = 0 then
    c344_78 v1 v2 v3 q4 q5 s0 v1 (1 : Int32) μ
  else
    c344_78 v1 v2 v3 q4 q5 s0 v1 (0 : Int32) μ
theorem c344_61_ok {L : Nat} (v1 : Int32) (v2 : Int32) (v3 : Int32) (q4 : Nat) (q5 : Nat) (s0 : Int32) (hq4 : SK0 q4 = (1, gln q4)) (hq5 : SK0 q5 = (1, gln q5)) (μ : Mem) (res : Mem) (h : c344_61 v1 v2 v3 q4 q5 s0 μ = some res) : Sx 344 61 [(0, .ref 129), (1, .int v1), (2, .int v2), (3, .int v3), (4, .ref q4), (5, .ref q5)] [.int s0] 0 0 (mk L μ) (mk L res, none) := by
  unfold c344_61 at h
  refine cx_istore (lo2 := [(6, .int s0), (0, .ref 129), (1, .int v1), (2, .int v2), (3, .int v3), (4, .ref q4), (5, .ref q5)]) k344_61 (by rw [mx_344]; decide) rfl ?_
  refine sx_aload_n (i := 0) k344_63 rfl rfl ?_
  refine cx_getR (k := 138) k344_64 ow_344 fl_12_694 (by decide) sk_129 ft_11_138 sr_129_138 ?_
  refine sx_iload_n (i := 1) k344_67 rfl rfl ?_
  refine sx_iload k344_68 rfl ?_
  by_cases hb1 : s0 = 0
  · rw [if_pos hb1] at h
    refine sx_if_ne (tgt := 77) k344_70 (by decide) (fun q => absurd hb1 q) (fun _ => ?_)
    refine sx_iconst (v := 1) k344_73 (by decide) ?_
    refine sx_goto (tgt := 78) k344_74 (by decide) ?_
    refine sx_pick (lo2 := [(0, .ref 129), (1, .int v1), (2, .int v2), (3, .int v3), (4, .ref q4), (5, .ref q5), (6, .int s0)]) [1, 2, 3, 4, 5, 6, 0] rfl ?_
    exact c344_78_ok v1 v2 v3 q4 q5 s0 v1 (1 : Int32) hq4 hq5 _ _ h
  · rw [if_neg hb1] at h
    refine sx_if_ne (tgt := 77) k344_70 (by decide) (fun _ => ?_) (fun q => absurd q hb1)
    refine sx_iconst (v := 0) k344_77 (by decide) ?_
    refine sx_pick (lo2 := [(0, .ref 129), (1, .int v1), (2, .int v2), (3, .int v3), (4, .ref q4), (5, .ref q5), (6, .int s0)]) [1, 2, 3, 4, 5, 6, 0] rfl ?_
    exact c344_78_ok v1 v2 v3 q4 q5 s0 v1 (0 : Int32) hq4 hq5 _ _ h
def c344_44 (v1 : Int32) (v2 : Int32) (v3 : Int32) (q4 : Nat) (t0 : Nat) (μ : Mem) : Option (Mem) :=
  if v1 = 0 then
    c344_61 v1 v2 v3 q4 t0 (μ.1 129 86) μ
  else
    c344_61 v1 v2 v3 q4 t0 (μ.1 129 90) μ
theorem c344_44_ok {L : Nat} (v1 : Int32) (v2 : Int32) (v3 : Int32) (q4 : Nat) (t0 : Nat) (hq4 : SK0 q4 = (1, gln q4)) (ht0 : SK0 t0 = (1, gln t0)) (μ : Mem) (res : Mem) (h : c344_44 v1 v2 v3 q4 t0 μ = some res) : Sx 344 44 [(0, .ref 129), (1, .int v1), (2, .int v2), (3, .int v3), (4, .ref q4)] [.ref t0] 0 0 (mk L μ) (mk L res, none) := by
  unfold c344_44 at h
  refine cx_astore (lo2 := [(5, .ref t0), (0, .ref 129), (1, .int v1), (2, .int v2), (3, .int v3), (4, .ref q4)]) k344_44 (by rw [mx_344]; decide) rfl ?_
  refine sx_iload_n (i := 1) k344_46 rfl rfl ?_
  by_cases hb1 : v1 = 0
  · rw [if_pos hb1] at h
    refine sx_if_ne (tgt := 57) k344_47 (by decide) (fun q => absurd hb1 q) (fun _ => ?_)
    refine sx_aload_n (i := 0) k344_50 rfl rfl ?_
    refine cx_getI (k := 86) k344_51 ow_344 fl_12_426 (by decide) sk_129 ft_11_86 ?_
    refine sx_goto (tgt := 61) k344_54 (by decide) ?_
    refine sx_pick (lo2 := [(0, .ref 129), (1, .int v1), (2, .int v2), (3, .int v3), (4, .ref q4), (5, .ref t0)]) [1, 2, 3, 4, 5, 0] rfl ?_
    exact c344_61_ok v1 v2 v3 q4 t0 (μ.1 129 86) hq4 ht0 _ _ h
  · rw [if_neg hb1] at h
    refine sx_if_ne (tgt := 57) k344_47 (by decide) (fun _ => ?_) (fun q => absurd q hb1)
    refine sx_aload_n (i := 0) k344_57 rfl rfl ?_
    refine cx_getI (k := 90) k344_58 ow_344 fl_12_559 (by decide) sk_129 ft_11_90 ?_
    refine sx_pick (lo2 := [(0, .ref 129), (1, .int v1), (2, .int v2), (3, .int v3), (4, .ref q4), (5, .ref t0)]) [1, 2, 3, 4, 5, 0] rfl ?_
    exact c344_61_ok v1 v2 v3 q4 t0 (μ.1 129 90) hq4 ht0 _ _ h
def c344_27 (v1 : Int32) (v2 : Int32) (v3 : Int32) (t0 : Nat) (μ : Mem) : Option (Mem) :=
  if v1 = 0 then
    c344_44 v1 v2 v3 t0 166 μ
  else
    c344_44 v1 v2 v3 t0 168 μ
theorem c344_27_ok {L : Nat} (v1 : Int32) (v2 : Int32) (v3 : Int32) (t0 : Nat) (ht0 : SK0 t0 = (1, gln t0)) (μ : Mem) (res : Mem) (h : c344_27 v1 v2 v3 t0 μ = some res) : Sx 344 27 [(0, .ref 129), (1, .int v1), (2, .int v2), (3, .int v3)] [.ref t0] 0 0 (mk L μ) (mk L res, none) := by
  unfold c344_27 at h
  refine cx_astore (lo2 := [(4, .ref t0), (0, .ref 129), (1, .int v1), (2, .int v2), (3, .int v3)]) k344_27 (by rw [mx_344]; decide) rfl ?_
  refine sx_iload_n (i := 1) k344_29 rfl rfl ?_
  by_cases hb1 : v1 = 0
  · rw [if_pos hb1] at h
    refine sx_if_ne (tgt := 40) k344_30 (by decide) (fun q => absurd hb1 q) (fun _ => ?_)
    refine sx_aload_n (i := 0) k344_33 rfl rfl ?_
    refine cx_getR (k := 85) k344_34 ow_344 fl_12_435 (by decide) sk_129 ft_11_85 sr_129_85 ?_
    refine sx_goto (tgt := 44) k344_37 (by decide) ?_
    refine sx_pick (lo2 := [(0, .ref 129), (1, .int v1), (2, .int v2), (3, .int v3), (4, .ref t0)]) [1, 2, 3, 4, 0] rfl ?_
    exact c344_44_ok v1 v2 v3 t0 166 ht0 sk_166 _ _ h
  · rw [if_neg hb1] at h
    refine sx_if_ne (tgt := 40) k344_30 (by decide) (fun _ => ?_) (fun q => absurd q hb1)
    refine sx_aload_n (i := 0) k344_40 rfl rfl ?_
    refine cx_getR (k := 89) k344_41 ow_344 fl_12_661 (by decide) sk_129 ft_11_89 sr_129_89 ?_
    refine sx_pick (lo2 := [(0, .ref 129), (1, .int v1), (2, .int v2), (3, .int v3), (4, .ref t0)]) [1, 2, 3, 4, 0] rfl ?_
    exact c344_44_ok v1 v2 v3 t0 168 ht0 sk_168 _ _ h
/-- CraftHouseModel.beginPacket(II)V -/
def f344 (p1 : Int32) (p2 : Int32) (μ : Mem) : Option (Mem) :=
  nm ((100 : Int32) * p1) fun x1 =>
  (stA 210 p1 (0 : Int32) μ).bind fun m2 =>
  if p1 = 0 then
    c344_27 p1 p2 x1 165 m2
  else
    c344_27 p1 p2 x1 167 m2
theorem ok344 {L : Nat} (p1 : Int32) (p2 : Int32) (μ : Mem) (res : Mem) (h : f344 p1 p2 μ = some res) : Mx 344 [.ref 129, .int p1, .int p2] (mk L μ) (mk L res, none) := by
  refine Mx_of ml_344 (by rw [mx_344]; exact Nat.le_of_ble_eq_true rfl) ?_
  show Sx 344 0 [(0, .ref 129), (1, .int p1), (2, .int p2)] [] 0 0 (mk L μ) _
  unfold f344 at h
  refine sx_bipush (v := 100) k344_0 (by decide) ?_
  refine sx_iload_n (i := 1) k344_2 rfl rfl ?_
  refine sx_imul k344_3 ?_
  refine cx_nm h (fun x1 h => ?_)
  refine cx_istore_n (lo2 := [(3, .int x1), (0, .ref 129), (1, .int p1), (2, .int p2)]) k344_4 rfl (by rw [mx_344]; decide) rfl ?_
  refine sx_aload_n (i := 0) k344_5 rfl rfl ?_
  refine cx_getR (k := 137) k344_6 ow_344 fl_12_685 (by decide) sk_129 ft_11_137 sr_129_137 ?_
  refine sx_iload_n (i := 1) k344_9 rfl rfl ?_
  refine sx_iconst (v := 0) k344_10 (by decide) ?_
  obtain ⟨m2, e3, h⟩ := Option.bind_eq_some_iff.mp h
  refine cx_iast k344_11 sk_210 e3 ?_
  refine sx_iload_n (i := 1) k344_12 rfl rfl ?_
  by_cases hb4 : p1 = 0
  · rw [if_pos hb4] at h
    refine sx_if_ne (tgt := 23) k344_13 (by decide) (fun q => absurd hb4 q) (fun _ => ?_)
    refine sx_aload_n (i := 0) k344_16 rfl rfl ?_
    refine cx_getR (k := 84) k344_17 ow_344 fl_12_432 (by decide) sk_129 ft_11_84 sr_129_84 ?_
    refine sx_goto (tgt := 27) k344_20 (by decide) ?_
    refine sx_pick (lo2 := [(0, .ref 129), (1, .int p1), (2, .int p2), (3, .int x1)]) [1, 2, 3, 0] rfl ?_
    exact c344_27_ok p1 p2 x1 165 sk_165 _ _ h
  · rw [if_neg hb4] at h
    refine sx_if_ne (tgt := 23) k344_13 (by decide) (fun _ => ?_) (fun q => absurd q hb4)
    refine sx_aload_n (i := 0) k344_23 rfl rfl ?_
    refine cx_getR (k := 88) k344_24 ow_344 fl_12_664 (by decide) sk_129 ft_11_88 sr_129_88 ?_
    refine sx_pick (lo2 := [(0, .ref 129), (1, .int p1), (2, .int p2), (3, .int x1)]) [1, 2, 3, 0] rfl ?_
    exact c344_27_ok p1 p2 x1 167 sk_167 _ _ h
theorem k345_0 : decode (gb 345) 0 = .ok (.aload_n 0, 1) := by decide +kernel
theorem k345_1 : decode (gb 345) 1 = .ok (.iconst 1, 1) := by decide +kernel
theorem k345_2 : decode (gb 345) 2 = .ok (.invokevirtual 700, 3) := by decide +kernel
theorem k345_5 : decode (gb 345) 5 = .ok (.ifCond .eq 22, 3) := by decide +kernel
theorem k345_8 : decode (gb 345) 8 = .ok (.aload_n 0, 1) := by decide +kernel
theorem k345_9 : decode (gb 345) 9 = .ok (.getfield 703, 3) := by decide +kernel
theorem k345_12 : decode (gb 345) 12 = .ok (.ifCond .eq 11, 3) := by decide +kernel
theorem k345_15 : decode (gb 345) 15 = .ok (.aload_n 0, 1) := by decide +kernel
theorem k345_16 : decode (gb 345) 16 = .ok (.iconst 0, 1) := by decide +kernel
theorem k345_17 : decode (gb 345) 17 = .ok (.invokevirtual 700, 3) := by decide +kernel
theorem k345_20 : decode (gb 345) 20 = .ok (.ifCond .ne 7, 3) := by decide +kernel
theorem k345_23 : decode (gb 345) 23 = .ok (.iconst 1, 1) := by decide +kernel
theorem k345_24 : decode (gb 345) 24 = .ok (.goto 4, 3) := by decide +kernel
theorem k345_27 : decode (gb 345) 27 = .ok (.iconst 0, 1) := by decide +kernel
theorem k345_28 : decode (gb 345) 28 = .ok (.istore_n 1, 1) := by decide +kernel
theorem k345_29 : decode (gb 345) 29 = .ok (.iload_n 1, 1) := by decide +kernel
theorem k345_30 : decode (gb 345) 30 = .ok (.ifCond .eq 7, 3) := by decide +kernel
theorem k345_33 : decode (gb 345) 33 = .ok (.iconst 1, 1) := by decide +kernel
theorem k345_34 : decode (gb 345) 34 = .ok (.goto 17, 3) := by decide +kernel
theorem k345_37 : decode (gb 345) 37 = .ok (.aload_n 0, 1) := by decide +kernel
theorem k345_38 : decode (gb 345) 38 = .ok (.iconst 0, 1) := by decide +kernel
theorem k345_39 : decode (gb 345) 39 = .ok (.invokevirtual 700, 3) := by decide +kernel
theorem k345_42 : decode (gb 345) 42 = .ok (.ifCond .eq 7, 3) := by decide +kernel
theorem k345_45 : decode (gb 345) 45 = .ok (.iconst 0, 1) := by decide +kernel
theorem k345_46 : decode (gb 345) 46 = .ok (.goto 5, 3) := by decide +kernel
theorem k345_49 : decode (gb 345) 49 = .ok (.bipush 7, 2) := by decide +kernel
theorem k345_51 : decode (gb 345) 51 = .ok (.istore_n 2, 1) := by decide +kernel
theorem k345_52 : decode (gb 345) 52 = .ok (.aload_n 0, 1) := by decide +kernel
theorem k345_53 : decode (gb 345) 53 = .ok (.iload_n 1, 1) := by decide +kernel
theorem k345_54 : decode (gb 345) 54 = .ok (.putfield 703, 3) := by decide +kernel
theorem k345_57 : decode (gb 345) 57 = .ok (.iload_n 2, 1) := by decide +kernel
theorem k345_58 : decode (gb 345) 58 = .ok (.bipush 7, 2) := by decide +kernel
theorem k345_60 : decode (gb 345) 60 = .ok (.if_icmp .ne 9, 3) := by decide +kernel
theorem k345_63 : decode (gb 345) 63 = .ok (.sipush 2046, 3) := by decide +kernel
theorem k345_66 : decode (gb 345) 66 = .ok (.goto 6, 3) := by decide +kernel
theorem k345_69 : decode (gb 345) 69 = .ok (.sipush 2047, 3) := by decide +kernel
theorem k345_72 : decode (gb 345) 72 = .ok (.istore_n 3, 1) := by decide +kernel
theorem k345_73 : decode (gb 345) 73 = .ok (.iconst 0, 1) := by decide +kernel
theorem k345_74 : decode (gb 345) 74 = .ok (.istore 4, 2) := by decide +kernel
theorem k345_76 : decode (gb 345) 76 = .ok (.iload 4, 2) := by decide +kernel
theorem k345_78 : decode (gb 345) 78 = .ok (.bipush 52, 2) := by decide +kernel
theorem k345_80 : decode (gb 345) 80 = .ok (.if_icmp .ge 98, 3) := by decide +kernel
theorem k345_83 : decode (gb 345) 83 = .ok (.iload_n 2, 1) := by decide +kernel
theorem k345_84 : decode (gb 345) 84 = .ok (.bipush 7, 2) := by decide +kernel
theorem k345_86 : decode (gb 345) 86 = .ok (.if_icmp .ne 18, 3) := by decide +kernel
theorem k345_89 : decode (gb 345) 89 = .ok (.aload_n 0, 1) := by decide +kernel
theorem k345_90 : decode (gb 345) 90 = .ok (.getfield 706, 3) := by decide +kernel
theorem k345_93 : decode (gb 345) 93 = .ok (.bipush 6, 2) := by decide +kernel
theorem k345_95 : decode (gb 345) 95 = .ok (.iload 4, 2) := by decide +kernel
theorem k345_97 : decode (gb 345) 97 = .ok (.iadd, 1) := by decide +kernel
theorem k345_98 : decode (gb 345) 98 = .ok (.bipush 85, 2) := by decide +kernel
theorem k345_100 : decode (gb 345) 100 = .ok (.iastore, 1) := by decide +kernel
theorem k345_101 : decode (gb 345) 101 = .ok (.goto 71, 3) := by decide +kernel
theorem k345_104 : decode (gb 345) 104 = .ok (.aload_n 0, 1) := by decide +kernel
theorem k345_105 : decode (gb 345) 105 = .ok (.iload_n 2, 1) := by decide +kernel
theorem k345_106 : decode (gb 345) 106 = .ok (.invokevirtual 691, 3) := by decide +kernel
theorem k345_109 : decode (gb 345) 109 = .ok (.ifCond .ne 27, 3) := by decide +kernel
theorem k345_112 : decode (gb 345) 112 = .ok (.aload_n 0, 1) := by decide +kernel
theorem k345_113 : decode (gb 345) 113 = .ok (.iload_n 2, 1) := by decide +kernel
theorem k345_114 : decode (gb 345) 114 = .ok (.bipush 52, 2) := by decide +kernel
theorem k345_116 : decode (gb 345) 116 = .ok (.iload 4, 2) := by decide +kernel
theorem k345_118 : decode (gb 345) 118 = .ok (.isub, 1) := by decide +kernel
theorem k345_119 : decode (gb 345) 119 = .ok (.invokevirtual 709, 3) := by decide +kernel
theorem k345_122 : decode (gb 345) 122 = .ok (.iload_n 3, 1) := by decide +kernel
theorem k345_123 : decode (gb 345) 123 = .ok (.sipush 2047, 3) := by decide +kernel
theorem k345_126 : decode (gb 345) 126 = .ok (.if_icmp .ne 8, 3) := by decide +kernel
theorem k345_129 : decode (gb 345) 129 = .ok (.iload 4, 2) := by decide +kernel
theorem k345_131 : decode (gb 345) 131 = .ok (.goto 4, 3) := by decide +kernel
theorem k345_134 : decode (gb 345) 134 = .ok (.iload_n 3, 1) := by decide +kernel
theorem k345_135 : decode (gb 345) 135 = .ok (.istore_n 3, 1) := by decide +kernel
theorem k345_136 : decode (gb 345) 136 = .ok (.aload_n 0, 1) := by decide +kernel
theorem k345_137 : decode (gb 345) 137 = .ok (.getfield 706, 3) := by decide +kernel
theorem k345_140 : decode (gb 345) 140 = .ok (.bipush 6, 2) := by decide +kernel
theorem k345_142 : decode (gb 345) 142 = .ok (.iload 4, 2) := by decide +kernel
theorem k345_144 : decode (gb 345) 144 = .ok (.iadd, 1) := by decide +kernel
theorem k345_145 : decode (gb 345) 145 = .ok (.aload_n 0, 1) := by decide +kernel
theorem k345_146 : decode (gb 345) 146 = .ok (.getfield 697, 3) := by decide +kernel
theorem k345_149 : decode (gb 345) 149 = .ok (.bipush 100, 2) := by decide +kernel
theorem k345_151 : decode (gb 345) 151 = .ok (.iload_n 2, 1) := by decide +kernel
theorem k345_152 : decode (gb 345) 152 = .ok (.imul, 1) := by decide +kernel
theorem k345_153 : decode (gb 345) 153 = .ok (.aload_n 0, 1) := by decide +kernel
theorem k345_154 : decode (gb 345) 154 = .ok (.getfield 685, 3) := by decide +kernel
theorem k345_157 : decode (gb 345) 157 = .ok (.iload_n 2, 1) := by decide +kernel
theorem k345_158 : decode (gb 345) 158 = .ok (.iaload, 1) := by decide +kernel
theorem k345_159 : decode (gb 345) 159 = .ok (.iadd, 1) := by decide +kernel
theorem k345_160 : decode (gb 345) 160 = .ok (.iaload, 1) := by decide +kernel
theorem k345_161 : decode (gb 345) 161 = .ok (.iastore, 1) := by decide +kernel
theorem k345_162 : decode (gb 345) 162 = .ok (.aload_n 0, 1) := by decide +kernel
theorem k345_163 : decode (gb 345) 163 = .ok (.getfield 685, 3) := by decide +kernel
theorem k345_166 : decode (gb 345) 166 = .ok (.iload_n 2, 1) := by decide +kernel
theorem k345_167 : decode (gb 345) 167 = .ok (.dup2, 1) := by decide +kernel
theorem k345_168 : decode (gb 345) 168 = .ok (.iaload, 1) := by decide +kernel
theorem k345_169 : decode (gb 345) 169 = .ok (.iconst 1, 1) := by decide +kernel
theorem k345_170 : decode (gb 345) 170 = .ok (.iadd, 1) := by decide +kernel
theorem k345_171 : decode (gb 345) 171 = .ok (.iastore, 1) := by decide +kernel
theorem k345_172 : decode (gb 345) 172 = .ok (.iinc 4 1, 3) := by decide +kernel
theorem k345_175 : decode (gb 345) 175 = .ok (.goto (-99), 3) := by decide +kernel
theorem k345_178 : decode (gb 345) 178 = .ok (.sipush 2736, 3) := by decide +kernel
theorem k345_181 : decode (gb 345) 181 = .ok (.iload_n 2, 1) := by decide +kernel
theorem k345_182 : decode (gb 345) 182 = .ok (.iconst 1, 1) := by decide +kernel
theorem k345_183 : decode (gb 345) 183 = .ok (.ishl, 1) := by decide +kernel
theorem k345_184 : decode (gb 345) 184 = .ok (.ior, 1) := by decide +kernel
theorem k345_185 : decode (gb 345) 185 = .ok (.iconst 1, 1) := by decide +kernel
theorem k345_186 : decode (gb 345) 186 = .ok (.ior, 1) := by decide +kernel
theorem k345_187 : decode (gb 345) 187 = .ok (.istore 4, 2) := by decide +kernel
theorem k345_189 : decode (gb 345) 189 = .ok (.aload_n 0, 1) := by decide +kernel
theorem k345_190 : decode (gb 345) 190 = .ok (.getfield 706, 3) := by decide +kernel
theorem k345_193 : decode (gb 345) 193 = .ok (.iconst 0, 1) := by decide +kernel
theorem k345_194 : decode (gb 345) 194 = .ok (.iload 4, 2) := by decide +kernel
theorem k345_196 : decode (gb 345) 196 = .ok (.bipush 8, 2) := by decide +kernel
theorem k345_198 : decode (gb 345) 198 = .ok (.ishr, 1) := by decide +kernel
theorem k345_199 : decode (gb 345) 199 = .ok (.iastore, 1) := by decide +kernel
theorem k345_200 : decode (gb 345) 200 = .ok (.aload_n 0, 1) := by decide +kernel
theorem k345_201 : decode (gb 345) 201 = .ok (.getfield 706, 3) := by decide +kernel
theorem k345_204 : decode (gb 345) 204 = .ok (.iconst 1, 1) := by decide +kernel
theorem k345_205 : decode (gb 345) 205 = .ok (.iload 4, 2) := by decide +kernel
theorem k345_207 : decode (gb 345) 207 = .ok (.sipush 255, 3) := by decide +kernel
theorem k345_210 : decode (gb 345) 210 = .ok (.iand, 1) := by decide +kernel
theorem k345_211 : decode (gb 345) 211 = .ok (.iastore, 1) := by decide +kernel
theorem k345_212 : decode (gb 345) 212 = .ok (.aload_n 0, 1) := by decide +kernel
theorem k345_213 : decode (gb 345) 213 = .ok (.getfield 706, 3) := by decide +kernel
theorem k345_216 : decode (gb 345) 216 = .ok (.iconst 2, 1) := by decide +kernel
theorem k345_217 : decode (gb 345) 217 = .ok (.aload_n 0, 1) := by decide +kernel
theorem k345_218 : decode (gb 345) 218 = .ok (.getfield 712, 3) := by decide +kernel
theorem k345_221 : decode (gb 345) 221 = .ok (.iastore, 1) := by decide +kernel
theorem k345_222 : decode (gb 345) 222 = .ok (.aload_n 0, 1) := by decide +kernel
theorem k345_223 : decode (gb 345) 223 = .ok (.getfield 706, 3) := by decide +kernel
theorem k345_226 : decode (gb 345) 226 = .ok (.iconst 3, 1) := by decide +kernel
theorem k345_227 : decode (gb 345) 227 = .ok (.aload_n 0, 1) := by decide +kernel
theorem k345_228 : decode (gb 345) 228 = .ok (.getfield 715, 3) := by decide +kernel
theorem k345_231 : decode (gb 345) 231 = .ok (.iload_n 2, 1) := by decide +kernel
theorem k345_232 : decode (gb 345) 232 = .ok (.iaload, 1) := by decide +kernel
theorem k345_233 : decode (gb 345) 233 = .ok (.iastore, 1) := by decide +kernel
theorem k345_234 : decode (gb 345) 234 = .ok (.aload_n 0, 1) := by decide +kernel
theorem k345_235 : decode (gb 345) 235 = .ok (.getfield 706, 3) := by decide +kernel
theorem k345_238 : decode (gb 345) 238 = .ok (.iconst 4, 1) := by decide +kernel
theorem k345_239 : decode (gb 345) 239 = .ok (.bipush 24, 2) := by decide +kernel
theorem k345_241 : decode (gb 345) 241 = .ok (.iload_n 3, 1) := by decide +kernel
theorem k345_242 : decode (gb 345) 242 = .ok (.bipush 8, 2) := by decide +kernel
theorem k345_244 : decode (gb 345) 244 = .ok (.ishr, 1) := by decide +kernel
theorem k345_245 : decode (gb 345) 245 = .ok (.ior, 1) := by decide +kernel
theorem k345_246 : decode (gb 345) 246 = .ok (.iastore, 1) := by decide +kernel
theorem k345_247 : decode (gb 345) 247 = .ok (.aload_n 0, 1) := by decide +kernel
theorem k345_248 : decode (gb 345) 248 = .ok (.getfield 706, 3) := by decide +kernel
theorem k345_251 : decode (gb 345) 251 = .ok (.iconst 5, 1) := by decide +kernel
theorem k345_252 : decode (gb 345) 252 = .ok (.iload_n 3, 1) := by decide +kernel
theorem k345_253 : decode (gb 345) 253 = .ok (.sipush 255, 3) := by decide +kernel
theorem k345_256 : decode (gb 345) 256 = .ok (.iand, 1) := by decide +kernel
theorem k345_257 : decode (gb 345) 257 = .ok (.iastore, 1) := by decide +kernel
theorem k345_258 : decode (gb 345) 258 = .ok (.aload_n 0, 1) := by decide +kernel
theorem k345_259 : decode (gb 345) 259 = .ok (.aload_n 0, 1) := by decide +kernel
theorem k345_260 : decode (gb 345) 260 = .ok (.getfield 712, 3) := by decide +kernel
theorem k345_263 : decode (gb 345) 263 = .ok (.iconst 1, 1) := by decide +kernel
theorem k345_264 : decode (gb 345) 264 = .ok (.iadd, 1) := by decide +kernel
theorem k345_265 : decode (gb 345) 265 = .ok (.sipush 255, 3) := by decide +kernel
theorem k345_268 : decode (gb 345) 268 = .ok (.iand, 1) := by decide +kernel
theorem k345_269 : decode (gb 345) 269 = .ok (.putfield 712, 3) := by decide +kernel
theorem k345_272 : decode (gb 345) 272 = .ok (.aload_n 0, 1) := by decide +kernel
theorem k345_273 : decode (gb 345) 273 = .ok (.getfield 715, 3) := by decide +kernel
theorem k345_276 : decode (gb 345) 276 = .ok (.iload_n 2, 1) := by decide +kernel
theorem k345_277 : decode (gb 345) 277 = .ok (.aload_n 0, 1) := by decide +kernel
theorem k345_278 : decode (gb 345) 278 = .ok (.getfield 715, 3) := by decide +kernel
theorem k345_281 : decode (gb 345) 281 = .ok (.iload_n 2, 1) := by decide +kernel
theorem k345_282 : decode (gb 345) 282 = .ok (.iaload, 1) := by decide +kernel
theorem k345_283 : decode (gb 345) 283 = .ok (.iconst 1, 1) := by decide +kernel
theorem k345_284 : decode (gb 345) 284 = .ok (.iadd, 1) := by decide +kernel
theorem k345_285 : decode (gb 345) 285 = .ok (.sipush 255, 3) := by decide +kernel
theorem k345_288 : decode (gb 345) 288 = .ok (.iand, 1) := by decide +kernel
theorem k345_289 : decode (gb 345) 289 = .ok (.iastore, 1) := by decide +kernel
theorem k345_290 : decode (gb 345) 290 = .ok (.aload_n 0, 1) := by decide +kernel
theorem k345_291 : decode (gb 345) 291 = .ok (.getfield 706, 3) := by decide +kernel
theorem k345_294 : decode (gb 345) 294 = .ok (.bipush 58, 2) := by decide +kernel
theorem k345_296 : decode (gb 345) 296 = .ok (.iconst 1, 1) := by decide +kernel
theorem k345_297 : decode (gb 345) 297 = .ok (.iastore, 1) := by decide +kernel
theorem k345_298 : decode (gb 345) 298 = .ok (.aload_n 0, 1) := by decide +kernel
theorem k345_299 : decode (gb 345) 299 = .ok (.getfield 706, 3) := by decide +kernel
theorem k345_302 : decode (gb 345) 302 = .ok (.bipush 59, 2) := by decide +kernel
theorem k345_304 : decode (gb 345) 304 = .ok (.iconst 0, 1) := by decide +kernel
theorem k345_305 : decode (gb 345) 305 = .ok (.iastore, 1) := by decide +kernel
theorem k345_306 : decode (gb 345) 306 = .ok (.aload_n 0, 1) := by decide +kernel
theorem k345_307 : decode (gb 345) 307 = .ok (.getfield 706, 3) := by decide +kernel
theorem k345_310 : decode (gb 345) 310 = .ok (.bipush 60, 2) := by decide +kernel
theorem k345_312 : decode (gb 345) 312 = .ok (.aload_n 0, 1) := by decide +kernel
theorem k345_313 : decode (gb 345) 313 = .ok (.getfield 136, 3) := by decide +kernel
theorem k345_316 : decode (gb 345) 316 = .ok (.ifCond .eq 8, 3) := by decide +kernel
theorem k345_319 : decode (gb 345) 319 = .ok (.bipush 32, 2) := by decide +kernel
theorem k345_321 : decode (gb 345) 321 = .ok (.goto 4, 3) := by decide +kernel
theorem k345_324 : decode (gb 345) 324 = .ok (.iconst 0, 1) := by decide +kernel
theorem k345_325 : decode (gb 345) 325 = .ok (.aload_n 0, 1) := by decide +kernel
theorem k345_326 : decode (gb 345) 326 = .ok (.getfield 142, 3) := by decide +kernel
theorem k345_329 : decode (gb 345) 329 = .ok (.ifCond .eq 8, 3) := by decide +kernel
theorem k345_332 : decode (gb 345) 332 = .ok (.bipush 16, 2) := by decide +kernel
theorem k345_334 : decode (gb 345) 334 = .ok (.goto 4, 3) := by decide +kernel
theorem k345_337 : decode (gb 345) 337 = .ok (.iconst 0, 1) := by decide +kernel
theorem k345_338 : decode (gb 345) 338 = .ok (.ior, 1) := by decide +kernel
theorem k345_339 : decode (gb 345) 339 = .ok (.aload_n 0, 1) := by decide +kernel
theorem k345_340 : decode (gb 345) 340 = .ok (.getfield 145, 3) := by decide +kernel
theorem k345_343 : decode (gb 345) 343 = .ok (.ifCond .eq 8, 3) := by decide +kernel
theorem k345_346 : decode (gb 345) 346 = .ok (.bipush 8, 2) := by decide +kernel
theorem k345_348 : decode (gb 345) 348 = .ok (.goto 4, 3) := by decide +kernel
theorem k345_351 : decode (gb 345) 351 = .ok (.iconst 0, 1) := by decide +kernel
theorem k345_352 : decode (gb 345) 352 = .ok (.ior, 1) := by decide +kernel
theorem k345_353 : decode (gb 345) 353 = .ok (.aload_n 0, 1) := by decide +kernel
theorem k345_354 : decode (gb 345) 354 = .ok (.getfield 133, 3) := by decide +kernel
theorem k345_357 : decode (gb 345) 357 = .ok (.iconst 1, 1) := by decide +kernel
theorem k345_358 : decode (gb 345) 358 = .ok (.ishl, 1) := by decide +kernel
theorem k345_359 : decode (gb 345) 359 = .ok (.ior, 1) := by decide +kernel
theorem k345_360 : decode (gb 345) 360 = .ok (.iastore, 1) := by decide +kernel
theorem k345_361 : decode (gb 345) 361 = .ok (.aload_n 0, 1) := by decide +kernel
theorem k345_362 : decode (gb 345) 362 = .ok (.getfield 706, 3) := by decide +kernel
theorem k345_365 : decode (gb 345) 365 = .ok (.bipush 61, 2) := by decide +kernel
theorem k345_367 : decode (gb 345) 367 = .ok (.aload_n 0, 1) := by decide +kernel
theorem k345_368 : decode (gb 345) 368 = .ok (.getfield 139, 3) := by decide +kernel
theorem k345_371 : decode (gb 345) 371 = .ok (.iastore, 1) := by decide +kernel
theorem k345_372 : decode (gb 345) 372 = .ok (.aload_n 0, 1) := by decide +kernel
theorem k345_373 : decode (gb 345) 373 = .ok (.getfield 706, 3) := by decide +kernel
theorem k345_376 : decode (gb 345) 376 = .ok (.iconst 0, 1) := by decide +kernel
theorem k345_377 : decode (gb 345) 377 = .ok (.bipush 62, 2) := by decide +kernel
theorem k345_379 : decode (gb 345) 379 = .ok (.invokestatic 11, 3) := by decide +kernel
theorem k345_382 : decode (gb 345) 382 = .ok (.istore 5, 2) := by decide +kernel
theorem k345_384 : decode (gb 345) 384 = .ok (.aload_n 0, 1) := by decide +kernel
theorem k345_385 : decode (gb 345) 385 = .ok (.getfield 706, 3) := by decide +kernel
theorem k345_388 : decode (gb 345) 388 = .ok (.bipush 62, 2) := by decide +kernel
theorem k345_390 : decode (gb 345) 390 = .ok (.iload 5, 2) := by decide +kernel
theorem k345_392 : decode (gb 345) 392 = .ok (.bipush 8, 2) := by decide +kernel
theorem k345_394 : decode (gb 345) 394 = .ok (.ishr, 1) := by decide +kernel
theorem k345_395 : decode (gb 345) 395 = .ok (.iastore, 1) := by decide +kernel
theorem k345_396 : decode (gb 345) 396 = .ok (.aload_n 0, 1) := by decide +kernel
theorem k345_397 : decode (gb 345) 397 = .ok (.getfield 706, 3) := by decide +kernel
theorem k345_400 : decode (gb 345) 400 = .ok (.bipush 63, 2) := by decide +kernel
theorem k345_402 : decode (gb 345) 402 = .ok (.iload 5, 2) := by decide +kernel
theorem k345_404 : decode (gb 345) 404 = .ok (.sipush 255, 3) := by decide +kernel
theorem k345_407 : decode (gb 345) 407 = .ok (.iand, 1) := by decide +kernel
theorem k345_408 : decode (gb 345) 408 = .ok (.iastore, 1) := by decide +kernel
theorem k345_409 : decode (gb 345) 409 = .ok (.iconst 0, 1) := by decide +kernel
theorem k345_410 : decode (gb 345) 410 = .ok (.istore 6, 2) := by decide +kernel
theorem k345_412 : decode (gb 345) 412 = .ok (.iload 6, 2) := by decide +kernel
theorem k345_414 : decode (gb 345) 414 = .ok (.bipush 64, 2) := by decide +kernel
theorem k345_416 : decode (gb 345) 416 = .ok (.if_icmp .ge 26, 3) := by decide +kernel
theorem k345_419 : decode (gb 345) 419 = .ok (.aload_n 0, 1) := by decide +kernel
theorem k345_420 : decode (gb 345) 420 = .ok (.getfield 706, 3) := by decide +kernel
theorem k345_423 : decode (gb 345) 423 = .ok (.iload 6, 2) := by decide +kernel
theorem k345_425 : decode (gb 345) 425 = .ok (.dup2, 1) := by decide +kernel
theorem k345_426 : decode (gb 345) 426 = .ok (.iaload, 1) := by decide +kernel
theorem k345_427 : decode (gb 345) 427 = .ok (.aload_n 0, 1) := by decide +kernel
theorem k345_428 : decode (gb 345) 428 = .ok (.getfield 328, 3) := by decide +kernel
theorem k345_431 : decode (gb 345) 431 = .ok (.iload 6, 2) := by decide +kernel
theorem k345_433 : decode (gb 345) 433 = .ok (.iaload, 1) := by decide +kernel
theorem k345_434 : decode (gb 345) 434 = .ok (.ixor, 1) := by decide +kernel
theorem k345_435 : decode (gb 345) 435 = .ok (.iastore, 1) := by decide +kernel
theorem k345_436 : decode (gb 345) 436 = .ok (.iinc 6 1, 3) := by decide +kernel
theorem k345_439 : decode (gb 345) 439 = .ok (.goto (-27), 3) := by decide +kernel
theorem k345_442 : decode (gb 345) 442 = .ok (.aload_n 0, 1) := by decide +kernel
theorem k345_443 : decode (gb 345) 443 = .ok (.iconst 1, 1) := by decide +kernel
theorem k345_444 : decode (gb 345) 444 = .ok (.invokevirtual 69, 3) := by decide +kernel
theorem k345_447 : decode (gb 345) 447 = .ok (.sipush 544, 3) := by decide +kernel
theorem k345_450 : decode (gb 345) 450 = .ok (.if_icmp .lt 24, 3) := by decide +kernel
theorem k345_453 : decode (gb 345) 453 = .ok (.aload_n 0, 1) := by decide +kernel
theorem k345_454 : decode (gb 345) 454 = .ok (.iconst 1, 1) := by decide +kernel
theorem k345_455 : decode (gb 345) 455 = .ok (.aload_n 0, 1) := by decide +kernel
theorem k345_456 : decode (gb 345) 456 = .ok (.getfield 718, 3) := by decide +kernel
theorem k345_459 : decode (gb 345) 459 = .ok (.iconst 4, 1) := by decide +kernel
theorem k345_460 : decode (gb 345) 460 = .ok (.invokevirtual 73, 3) := by decide +kernel
theorem k345_463 : decode (gb 345) 463 = .ok (.aload_n 0, 1) := by decide +kernel
theorem k345_464 : decode (gb 345) 464 = .ok (.iconst 1, 1) := by decide +kernel
theorem k345_465 : decode (gb 345) 465 = .ok (.aload_n 0, 1) := by decide +kernel
theorem k345_466 : decode (gb 345) 466 = .ok (.getfield 706, 3) := by decide +kernel
theorem k345_469 : decode (gb 345) 469 = .ok (.bipush 64, 2) := by decide +kernel
theorem k345_471 : decode (gb 345) 471 = .ok (.invokevirtual 73, 3) := by decide +kernel
theorem k345_474 : decode (gb 345) 474 = .ok (.return_, 1) := by decide +kernel
def c345_172 (kl76 : Int32 → Int32 → Int32 → Mem → Option (Mem)) (v2 : Int32) (v3 : Int32) (v4 : Int32) (μ : Mem) : Option (Mem) :=
  nm (v4 + (1 : Int32)) fun x1 =>
  kl76 v2 v3 x1 μ
theorem c345_172_ok {L : Nat} (kl76 : Int32 → Int32 → Int32 → Mem → Option (Mem)) (hk76 : (∀ (v2 : Int32) (v3 : Int32) (v4 : Int32) (μ : Mem) (res : Mem), kl76 v2 v3 v4 μ = some res → Sx 345 76 [(0, .ref 129), (2, .int v2), (3, .int v3), (4, .int v4)] [] 0 0 (mk L μ) (mk L res, none))) (v2 : Int32) (v3 : Int32) (v4 : Int32) (μ : Mem) (res : Mem) (h : c345_172 kl76 v2 v3 v4 μ = some res) : Sx 345 172 [(0, .ref 129), (2, .int v2), (3, .int v3), (4, .int v4)] [] 0 0 (mk L μ) (mk L res, none) := by
  unfold c345_172 at h
  refine cx_iinc (c := 1) (lo2 := fun x1 => [(4, .int x1), (0, .ref 129), (2, .int v2), (3, .int v3)]) k345_172 rfl (by decide) (by rw [mx_345]; decide) (fun _ => rfl) h (fun x1 h => ?_)
  refine sx_goto (tgt := 76) k345_175 (by decide) ?_
  refine sx_pick (lo2 := [(0, .ref 129), (2, .int v2), (3, .int v3), (4, .int x1)]) [1, 2, 3, 0] rfl ?_
  exact hk76 v2 v3 x1 _ _ h
def c345_136 (kl76 : Int32 → Int32 → Int32 → Mem → Option (Mem)) (v2 : Int32) (v3 : Int32) (v4 : Int32) (μ : Mem) : Option (Mem) :=
  (ldA 210 v2 μ).bind fun x1 =>
  (ldA 208 (((100 : Int32) * v2) + x1) μ).bind fun x3 =>
  (stA 213 ((6 : Int32) + v4) x3 μ).bind fun m5 =>
  (ldA 210 v2 m5).bind fun x7 =>
  (stA 210 v2 (x7 + (1 : Int32)) m5).bind fun m9 =>
  c345_172 kl76 v2 v3 v4 m9
theorem c345_136_ok {L : Nat} (kl76 : Int32 → Int32 → Int32 → Mem → Option (Mem)) (hk76 : (∀ (v2 : Int32) (v3 : Int32) (v4 : Int32) (μ : Mem) (res : Mem), kl76 v2 v3 v4 μ = some res → Sx 345 76 [(0, .ref 129), (2, .int v2), (3, .int v3), (4, .int v4)] [] 0 0 (mk L μ) (mk L res, none))) (v2 : Int32) (v3 : Int32) (v4 : Int32) (μ : Mem) (res : Mem) (h : c345_136 kl76 v2 v3 v4 μ = some res) : Sx 345 136 [(0, .ref 129), (2, .int v2), (3, .int v3), (4, .int v4)] [] 0 0 (mk L μ) (mk L res, none) := by
  unfold c345_136 at h
  refine sx_aload_n (i := 0) k345_136 rfl rfl ?_
  refine cx_getR (k := 142) k345_137 ow_345 fl_12_706 (by decide) sk_129 ft_11_142 sr_129_142 ?_
  refine sx_bipush (v := 6) k345_140 (by decide) ?_
  refine sx_iload k345_142 rfl ?_
  refine sx_iadd k345_144 ?_
  refine sx_aload_n (i := 0) k345_145 rfl rfl ?_
  refine cx_getR (k := 135) k345_146 ow_345 fl_12_697 (by decide) sk_129 ft_11_135 sr_129_135 ?_
  refine sx_bipush (v := 100) k345_149 (by decide) ?_
  refine sx_iload_n (i := 2) k345_151 rfl rfl ?_
  refine sx_imul k345_152 ?_
  refine sx_aload_n (i := 0) k345_153 rfl rfl ?_
  refine cx_getR (k := 137) k345_154 ow_345 fl_12_685 (by decide) sk_129 ft_11_137 sr_129_137 ?_
  refine sx_iload_n (i := 2) k345_157 rfl rfl ?_
  obtain ⟨x1, e2, h⟩ := Option.bind_eq_some_iff.mp h
  refine cx_iald k345_158 sk_210 e2 ?_
  refine sx_iadd k345_159 ?_
  obtain ⟨x3, e4, h⟩ := Option.bind_eq_some_iff.mp h
  refine cx_iald k345_160 sk_208 e4 ?_
  obtain ⟨m5, e6, h⟩ := Option.bind_eq_some_iff.mp h
  refine cx_iast k345_161 sk_213 e6 ?_
  refine sx_aload_n (i := 0) k345_162 rfl rfl ?_
  refine cx_getR (k := 137) k345_163 ow_345 fl_12_685 (by decide) sk_129 ft_11_137 sr_129_137 ?_
  refine sx_iload_n (i := 2) k345_166 rfl rfl ?_
  refine sx_dup2 k345_167 rfl rfl ?_
  obtain ⟨x7, e8, h⟩ := Option.bind_eq_some_iff.mp h
  refine cx_iald k345_168 sk_210 e8 ?_
  refine sx_iconst (v := 1) k345_169 (by decide) ?_
  refine sx_iadd k345_170 ?_
  obtain ⟨m9, e10, h⟩ := Option.bind_eq_some_iff.mp h
  refine cx_iast k345_171 sk_210 e10 ?_
  refine sx_pick (lo2 := [(0, .ref 129), (2, .int v2), (3, .int v3), (4, .int v4)]) [0, 1, 2, 3] rfl ?_
  exact c345_172_ok kl76 hk76 v2 v3 v4 _ _ h
def c345_135 (kl76 : Int32 → Int32 → Int32 → Mem → Option (Mem)) (v2 : Int32) (v4 : Int32) (s0 : Int32) (μ : Mem) : Option (Mem) :=
  c345_136 kl76 v2 s0 v4 μ
theorem c345_135_ok {L : Nat} (kl76 : Int32 → Int32 → Int32 → Mem → Option (Mem)) (hk76 : (∀ (v2 : Int32) (v3 : Int32) (v4 : Int32) (μ : Mem) (res : Mem), kl76 v2 v3 v4 μ = some res → Sx 345 76 [(0, .ref 129), (2, .int v2), (3, .int v3), (4, .int v4)] [] 0 0 (mk L μ) (mk L res, none))) (v2 : Int32) (v4 : Int32) (s0 : Int32) (μ : Mem) (res : Mem) (h : c345_135 kl76 v2 v4 s0 μ = some res) : Sx 345 135 [(0, .ref 129), (2, .int v2), (4, .int v4)] [.int s0] 0 0 (mk L μ) (mk L res, none) := by
  unfold c345_135 at h
  refine cx_istore_n (lo2 := [(3, .int s0), (0, .ref 129), (2, .int v2), (4, .int v4)]) k345_135 rfl (by rw [mx_345]; decide) rfl ?_
  refine sx_pick (lo2 := [(0, .ref 129), (2, .int v2), (3, .int s0), (4, .int v4)]) [1, 2, 0, 3] rfl ?_
  exact c345_136_ok kl76 hk76 v2 s0 v4 _ _ h
def b345_412 (kl412 : Int32 → Mem → Option (Mem)) (v6 : Int32) (μ : Mem) : Option (Mem) :=
  if (64 : Int32) ≤ v6 then
    (f254 (1 : Int32) μ).bind fun r2 =>
    if r2.2 < (544 : Int32) then
      some r2.1
    else
      (f256 (1 : Int32) 214 (4 : Int32) r2.1).bind fun r5 =>
      (f256 (1 : Int32) 213 (64 : Int32) r5).bind fun r7 =>
      some r7
  else
    (ldA 213 v6 μ).bind fun x9 =>
    (ldA 158 v6 μ).bind fun x11 =>
    (stA 213 v6 (x9 ^^^ x11) μ).bind fun m13 =>
    nm (v6 + (1 : Int32)) fun x15 =>
    kl412 x15 m13
theorem b345_412_ok {L : Nat} (kl412 : Int32 → Mem → Option (Mem)) (hk412 : (∀ (v6 : Int32) (μ : Mem) (res : Mem), kl412 v6 μ = some res → Sx 345 412 [(0, .ref 129), (6, .int v6)] [] 0 0 (mk L μ) (mk L res, none))) (v6 : Int32) (μ : Mem) (res : Mem) (h : b345_412 kl412 v6 μ = some res) : Sx 345 412 [(0, .ref 129), (6, .int v6)] [] 0 0 (mk L μ) (mk L res, none) := by
  unfold b345_412 at h
  refine sx_iload k345_412 rfl ?_
  refine sx_bipush (v := 64) k345_414 (by decide) ?_
  by_cases hb1 : (64 : Int32) ≤ v6
  · rw [if_pos hb1] at h
    refine sx_icmp_ge (tgt := 442) k345_416 (by decide) (fun _ => ?_) (fun q => absurd hb1 q)
    refine sx_aload_n (i := 0) k345_442 rfl rfl ?_
    refine sx_iconst (v := 1) k345_443 (by decide) ?_
    obtain ⟨r2, e3, h⟩ := Option.bind_eq_some_iff.mp h
    refine cx_V (sk := []) (vs := [.int (1 : Int32)]) st_345_254 k345_444 ow_345 cl_12_69 (by decide) rfl (Nat.le_of_ble_eq_true rfl) sk_129 (ok254 (1 : Int32) _ _ e3) (sk3 := [.int r2.2]) rfl rfl ?_
    refine sx_sipush (v := 544) k345_447 (by decide) ?_
    by_cases hb4 : r2.2 < (544 : Int32)
    · rw [if_pos hb4] at h
      refine sx_icmp_lt (tgt := 474) k345_450 (by decide) (fun _ => ?_) (fun q => absurd hb4 q)
      exact cx_retv k345_474 rt_345 h
    · rw [if_neg hb4] at h
      refine sx_icmp_lt (tgt := 474) k345_450 (by decide) (fun q => absurd q hb4) (fun _ => ?_)
      refine sx_aload_n (i := 0) k345_453 rfl rfl ?_
      refine sx_iconst (v := 1) k345_454 (by decide) ?_
      refine sx_aload_n (i := 0) k345_455 rfl rfl ?_
      refine cx_getR (k := 143) k345_456 ow_345 fl_12_718 (by decide) sk_129 ft_11_143 sr_129_143 ?_
      refine sx_iconst (v := 4) k345_459 (by decide) ?_
      obtain ⟨r5, e6, h⟩ := Option.bind_eq_some_iff.mp h
      refine cx_V (sk := []) (vs := [.int (1 : Int32), .ref 214, .int (4 : Int32)]) st_345_256 k345_460 ow_345 cl_12_73 (by decide) rfl (Nat.le_of_ble_eq_true rfl) sk_129 (ok256 (1 : Int32) 214 (4 : Int32) sk_214 _ _ e6) (sk3 := []) rfl rfl ?_
      refine sx_aload_n (i := 0) k345_463 rfl rfl ?_
      refine sx_iconst (v := 1) k345_464 (by decide) ?_
      refine sx_aload_n (i := 0) k345_465 rfl rfl ?_
      refine cx_getR (k := 142) k345_466 ow_345 fl_12_706 (by decide) sk_129 ft_11_142 sr_129_142 ?_
      refine sx_bipush (v := 64) k345_469 (by decide) ?_
      obtain ⟨r7, e8, h⟩ := Option.bind_eq_some_iff.mp h
      refine cx_V (sk := []) (vs := [.int (1 : Int32), .ref 213, .int (64 : Int32)]) st_345_256 k345_471 ow_345 cl_12_73 (by decide) rfl (Nat.le_of_ble_eq_true rfl) sk_129 (ok256 (1 : Int32) 213 (64 : Int32) sk_213 _ _ e8) (sk3 := []) rfl rfl ?_
      exact cx_retv k345_474 rt_345 h
  · rw [if_neg hb1] at h
    refine sx_icmp_ge (tgt := 442) k345_416 (by decide) (fun q => absurd q hb1) (fun _ => ?_)
    refine sx_aload_n (i := 0) k345_419 rfl rfl ?_
    refine cx_getR (k := 142) k345_420 ow_345 fl_12_706 (by decide) sk_129 ft_11_142 sr_129_142 ?_
    refine sx_iload k345_423 rfl ?_
    refine sx_dup2 k345_425 rfl rfl ?_
    obtain ⟨x9, e10, h⟩ := Option.bind_eq_some_iff.mp h
    refine cx_iald k345_426 sk_213 e10 ?_
    refine sx_aload_n (i := 0) k345_427 rfl rfl ?_
    refine cx_getR (k := 73) k345_428 ow_345 fl_12_328 (by decide) sk_129 ft_11_73 sr_129_73 ?_
    refine sx_iload k345_431 rfl ?_
    obtain ⟨x11, e12, h⟩ := Option.bind_eq_some_iff.mp h
    refine cx_iald k345_433 sk_158 e12 ?_
    refine sx_ixor k345_434 ?_
    obtain ⟨m13, e14, h⟩ := Option.bind_eq_some_iff.mp h
    refine cx_iast k345_435 sk_213 e14 ?_
    refine cx_iinc (c := 1) (lo2 := fun x15 => [(6, .int x15), (0, .ref 129)]) k345_436 rfl (by decide) (by rw [mx_345]; decide) (fun _ => rfl) h (fun x15 h => ?_)
    refine sx_goto (tgt := 412) k345_439 (by decide) ?_
    refine sx_pick (lo2 := [(0, .ref 129), (6, .int x15)]) [1, 0] rfl ?_
    exact hk412 x15 _ _ h
def l345_412 : Nat → Int32 × Mem → Option (Mem) :=
  fixN (fun self x => b345_412 (fun v6 μ => self (v6, μ)) (x.1) (x.2))
theorem l345_412_ok {L : Nat} (n : Nat) (v6 : Int32) (μ : Mem) (res : Mem) (h : l345_412 n (v6, μ) = some res) : Sx 345 412 [(0, .ref 129), (6, .int v6)] [] 0 0 (mk L μ) (mk L res, none) := by
  have key := fixN_ind (P := fun x res => Sx 345 412 [(0, .ref 129), (6, .int (x.1))] [] 0 0 (mk L (x.2)) (mk L res, none)) (F := fun self x => b345_412 (fun v6 μ => self (v6, μ)) (x.1) (x.2)) (fun self hself x res h => b345_412_ok (fun v6 μ => self (v6, μ)) (fun v6 μ res hh => hself (v6, μ) res hh) (x.1) (x.2) res h) n (v6, μ) res h
  exact key
def c345_352 (s1 : Int32) (s2 : Int32) (s3 : Int32) (μ : Mem) : Option (Mem) :=
  (stA 213 s1 ((s2 ||| s3) ||| (jshl (μ.1 129 23) (1 : Int32))) μ).bind fun m1 =>
  (stA 213 (61 : Int32) (m1.1 129 19) m1).bind fun m3 =>
  (f245 213 (0 : Int32) (62 : Int32) m3).bind fun r5 =>
  (stA 213 (62 : Int32) (jshr r5.2 (8 : Int32)) r5.1).bind fun m7 =>
  (stA 213 (63 : Int32) (r5.2 &&& (255 : Int32)) m7).bind fun m9 =>
  l345_412 gF ((0 : Int32), m9)
theorem c345_352_ok {L : Nat} (s1 : Int32) (s2 : Int32) (s3 : Int32) (μ : Mem) (res : Mem) (h : c345_352 s1 s2 s3 μ = some res) : Sx 345 352 [(0, .ref 129)] [.int s3, .int s2, .int s1, .ref 213] 0 0 (mk L μ) (mk L res, none) := by
  unfold c345_352 at h
  refine sx_ior k345_352 ?_
  refine sx_aload_n (i := 0) k345_353 rfl rfl ?_
  refine cx_getI (k := 23) k345_354 ow_345 fl_12_133 (by decide) sk_129 ft_11_23 ?_
  refine sx_iconst (v := 1) k345_357 (by decide) ?_
  refine sx_ishl k345_358 ?_
  refine sx_ior k345_359 ?_
  obtain ⟨m1, e2, h⟩ := Option.bind_eq_some_iff.mp h
  refine cx_iast k345_360 sk_213 e2 ?_
  refine sx_aload_n (i := 0) k345_361 rfl rfl ?_
  refine cx_getR (k := 142) k345_362 ow_345 fl_12_706 (by decide) sk_129 ft_11_142 sr_129_142 ?_
  refine sx_bipush (v := 61) k345_365 (by decide) ?_
  refine sx_aload_n (i := 0) k345_367 rfl rfl ?_
  refine cx_getI (k := 19) k345_368 ow_345 fl_12_139 (by decide) sk_129 ft_11_19 ?_
  obtain ⟨m3, e4, h⟩ := Option.bind_eq_some_iff.mp h
  refine cx_iast k345_371 sk_213 e4 ?_
  refine sx_aload_n (i := 0) k345_372 rfl rfl ?_
  refine cx_getR (k := 142) k345_373 ow_345 fl_12_706 (by decide) sk_129 ft_11_142 sr_129_142 ?_
  refine sx_iconst (v := 0) k345_376 (by decide) ?_
  refine sx_bipush (v := 62) k345_377 (by decide) ?_
  obtain ⟨r5, e6, h⟩ := Option.bind_eq_some_iff.mp h
  refine cx_S (sk := []) (vs := [.ref 213, .int (0 : Int32), .int (62 : Int32)]) st_345_245 k345_379 ow_345 cl_12_11 (by decide) rfl (Nat.le_of_ble_eq_true rfl) (ok245 213 (0 : Int32) (62 : Int32) sk_213 _ _ e6) (sk3 := [.int r5.2]) rfl rfl ?_
  refine cx_istore (lo2 := [(5, .int r5.2), (0, .ref 129)]) k345_382 (by rw [mx_345]; decide) rfl ?_
  refine sx_aload_n (i := 0) k345_384 rfl rfl ?_
  refine cx_getR (k := 142) k345_385 ow_345 fl_12_706 (by decide) sk_129 ft_11_142 sr_129_142 ?_
  refine sx_bipush (v := 62) k345_388 (by decide) ?_
  refine sx_iload k345_390 rfl ?_
  refine sx_bipush (v := 8) k345_392 (by decide) ?_
  refine sx_ishr k345_394 ?_
  obtain ⟨m7, e8, h⟩ := Option.bind_eq_some_iff.mp h
  refine cx_iast k345_395 sk_213 e8 ?_
  refine sx_aload_n (i := 0) k345_396 rfl rfl ?_
  refine cx_getR (k := 142) k345_397 ow_345 fl_12_706 (by decide) sk_129 ft_11_142 sr_129_142 ?_
  refine sx_bipush (v := 63) k345_400 (by decide) ?_
  refine sx_iload k345_402 rfl ?_
  refine sx_sipush (v := 255) k345_404 (by decide) ?_
  refine sx_iand k345_407 ?_
  obtain ⟨m9, e10, h⟩ := Option.bind_eq_some_iff.mp h
  refine cx_iast k345_408 sk_213 e10 ?_
  refine sx_iconst (v := 0) k345_409 (by decide) ?_
  refine cx_istore (lo2 := [(6, .int (0 : Int32)), (5, .int r5.2), (0, .ref 129)]) k345_410 (by rw [mx_345]; decide) rfl ?_
  refine sx_pick (lo2 := [(0, .ref 129), (6, .int (0 : Int32))]) [2, 0] rfl ?_
  exact l345_412_ok gF (0 : Int32) _ _ h
def c345_338 (s1 : Int32) (s2 : Int32) (s3 : Int32) (μ : Mem) : Option (Mem) :=
  if (μ.1 129 22) = 0 then
    c345_352 s1 (s2 ||| s3) (0 : Int32) μ
  else
    c345_352 s1 (s2 ||| s3) (8 : Int32) μ
theorem c345_338_ok {L : Nat} (s1 : Int32) (s2 : Int32) (s3 : Int32) (μ : Mem) (res : Mem) (h : c345_338 s1 s2 s3 μ = some res) : Sx 345 338 [(0, .ref 129)] [.int s3, .int s2, .int s1, .ref 213] 0 0 (mk L μ) (mk L res, none) := by
  unfold c345_338 at h
  refine sx_ior k345_338 ?_
  refine sx_aload_n (i := 0) k345_339 rfl rfl ?_
  refine cx_getI (k := 22) k345_340 ow_345 fl_12_145 (by decide) sk_129 ft_11_22 ?_
  by_cases hb1 : (μ.1 129 22) = 0
  · rw [if_pos hb1] at h
    refine sx_if_eq (tgt := 351) k345_343 (by decide) (fun _ => ?_) (fun q => absurd hb1 q)
    refine sx_iconst (v := 0) k345_351 (by decide) ?_
    refine sx_pick (lo2 := [(0, .ref 129)]) [0] rfl ?_
    exact c345_352_ok s1 (s2 ||| s3) (0 : Int32) _ _ h
  · rw [if_neg hb1] at h
    refine sx_if_eq (tgt := 351) k345_343 (by decide) (fun q => absurd q hb1) (fun _ => ?_)
    refine sx_bipush (v := 8) k345_346 (by decide) ?_
    refine sx_goto (tgt := 352) k345_348 (by decide) ?_
    refine sx_pick (lo2 := [(0, .ref 129)]) [0] rfl ?_
    exact c345_352_ok s1 (s2 ||| s3) (8 : Int32) _ _ h
def c345_325 (s1 : Int32) (s2 : Int32) (μ : Mem) : Option (Mem) :=
  if (μ.1 129 21) = 0 then
    c345_338 s1 s2 (0 : Int32) μ
  else
    c345_338 s1 s2 (16 : Int32) μ
theorem c345_325_ok {L : Nat} (s1 : Int32) (s2 : Int32) (μ : Mem) (res : Mem) (h : c345_325 s1 s2 μ = some res) : Sx 345 325 [(0, .ref 129)] [.int s2, .int s1, .ref 213] 0 0 (mk L μ) (mk L res, none) := by
  unfold c345_325 at h
  refine sx_aload_n (i := 0) k345_325 rfl rfl ?_
  refine cx_getI (k := 21) k345_326 ow_345 fl_12_142 (by decide) sk_129 ft_11_21 ?_
  by_cases hb1 : (μ.1 129 21) = 0
  · rw [if_pos hb1] at h
    refine sx_if_eq (tgt := 337) k345_329 (by decide) (fun _ => ?_) (fun q => absurd hb1 q)
    refine sx_iconst (v := 0) k345_337 (by decide) ?_
    refine sx_pick (lo2 := [(0, .ref 129)]) [0] rfl ?_
    exact c345_338_ok s1 s2 (0 : Int32) _ _ h
  · rw [if_neg hb1] at h
    refine sx_if_eq (tgt := 337) k345_329 (by decide) (fun q => absurd q hb1) (fun _ => ?_)
    refine sx_bipush (v := 16) k345_332 (by decide) ?_
    refine sx_goto (tgt := 338) k345_334 (by decide) ?_
    refine sx_pick (lo2 := [(0, .ref 129)]) [0] rfl ?_
    exact c345_338_ok s1 s2 (16 : Int32) _ _ h
def b345_76 (kl76 : Int32 → Int32 → Int32 → Mem → Option (Mem)) (v2 : Int32) (v3 : Int32) (v4 : Int32) (μ : Mem) : Option (Mem) :=
  if (52 : Int32) ≤ v4 then
    nm (((2736 : Int32) ||| (jshl v2 (1 : Int32))) ||| (1 : Int32)) fun x2 =>
    (stA 213 (0 : Int32) (jshr x2 (8 : Int32)) μ).bind fun m3 =>
    (stA 213 (1 : Int32) (x2 &&& (255 : Int32)) m3).bind fun m5 =>
    (stA 213 (2 : Int32) (m5.1 129 139) m5).bind fun m7 =>
    (ldA 212 v2 m7).bind fun x9 =>
    (stA 213 (3 : Int32) x9 m7).bind fun m11 =>
    (stA 213 (4 : Int32) ((24 : Int32) ||| (jshr v3 (8 : Int32))) m11).bind fun m13 =>
    (stA 213 (5 : Int32) (v3 &&& (255 : Int32)) m13).bind fun m15 =>
    (pfI 129 139 (((m15.1 129 139) + (1 : Int32)) &&& (255 : Int32)) m15).bind fun m17 =>
    (ldA 212 v2 m17).bind fun x19 =>
    (stA 212 v2 ((x19 + (1 : Int32)) &&& (255 : Int32)) m17).bind fun m21 =>
    (stA 213 (58 : Int32) (1 : Int32) m21).bind fun m23 =>
    (stA 213 (59 : Int32) (0 : Int32) m23).bind fun m25 =>
    if (m25.1 129 20) = 0 then
      c345_325 (60 : Int32) (0 : Int32) m25
    else
      c345_325 (60 : Int32) (32 : Int32) m25
  else
    if v2 = (7 : Int32) then
      (stA 213 ((6 : Int32) + v4) (85 : Int32) μ).bind fun m35 =>
      c345_172 kl76 v2 v3 v4 m35
    else
      (f342 v2 μ).bind fun r29 =>
      if r29.2 = 0 then
        (f344 v2 ((52 : Int32) - v4) r29.1).bind fun r32 =>
        if v3 = (2047 : Int32) then
          c345_135 kl76 v2 v4 v4 r32
        else
          c345_135 kl76 v2 v4 v3 r32
      else
        c345_136 kl76 v2 v3 v4 r29.1
theorem b345_76_ok {L : Nat} (kl76 : Int32 → Int32 → Int32 → Mem → Option (Mem)) (hk76 : (∀ (v2 : Int32) (v3 : Int32) (v4 : Int32) (μ : Mem) (res : Mem), kl76 v2 v3 v4 μ = some res → Sx 345 76 [(0, .ref 129), (2, .int v2), (3, .int v3), (4, .int v4)] [] 0 0 (mk L μ) (mk L res, none))) (v2 : Int32) (v3 : Int32) (v4 : Int32) (μ : Mem) (res : Mem) (h : b345_76 kl76 v2 v3 v4 μ = some res) : Sx 345 76 [(0, .ref 129), (2, .int v2), (3, .int v3), (4, .int v4)] [] 0 0 (mk L μ) (mk L res, none) := by
  unfold b345_76 at h
  refine sx_iload k345_76 rfl ?_
  refine sx_bipush (v := 52) k345_78 (by decide) ?_
  by_cases hb1 : (52 : Int32) ≤ v4
  · rw [if_pos hb1] at h
    refine sx_icmp_ge (tgt := 178) k345_80 (by decide) (fun _ => ?_) (fun q => absurd hb1 q)
    refine sx_sipush (v := 2736) k345_178 (by decide) ?_
    refine sx_iload_n (i := 2) k345_181 rfl rfl ?_
    refine sx_iconst (v := 1) k345_182 (by decide) ?_
    refine sx_ishl k345_183 ?_
    refine sx_ior k345_184 ?_
    refine sx_iconst (v := 1) k345_185 (by decide) ?_
    refine sx_ior k345_186 ?_
    refine cx_nm h (fun x2 h => ?_)
    refine cx_istore (lo2 := [(4, .int x2), (0, .ref 129), (2, .int v2), (3, .int v3)]) k345_187 (by rw [mx_345]; decide) rfl ?_
    refine sx_aload_n (i := 0) k345_189 rfl rfl ?_
    refine cx_getR (k := 142) k345_190 ow_345 fl_12_706 (by decide) sk_129 ft_11_142 sr_129_142 ?_
    refine sx_iconst (v := 0) k345_193 (by decide) ?_
    refine sx_iload k345_194 rfl ?_
    refine sx_bipush (v := 8) k345_196 (by decide) ?_
    refine sx_ishr k345_198 ?_
    obtain ⟨m3, e4, h⟩ := Option.bind_eq_some_iff.mp h
    refine cx_iast k345_199 sk_213 e4 ?_
    refine sx_aload_n (i := 0) k345_200 rfl rfl ?_
    refine cx_getR (k := 142) k345_201 ow_345 fl_12_706 (by decide) sk_129 ft_11_142 sr_129_142 ?_
    refine sx_iconst (v := 1) k345_204 (by decide) ?_
    refine sx_iload k345_205 rfl ?_
    refine sx_sipush (v := 255) k345_207 (by decide) ?_
    refine sx_iand k345_210 ?_
    obtain ⟨m5, e6, h⟩ := Option.bind_eq_some_iff.mp h
    refine cx_iast k345_211 sk_213 e6 ?_
    refine sx_aload_n (i := 0) k345_212 rfl rfl ?_
    refine cx_getR (k := 142) k345_213 ow_345 fl_12_706 (by decide) sk_129 ft_11_142 sr_129_142 ?_
    refine sx_iconst (v := 2) k345_216 (by decide) ?_
    refine sx_aload_n (i := 0) k345_217 rfl rfl ?_
    refine cx_getI (k := 139) k345_218 ow_345 fl_12_712 (by decide) sk_129 ft_11_139 ?_
    obtain ⟨m7, e8, h⟩ := Option.bind_eq_some_iff.mp h
    refine cx_iast k345_221 sk_213 e8 ?_
    refine sx_aload_n (i := 0) k345_222 rfl rfl ?_
    refine cx_getR (k := 142) k345_223 ow_345 fl_12_706 (by decide) sk_129 ft_11_142 sr_129_142 ?_
    refine sx_iconst (v := 3) k345_226 (by decide) ?_
    refine sx_aload_n (i := 0) k345_227 rfl rfl ?_
    refine cx_getR (k := 140) k345_228 ow_345 fl_12_715 (by decide) sk_129 ft_11_140 sr_129_140 ?_
    refine sx_iload_n (i := 2) k345_231 rfl rfl ?_
    obtain ⟨x9, e10, h⟩ := Option.bind_eq_some_iff.mp h
    refine cx_iald k345_232 sk_212 e10 ?_
    obtain ⟨m11, e12, h⟩ := Option.bind_eq_some_iff.mp h
    refine cx_iast k345_233 sk_213 e12 ?_
    refine sx_aload_n (i := 0) k345_234 rfl rfl ?_
    refine cx_getR (k := 142) k345_235 ow_345 fl_12_706 (by decide) sk_129 ft_11_142 sr_129_142 ?_
    refine sx_iconst (v := 4) k345_238 (by decide) ?_
    refine sx_bipush (v := 24) k345_239 (by decide) ?_
    refine sx_iload_n (i := 3) k345_241 rfl rfl ?_
    refine sx_bipush (v := 8) k345_242 (by decide) ?_
    refine sx_ishr k345_244 ?_
    refine sx_ior k345_245 ?_
    obtain ⟨m13, e14, h⟩ := Option.bind_eq_some_iff.mp h
    refine cx_iast k345_246 sk_213 e14 ?_
    refine sx_aload_n (i := 0) k345_247 rfl rfl ?_
    refine cx_getR (k := 142) k345_248 ow_345 fl_12_706 (by decide) sk_129 ft_11_142 sr_129_142 ?_
    refine sx_iconst (v := 5) k345_251 (by decide) ?_
    refine sx_iload_n (i := 3) k345_252 rfl rfl ?_
    refine sx_sipush (v := 255) k345_253 (by decide) ?_
    refine sx_iand k345_256 ?_
    obtain ⟨m15, e16, h⟩ := Option.bind_eq_some_iff.mp h
    refine cx_iast k345_257 sk_213 e16 ?_
    refine sx_aload_n (i := 0) k345_258 rfl rfl ?_
    refine sx_aload_n (i := 0) k345_259 rfl rfl ?_
    refine cx_getI (k := 139) k345_260 ow_345 fl_12_712 (by decide) sk_129 ft_11_139 ?_
    refine sx_iconst (v := 1) k345_263 (by decide) ?_
    refine sx_iadd k345_264 ?_
    refine sx_sipush (v := 255) k345_265 (by decide) ?_
    refine sx_iand k345_268 ?_
    obtain ⟨m17, e18, h⟩ := Option.bind_eq_some_iff.mp h
    refine cx_putI (k := 139) k345_269 ow_345 fl_12_712 (by decide) sk_129 nf_11_139 fu_11_139 e18 ?_
    refine sx_aload_n (i := 0) k345_272 rfl rfl ?_
    refine cx_getR (k := 140) k345_273 ow_345 fl_12_715 (by decide) sk_129 ft_11_140 sr_129_140 ?_
    refine sx_iload_n (i := 2) k345_276 rfl rfl ?_
    refine sx_aload_n (i := 0) k345_277 rfl rfl ?_
    refine cx_getR (k := 140) k345_278 ow_345 fl_12_715 (by decide) sk_129 ft_11_140 sr_129_140 ?_
    refine sx_iload_n (i := 2) k345_281 rfl rfl ?_
    obtain ⟨x19, e20, h⟩ := Option.bind_eq_some_iff.mp h
    refine cx_iald k345_282 sk_212 e20 ?_
    refine sx_iconst (v := 1) k345_283 (by decide) ?_
    refine sx_iadd k345_284 ?_
    refine sx_sipush (v := 255) k345_285 (by decide) ?_
    refine sx_iand k345_288 ?_
    obtain ⟨m21, e22, h⟩ := Option.bind_eq_some_iff.mp h
    refine cx_iast k345_289 sk_212 e22 ?_
    refine sx_aload_n (i := 0) k345_290 rfl rfl ?_
    refine cx_getR (k := 142) k345_291 ow_345 fl_12_706 (by decide) sk_129 ft_11_142 sr_129_142 ?_
    refine sx_bipush (v := 58) k345_294 (by decide) ?_
    refine sx_iconst (v := 1) k345_296 (by decide) ?_
    obtain ⟨m23, e24, h⟩ := Option.bind_eq_some_iff.mp h
    refine cx_iast k345_297 sk_213 e24 ?_
    refine sx_aload_n (i := 0) k345_298 rfl rfl ?_
    refine cx_getR (k := 142) k345_299 ow_345 fl_12_706 (by decide) sk_129 ft_11_142 sr_129_142 ?_
    refine sx_bipush (v := 59) k345_302 (by decide) ?_
    refine sx_iconst (v := 0) k345_304 (by decide) ?_
    obtain ⟨m25, e26, h⟩ := Option.bind_eq_some_iff.mp h
    refine cx_iast k345_305 sk_213 e26 ?_
    refine sx_aload_n (i := 0) k345_306 rfl rfl ?_
    refine cx_getR (k := 142) k345_307 ow_345 fl_12_706 (by decide) sk_129 ft_11_142 sr_129_142 ?_
    refine sx_bipush (v := 60) k345_310 (by decide) ?_
    refine sx_aload_n (i := 0) k345_312 rfl rfl ?_
    refine cx_getI (k := 20) k345_313 ow_345 fl_12_136 (by decide) sk_129 ft_11_20 ?_
    by_cases hb27 : (m25.1 129 20) = 0
    · rw [if_pos hb27] at h
      refine sx_if_eq (tgt := 324) k345_316 (by decide) (fun _ => ?_) (fun q => absurd hb27 q)
      refine sx_iconst (v := 0) k345_324 (by decide) ?_
      refine sx_pick (lo2 := [(0, .ref 129)]) [1] rfl ?_
      exact c345_325_ok (60 : Int32) (0 : Int32) _ _ h
    · rw [if_neg hb27] at h
      refine sx_if_eq (tgt := 324) k345_316 (by decide) (fun q => absurd q hb27) (fun _ => ?_)
      refine sx_bipush (v := 32) k345_319 (by decide) ?_
      refine sx_goto (tgt := 325) k345_321 (by decide) ?_
      refine sx_pick (lo2 := [(0, .ref 129)]) [1] rfl ?_
      exact c345_325_ok (60 : Int32) (32 : Int32) _ _ h
  · rw [if_neg hb1] at h
    refine sx_icmp_ge (tgt := 178) k345_80 (by decide) (fun q => absurd q hb1) (fun _ => ?_)
    refine sx_iload_n (i := 2) k345_83 rfl rfl ?_
    refine sx_bipush (v := 7) k345_84 (by decide) ?_
    by_cases hb28 : v2 = (7 : Int32)
    · rw [if_pos hb28] at h
      refine sx_icmp_ne (tgt := 104) k345_86 (by decide) (fun q => absurd hb28 q) (fun _ => ?_)
      refine sx_aload_n (i := 0) k345_89 rfl rfl ?_
      refine cx_getR (k := 142) k345_90 ow_345 fl_12_706 (by decide) sk_129 ft_11_142 sr_129_142 ?_
      refine sx_bipush (v := 6) k345_93 (by decide) ?_
      refine sx_iload k345_95 rfl ?_
      refine sx_iadd k345_97 ?_
      refine sx_bipush (v := 85) k345_98 (by decide) ?_
      obtain ⟨m35, e36, h⟩ := Option.bind_eq_some_iff.mp h
      refine cx_iast k345_100 sk_213 e36 ?_
      refine sx_goto (tgt := 172) k345_101 (by decide) ?_
      refine sx_pick (lo2 := [(0, .ref 129), (2, .int v2), (3, .int v3), (4, .int v4)]) [0, 1, 2, 3] rfl ?_
      exact c345_172_ok kl76 hk76 v2 v3 v4 _ _ h
    · rw [if_neg hb28] at h
      refine sx_icmp_ne (tgt := 104) k345_86 (by decide) (fun _ => ?_) (fun q => absurd q hb28)
      refine sx_aload_n (i := 0) k345_104 rfl rfl ?_
      refine sx_iload_n (i := 2) k345_105 rfl rfl ?_
      obtain ⟨r29, e30, h⟩ := Option.bind_eq_some_iff.mp h
      refine cx_V (sk := []) (vs := [.int v2]) st_345_342 k345_106 ow_345 cl_12_691 (by decide) rfl (Nat.le_of_ble_eq_true rfl) sk_129 (ok342 v2 _ _ e30) (sk3 := [.int r29.2]) rfl rfl ?_
      by_cases hb31 : r29.2 = 0
      · rw [if_pos hb31] at h
        refine sx_if_ne (tgt := 136) k345_109 (by decide) (fun q => absurd hb31 q) (fun _ => ?_)
        refine sx_aload_n (i := 0) k345_112 rfl rfl ?_
        refine sx_iload_n (i := 2) k345_113 rfl rfl ?_
        refine sx_bipush (v := 52) k345_114 (by decide) ?_
        refine sx_iload k345_116 rfl ?_
        refine sx_isub k345_118 ?_
        obtain ⟨r32, e33, h⟩ := Option.bind_eq_some_iff.mp h
        refine cx_V (sk := []) (vs := [.int v2, .int ((52 : Int32) - v4)]) st_345_344 k345_119 ow_345 cl_12_709 (by decide) rfl (Nat.le_of_ble_eq_true rfl) sk_129 (ok344 v2 ((52 : Int32) - v4) _ _ e33) (sk3 := []) rfl rfl ?_
        refine sx_iload_n (i := 3) k345_122 rfl rfl ?_
        refine sx_sipush (v := 2047) k345_123 (by decide) ?_
        by_cases hb34 : v3 = (2047 : Int32)
        · rw [if_pos hb34] at h
          refine sx_icmp_ne (tgt := 134) k345_126 (by decide) (fun q => absurd hb34 q) (fun _ => ?_)
          refine sx_iload k345_129 rfl ?_
          refine sx_goto (tgt := 135) k345_131 (by decide) ?_
          refine sx_pick (lo2 := [(0, .ref 129), (2, .int v2), (4, .int v4)]) [0, 1, 3] rfl ?_
          exact c345_135_ok kl76 hk76 v2 v4 v4 _ _ h
        · rw [if_neg hb34] at h
          refine sx_icmp_ne (tgt := 134) k345_126 (by decide) (fun _ => ?_) (fun q => absurd q hb34)
          refine sx_iload_n (i := 3) k345_134 rfl rfl ?_
          refine sx_pick (lo2 := [(0, .ref 129), (2, .int v2), (4, .int v4)]) [0, 1, 3] rfl ?_
          exact c345_135_ok kl76 hk76 v2 v4 v3 _ _ h
      · rw [if_neg hb31] at h
        refine sx_if_ne (tgt := 136) k345_109 (by decide) (fun _ => ?_) (fun q => absurd q hb31)
        refine sx_pick (lo2 := [(0, .ref 129), (2, .int v2), (3, .int v3), (4, .int v4)]) [0, 1, 2, 3] rfl ?_
        exact c345_136_ok kl76 hk76 v2 v3 v4 _ _ h
def l345_76 : Nat → Int32 × Int32 × Int32 × Mem → Option (Mem) :=
  fixN (fun self x => b345_76 (fun v2 v3 v4 μ => self (v2, v3, v4, μ)) (x.1) (x.2.1) (x.2.2.1) (x.2.2.2))
theorem l345_76_ok {L : Nat} (n : Nat) (v2 : Int32) (v3 : Int32) (v4 : Int32) (μ : Mem) (res : Mem) (h : l345_76 n (v2, v3, v4, μ) = some res) : Sx 345 76 [(0, .ref 129), (2, .int v2), (3, .int v3), (4, .int v4)] [] 0 0 (mk L μ) (mk L res, none) := by
  have key := fixN_ind (P := fun x res => Sx 345 76 [(0, .ref 129), (2, .int (x.1)), (3, .int (x.2.1)), (4, .int (x.2.2.1))] [] 0 0 (mk L (x.2.2.2)) (mk L res, none)) (F := fun self x => b345_76 (fun v2 v3 v4 μ => self (v2, v3, v4, μ)) (x.1) (x.2.1) (x.2.2.1) (x.2.2.2)) (fun self hself x res h => b345_76_ok (fun v2 v3 v4 μ => self (v2, v3, v4, μ)) (fun v2 v3 v4 μ res hh => hself (v2, v3, v4, μ) res hh) (x.1) (x.2.1) (x.2.2.1) (x.2.2.2) res h) n (v2, v3, v4, μ) res h
  exact key
def c345_72 (v2 : Int32) (s0 : Int32) (μ : Mem) : Option (Mem) :=
  l345_76 gF (v2, s0, (0 : Int32), μ)
theorem c345_72_ok {L : Nat} (v2 : Int32) (s0 : Int32) (μ : Mem) (res : Mem) (h : c345_72 v2 s0 μ = some res) : Sx 345 72 [(0, .ref 129), (2, .int v2)] [.int s0] 0 0 (mk L μ) (mk L res, none) := by
  unfold c345_72 at h
  refine cx_istore_n (lo2 := [(3, .int s0), (0, .ref 129), (2, .int v2)]) k345_72 rfl (by rw [mx_345]; decide) rfl ?_
  refine sx_iconst (v := 0) k345_73 (by decide) ?_
  refine cx_istore (lo2 := [(4, .int (0 : Int32)), (3, .int s0), (0, .ref 129), (2, .int v2)]) k345_74 (by rw [mx_345]; decide) rfl ?_
  refine sx_pick (lo2 := [(0, .ref 129), (2, .int v2), (3, .int s0), (4, .int (0 : Int32))]) [2, 3, 1, 0] rfl ?_
  exact l345_76_ok gF v2 s0 (0 : Int32) _ _ h
def c345_51 (v1 : Int32) (s0 : Int32) (μ : Mem) : Option (Mem) :=
  (pfZ 129 141 v1 μ).bind fun m1 =>
  if s0 = (7 : Int32) then
    c345_72 s0 (2046 : Int32) m1
  else
    c345_72 s0 (2047 : Int32) m1
theorem c345_51_ok {L : Nat} (v1 : Int32) (s0 : Int32) (μ : Mem) (res : Mem) (h : c345_51 v1 s0 μ = some res) : Sx 345 51 [(0, .ref 129), (1, .int v1)] [.int s0] 0 0 (mk L μ) (mk L res, none) := by
  unfold c345_51 at h
  refine cx_istore_n (lo2 := [(2, .int s0), (0, .ref 129), (1, .int v1)]) k345_51 rfl (by rw [mx_345]; decide) rfl ?_
  refine sx_aload_n (i := 0) k345_52 rfl rfl ?_
  refine sx_iload_n (i := 1) k345_53 rfl rfl ?_
  obtain ⟨m1, e2, h⟩ := Option.bind_eq_some_iff.mp h
  refine cx_putZ (k := 141) k345_54 ow_345 fl_12_703 (by decide) sk_129 nf_11_141 fu_11_141 e2 ?_
  refine sx_iload_n (i := 2) k345_57 rfl rfl ?_
  refine sx_bipush (v := 7) k345_58 (by decide) ?_
  by_cases hb3 : s0 = (7 : Int32)
  · rw [if_pos hb3] at h
    refine sx_icmp_ne (tgt := 69) k345_60 (by decide) (fun q => absurd hb3 q) (fun _ => ?_)
    refine sx_sipush (v := 2046) k345_63 (by decide) ?_
    refine sx_goto (tgt := 72) k345_66 (by decide) ?_
    refine sx_pick (lo2 := [(0, .ref 129), (2, .int s0)]) [1, 0] rfl ?_
    exact c345_72_ok s0 (2046 : Int32) _ _ h
  · rw [if_neg hb3] at h
    refine sx_icmp_ne (tgt := 69) k345_60 (by decide) (fun _ => ?_) (fun q => absurd q hb3)
    refine sx_sipush (v := 2047) k345_69 (by decide) ?_
    refine sx_pick (lo2 := [(0, .ref 129), (2, .int s0)]) [1, 0] rfl ?_
    exact c345_72_ok s0 (2047 : Int32) _ _ h
def c345_28 (s0 : Int32) (μ : Mem) : Option (Mem) :=
  if s0 = 0 then
    (f343 (0 : Int32) μ).bind fun r2 =>
    if r2.2 = 0 then
      c345_51 s0 (7 : Int32) r2.1
    else
      c345_51 s0 (0 : Int32) r2.1
  else
    c345_51 s0 (1 : Int32) μ
theorem c345_28_ok {L : Nat} (s0 : Int32) (μ : Mem) (res : Mem) (h : c345_28 s0 μ = some res) : Sx 345 28 [(0, .ref 129)] [.int s0] 0 0 (mk L μ) (mk L res, none) := by
  unfold c345_28 at h
  refine cx_istore_n (lo2 := [(1, .int s0), (0, .ref 129)]) k345_28 rfl (by rw [mx_345]; decide) rfl ?_
  refine sx_iload_n (i := 1) k345_29 rfl rfl ?_
  by_cases hb1 : s0 = 0
  · rw [if_pos hb1] at h
    refine sx_if_eq (tgt := 37) k345_30 (by decide) (fun _ => ?_) (fun q => absurd hb1 q)
    refine sx_aload_n (i := 0) k345_37 rfl rfl ?_
    refine sx_iconst (v := 0) k345_38 (by decide) ?_
    obtain ⟨r2, e3, h⟩ := Option.bind_eq_some_iff.mp h
    refine cx_V (sk := []) (vs := [.int (0 : Int32)]) st_345_343 k345_39 ow_345 cl_12_700 (by decide) rfl (Nat.le_of_ble_eq_true rfl) sk_129 (ok343 (0 : Int32) _ _ e3) (sk3 := [.int r2.2]) rfl rfl ?_
    by_cases hb4 : r2.2 = 0
    · rw [if_pos hb4] at h
      refine sx_if_eq (tgt := 49) k345_42 (by decide) (fun _ => ?_) (fun q => absurd hb4 q)
      refine sx_bipush (v := 7) k345_49 (by decide) ?_
      refine sx_pick (lo2 := [(0, .ref 129), (1, .int s0)]) [1, 0] rfl ?_
      exact c345_51_ok s0 (7 : Int32) _ _ h
    · rw [if_neg hb4] at h
      refine sx_if_eq (tgt := 49) k345_42 (by decide) (fun q => absurd q hb4) (fun _ => ?_)
      refine sx_iconst (v := 0) k345_45 (by decide) ?_
      refine sx_goto (tgt := 51) k345_46 (by decide) ?_
      refine sx_pick (lo2 := [(0, .ref 129), (1, .int s0)]) [1, 0] rfl ?_
      exact c345_51_ok s0 (0 : Int32) _ _ h
  · rw [if_neg hb1] at h
    refine sx_if_eq (tgt := 37) k345_30 (by decide) (fun q => absurd q hb1) (fun _ => ?_)
    refine sx_iconst (v := 1) k345_33 (by decide) ?_
    refine sx_goto (tgt := 51) k345_34 (by decide) ?_
    refine sx_pick (lo2 := [(0, .ref 129), (1, .int s0)]) [1, 0] rfl ?_
    exact c345_51_ok s0 (1 : Int32) _ _ h
def c345_23 (μ : Mem) : Option (Mem) :=
  c345_28 (1 : Int32) μ
theorem c345_23_ok {L : Nat} (μ : Mem) (res : Mem) (h : c345_23 μ = some res) : Sx 345 23 [(0, .ref 129)] [] 0 0 (mk L μ) (mk L res, none) := by
  unfold c345_23 at h
  refine sx_iconst (v := 1) k345_23 (by decide) ?_
  refine sx_goto (tgt := 28) k345_24 (by decide) ?_
  refine sx_pick (lo2 := [(0, .ref 129)]) [0] rfl ?_
  exact c345_28_ok (1 : Int32) _ _ h
def c345_27 (μ : Mem) : Option (Mem) :=
  c345_28 (0 : Int32) μ
theorem c345_27_ok {L : Nat} (μ : Mem) (res : Mem) (h : c345_27 μ = some res) : Sx 345 27 [(0, .ref 129)] [] 0 0 (mk L μ) (mk L res, none) := by
  unfold c345_27 at h
  refine sx_iconst (v := 0) k345_27 (by decide) ?_
  refine sx_pick (lo2 := [(0, .ref 129)]) [0] rfl ?_
  exact c345_28_ok (0 : Int32) _ _ h
/-- CraftHouseModel.frameDown()V -/
def f345 (μ : Mem) : Option (Mem) :=
  (f343 (1 : Int32) μ).bind fun r1 =>
  if r1.2 = 0 then
    c345_27 r1.1
  else
    if (r1.1.1 129 141) = 0 then
      c345_23 r1.1
    else
      (f343 (0 : Int32) r1.1).bind fun r5 =>
      if r5.2 = 0 then
        c345_23 r5.1
      else
        c345_27 r5.1
theorem ok345 {L : Nat} (μ : Mem) (res : Mem) (h : f345 μ = some res) : Mx 345 [.ref 129] (mk L μ) (mk L res, none) := by
  refine Mx_of ml_345 (by rw [mx_345]; exact Nat.le_of_ble_eq_true rfl) ?_
  show Sx 345 0 [(0, .ref 129)] [] 0 0 (mk L μ) _
  unfold f345 at h
  refine sx_aload_n (i := 0) k345_0 rfl rfl ?_
  refine sx_iconst (v := 1) k345_1 (by decide) ?_
  obtain ⟨r1, e2, h⟩ := Option.bind_eq_some_iff.mp h
  refine cx_V (sk := []) (vs := [.int (1 : Int32)]) st_345_343 k345_2 ow_345 cl_12_700 (by decide) rfl (Nat.le_of_ble_eq_true rfl) sk_129 (ok343 (1 : Int32) _ _ e2) (sk3 := [.int r1.2]) rfl rfl ?_
  by_cases hb3 : r1.2 = 0
  · rw [if_pos hb3] at h
    refine sx_if_eq (tgt := 27) k345_5 (by decide) (fun _ => ?_) (fun q => absurd hb3 q)
    refine sx_pick (lo2 := [(0, .ref 129)]) [0] rfl ?_
    exact c345_27_ok _ _ h
  · rw [if_neg hb3] at h
    refine sx_if_eq (tgt := 27) k345_5 (by decide) (fun q => absurd q hb3) (fun _ => ?_)
    refine sx_aload_n (i := 0) k345_8 rfl rfl ?_
    refine cx_getI (k := 141) k345_9 ow_345 fl_12_703 (by decide) sk_129 ft_11_141 ?_
    by_cases hb4 : (r1.1.1 129 141) = 0
    · rw [if_pos hb4] at h
      refine sx_if_eq (tgt := 23) k345_12 (by decide) (fun _ => ?_) (fun q => absurd hb4 q)
      refine sx_pick (lo2 := [(0, .ref 129)]) [0] rfl ?_
      exact c345_23_ok _ _ h
    · rw [if_neg hb4] at h
      refine sx_if_eq (tgt := 23) k345_12 (by decide) (fun q => absurd q hb4) (fun _ => ?_)
      refine sx_aload_n (i := 0) k345_15 rfl rfl ?_
      refine sx_iconst (v := 0) k345_16 (by decide) ?_
      obtain ⟨r5, e6, h⟩ := Option.bind_eq_some_iff.mp h
      refine cx_V (sk := []) (vs := [.int (0 : Int32)]) st_345_343 k345_17 ow_345 cl_12_700 (by decide) rfl (Nat.le_of_ble_eq_true rfl) sk_129 (ok343 (0 : Int32) _ _ e6) (sk3 := [.int r5.2]) rfl rfl ?_
      by_cases hb7 : r5.2 = 0
      · rw [if_pos hb7] at h
        refine sx_if_ne (tgt := 27) k345_20 (by decide) (fun q => absurd hb7 q) (fun _ => ?_)
        refine sx_pick (lo2 := [(0, .ref 129)]) [0] rfl ?_
        exact c345_23_ok _ _ h
      · rw [if_neg hb7] at h
        refine sx_if_ne (tgt := 27) k345_20 (by decide) (fun _ => ?_) (fun q => absurd q hb7)
        refine sx_pick (lo2 := [(0, .ref 129)]) [0] rfl ?_
        exact c345_27_ok _ _ h
theorem k341_0 : decode (gb 341) 0 = .ok (.iload_n 1, 1) := by decide +kernel
theorem k341_1 : decode (gb 341) 1 = .ok (.ifCond .lt 10, 3) := by decide +kernel
theorem k341_4 : decode (gb 341) 4 = .ok (.iload_n 1, 1) := by decide +kernel
theorem k341_5 : decode (gb 341) 5 = .ok (.sipush 200, 3) := by decide +kernel
theorem k341_8 : decode (gb 341) 8 = .ok (.if_icmp .le 5, 3) := by decide +kernel
theorem k341_11 : decode (gb 341) 11 = .ok (.iconst (-1), 1) := by decide +kernel
theorem k341_12 : decode (gb 341) 12 = .ok (.ireturn, 1) := by decide +kernel
theorem k341_13 : decode (gb 341) 13 = .ok (.iconst 0, 1) := by decide +kernel
theorem k341_14 : decode (gb 341) 14 = .ok (.istore_n 2, 1) := by decide +kernel
theorem k341_15 : decode (gb 341) 15 = .ok (.iload_n 2, 1) := by decide +kernel
theorem k341_16 : decode (gb 341) 16 = .ok (.iload_n 1, 1) := by decide +kernel
theorem k341_17 : decode (gb 341) 17 = .ok (.if_icmp .ge 99, 3) := by decide +kernel
theorem k341_20 : decode (gb 341) 20 = .ok (.aload_n 0, 1) := by decide +kernel
theorem k341_21 : decode (gb 341) 21 = .ok (.dup, 1) := by decide +kernel
theorem k341_22 : decode (gb 341) 22 = .ok (.getfield 405, 3) := by decide +kernel
theorem k341_25 : decode (gb 341) 25 = .ok (.iconst 1, 1) := by decide +kernel
theorem k341_26 : decode (gb 341) 26 = .ok (.iadd, 1) := by decide +kernel
theorem k341_27 : decode (gb 341) 27 = .ok (.putfield 405, 3) := by decide +kernel
theorem k341_30 : decode (gb 341) 30 = .ok (.aload_n 0, 1) := by decide +kernel
theorem k341_31 : decode (gb 341) 31 = .ok (.invokevirtual 667, 3) := by decide +kernel
theorem k341_34 : decode (gb 341) 34 = .ok (.aload_n 0, 1) := by decide +kernel
theorem k341_35 : decode (gb 341) 35 = .ok (.invokevirtual 670, 3) := by decide +kernel
theorem k341_38 : decode (gb 341) 38 = .ok (.aload_n 0, 1) := by decide +kernel
theorem k341_39 : decode (gb 341) 39 = .ok (.invokevirtual 673, 3) := by decide +kernel
theorem k341_42 : decode (gb 341) 42 = .ok (.aload_n 0, 1) := by decide +kernel
theorem k341_43 : decode (gb 341) 43 = .ok (.getfield 148, 3) := by decide +kernel
theorem k341_46 : decode (gb 341) 46 = .ok (.iconst 4, 1) := by decide +kernel
theorem k341_47 : decode (gb 341) 47 = .ok (.if_icmp .ge 10, 3) := by decide +kernel
theorem k341_50 : decode (gb 341) 50 = .ok (.aload_n 0, 1) := by decide +kernel
theorem k341_51 : decode (gb 341) 51 = .ok (.getfield 148, 3) := by decide +kernel
theorem k341_54 : decode (gb 341) 54 = .ok (.goto 4, 3) := by decide +kernel
theorem k341_57 : decode (gb 341) 57 = .ok (.iconst 4, 1) := by decide +kernel
theorem k341_58 : decode (gb 341) 58 = .ok (.istore_n 3, 1) := by decide +kernel
theorem k341_59 : decode (gb 341) 59 = .ok (.iconst 0, 1) := by decide +kernel
theorem k341_60 : decode (gb 341) 60 = .ok (.istore 4, 2) := by decide +kernel
theorem k341_62 : decode (gb 341) 62 = .ok (.iload 4, 2) := by decide +kernel
theorem k341_64 : decode (gb 341) 64 = .ok (.iload_n 3, 1) := by decide +kernel
theorem k341_65 : decode (gb 341) 65 = .ok (.if_icmp .ge 13, 3) := by decide +kernel
theorem k341_68 : decode (gb 341) 68 = .ok (.aload_n 0, 1) := by decide +kernel
theorem k341_69 : decode (gb 341) 69 = .ok (.invokevirtual 676, 3) := by decide +kernel
theorem k341_72 : decode (gb 341) 72 = .ok (.iinc 4 1, 3) := by decide +kernel
theorem k341_75 : decode (gb 341) 75 = .ok (.goto (-13), 3) := by decide +kernel
theorem k341_78 : decode (gb 341) 78 = .ok (.aload_n 0, 1) := by decide +kernel
theorem k341_79 : decode (gb 341) 79 = .ok (.invokevirtual 679, 3) := by decide +kernel
theorem k341_82 : decode (gb 341) 82 = .ok (.aload_n 0, 1) := by decide +kernel
theorem k341_83 : decode (gb 341) 83 = .ok (.getfield 192, 3) := by decide +kernel
theorem k341_86 : decode (gb 341) 86 = .ok (.ifCond .le 24, 3) := by decide +kernel
theorem k341_89 : decode (gb 341) 89 = .ok (.aload_n 0, 1) := by decide +kernel
theorem k341_90 : decode (gb 341) 90 = .ok (.dup, 1) := by decide +kernel
theorem k341_91 : decode (gb 341) 91 = .ok (.getfield 192, 3) := by decide +kernel
theorem k341_94 : decode (gb 341) 94 = .ok (.iconst 1, 1) := by decide +kernel
theorem k341_95 : decode (gb 341) 95 = .ok (.isub, 1) := by decide +kernel
theorem k341_96 : decode (gb 341) 96 = .ok (.putfield 192, 3) := by decide +kernel
theorem k341_99 : decode (gb 341) 99 = .ok (.aload_n 0, 1) := by decide +kernel
theorem k341_100 : decode (gb 341) 100 = .ok (.getfield 192, 3) := by decide +kernel
theorem k341_103 : decode (gb 341) 103 = .ok (.ifCond .ne 7, 3) := by decide +kernel
theorem k341_106 : decode (gb 341) 106 = .ok (.aload_n 0, 1) := by decide +kernel
theorem k341_107 : decode (gb 341) 107 = .ok (.invokevirtual 682, 3) := by decide +kernel
theorem k341_110 : decode (gb 341) 110 = .ok (.iinc 2 1, 3) := by decide +kernel
theorem k341_113 : decode (gb 341) 113 = .ok (.goto (-98), 3) := by decide +kernel
theorem k341_116 : decode (gb 341) 116 = .ok (.aload_n 0, 1) := by decide +kernel
theorem k341_117 : decode (gb 341) 117 = .ok (.getfield 405, 3) := by decide +kernel
theorem k341_120 : decode (gb 341) 120 = .ok (.ireturn, 1) := by decide +kernel
def c341_110 (kl15 : Int32 → Int32 → Mem → Option (Mem × Int32)) (v1 : Int32) (v2 : Int32) (μ : Mem) : Option (Mem × Int32) :=
  nm (v2 + (1 : Int32)) fun x1 =>
  kl15 v1 x1 μ
theorem c341_110_ok {L : Nat} (kl15 : Int32 → Int32 → Mem → Option (Mem × Int32)) (hk15 : (∀ (v1 : Int32) (v2 : Int32) (μ : Mem) (res : Mem × Int32), kl15 v1 v2 μ = some res → Sx 341 15 [(0, .ref 129), (1, .int v1), (2, .int v2)] [] 0 0 (mk L μ) (mk L res.1, some (.int res.2)))) (v1 : Int32) (v2 : Int32) (μ : Mem) (res : Mem × Int32) (h : c341_110 kl15 v1 v2 μ = some res) : Sx 341 110 [(0, .ref 129), (1, .int v1), (2, .int v2)] [] 0 0 (mk L μ) (mk L res.1, some (.int res.2)) := by
  unfold c341_110 at h
  refine cx_iinc (c := 1) (lo2 := fun x1 => [(2, .int x1), (0, .ref 129), (1, .int v1)]) k341_110 rfl (by decide) (by rw [mx_341]; decide) (fun _ => rfl) h (fun x1 h => ?_)
  refine sx_goto (tgt := 15) k341_113 (by decide) ?_
  refine sx_pick (lo2 := [(0, .ref 129), (1, .int v1), (2, .int x1)]) [1, 2, 0] rfl ?_
  exact hk15 v1 x1 _ _ h
def b341_62 (kl15 : Int32 → Int32 → Mem → Option (Mem × Int32)) (kl62 : Int32 → Int32 → Int32 → Int32 → Mem → Option (Mem × Int32)) (v1 : Int32) (v2 : Int32) (v3 : Int32) (v4 : Int32) (μ : Mem) : Option (Mem × Int32) :=
  if v3 ≤ v4 then
    (f345 μ).bind fun r2 =>
    if (r2.1 129 34) ≤ 0 then
      c341_110 kl15 v1 v2 r2
    else
      (pfI 129 34 ((r2.1 129 34) - (1 : Int32)) r2).bind fun m5 =>
      if (m5.1 129 34) = 0 then
        (f283 m5).bind fun r8 =>
        c341_110 kl15 v1 v2 r8
      else
        c341_110 kl15 v1 v2 m5
  else
    (f319 μ).bind fun r10 =>
    nm (v4 + (1 : Int32)) fun x12 =>
    kl62 v1 v2 v3 x12 r10
theorem b341_62_ok {L : Nat} (kl15 : Int32 → Int32 → Mem → Option (Mem × Int32)) (kl62 : Int32 → Int32 → Int32 → Int32 → Mem → Option (Mem × Int32)) (hk15 : (∀ (v1 : Int32) (v2 : Int32) (μ : Mem) (res : Mem × Int32), kl15 v1 v2 μ = some res → Sx 341 15 [(0, .ref 129), (1, .int v1), (2, .int v2)] [] 0 0 (mk L μ) (mk L res.1, some (.int res.2)))) (hk62 : (∀ (v1 : Int32) (v2 : Int32) (v3 : Int32) (v4 : Int32) (μ : Mem) (res : Mem × Int32), kl62 v1 v2 v3 v4 μ = some res → Sx 341 62 [(0, .ref 129), (1, .int v1), (2, .int v2), (3, .int v3), (4, .int v4)] [] 0 0 (mk L μ) (mk L res.1, some (.int res.2)))) (v1 : Int32) (v2 : Int32) (v3 : Int32) (v4 : Int32) (μ : Mem) (res : Mem × Int32) (h : b341_62 kl15 kl62 v1 v2 v3 v4 μ = some res) : Sx 341 62 [(0, .ref 129), (1, .int v1), (2, .int v2), (3, .int v3), (4, .int v4)] [] 0 0 (mk L μ) (mk L res.1, some (.int res.2)) := by
  unfold b341_62 at h
  refine sx_iload k341_62 rfl ?_
  refine sx_iload_n (i := 3) k341_64 rfl rfl ?_
  by_cases hb1 : v3 ≤ v4
  · rw [if_pos hb1] at h
    refine sx_icmp_ge (tgt := 78) k341_65 (by decide) (fun _ => ?_) (fun q => absurd hb1 q)
    refine sx_aload_n (i := 0) k341_78 rfl rfl ?_
    obtain ⟨r2, e3, h⟩ := Option.bind_eq_some_iff.mp h
    refine cx_V (sk := []) (vs := []) st_341_345 k341_79 ow_341 cl_12_679 (by decide) rfl (Nat.le_of_ble_eq_true rfl) sk_129 (ok345 _ _ e3) (sk3 := []) rfl rfl ?_
    refine sx_aload_n (i := 0) k341_82 rfl rfl ?_
    refine cx_getI (k := 34) k341_83 ow_341 fl_12_192 (by decide) sk_129 ft_11_34 ?_
    by_cases hb4 : (r2.1 129 34) ≤ 0
    · rw [if_pos hb4] at h
      refine sx_if_le (tgt := 110) k341_86 (by decide) (fun _ => ?_) (fun q => absurd hb4 q)
      refine sx_pick (lo2 := [(0, .ref 129), (1, .int v1), (2, .int v2)]) [0, 1, 2] rfl ?_
      exact c341_110_ok kl15 hk15 v1 v2 _ _ h
    · rw [if_neg hb4] at h
      refine sx_if_le (tgt := 110) k341_86 (by decide) (fun q => absurd q hb4) (fun _ => ?_)
      refine sx_aload_n (i := 0) k341_89 rfl rfl ?_
      refine sx_dup k341_90 rfl ?_
      refine cx_getI (k := 34) k341_91 ow_341 fl_12_192 (by decide) sk_129 ft_11_34 ?_
      refine sx_iconst (v := 1) k341_94 (by decide) ?_
      refine sx_isub k341_95 ?_
      obtain ⟨m5, e6, h⟩ := Option.bind_eq_some_iff.mp h
      refine cx_putI (k := 34) k341_96 ow_341 fl_12_192 (by decide) sk_129 nf_11_34 fu_11_34 e6 ?_
      refine sx_aload_n (i := 0) k341_99 rfl rfl ?_
      refine cx_getI (k := 34) k341_100 ow_341 fl_12_192 (by decide) sk_129 ft_11_34 ?_
      by_cases hb7 : (m5.1 129 34) = 0
      · rw [if_pos hb7] at h
        refine sx_if_ne (tgt := 110) k341_103 (by decide) (fun q => absurd hb7 q) (fun _ => ?_)
        refine sx_aload_n (i := 0) k341_106 rfl rfl ?_
        obtain ⟨r8, e9, h⟩ := Option.bind_eq_some_iff.mp h
        refine cx_V (sk := []) (vs := []) st_341_283 k341_107 ow_341 cl_12_682 (by decide) rfl (Nat.le_of_ble_eq_true rfl) sk_129 (ok283 _ _ e9) (sk3 := []) rfl rfl ?_
        refine sx_pick (lo2 := [(0, .ref 129), (1, .int v1), (2, .int v2)]) [0, 1, 2] rfl ?_
        exact c341_110_ok kl15 hk15 v1 v2 _ _ h
      · rw [if_neg hb7] at h
        refine sx_if_ne (tgt := 110) k341_103 (by decide) (fun _ => ?_) (fun q => absurd q hb7)
        refine sx_pick (lo2 := [(0, .ref 129), (1, .int v1), (2, .int v2)]) [0, 1, 2] rfl ?_
        exact c341_110_ok kl15 hk15 v1 v2 _ _ h
  · rw [if_neg hb1] at h
    refine sx_icmp_ge (tgt := 78) k341_65 (by decide) (fun q => absurd q hb1) (fun _ => ?_)
    refine sx_aload_n (i := 0) k341_68 rfl rfl ?_
    obtain ⟨r10, e11, h⟩ := Option.bind_eq_some_iff.mp h
    refine cx_V (sk := []) (vs := []) st_341_319 k341_69 ow_341 cl_12_676 (by decide) rfl (Nat.le_of_ble_eq_true rfl) sk_129 (ok319 _ _ e11) (sk3 := []) rfl rfl ?_
    refine cx_iinc (c := 1) (lo2 := fun x12 => [(4, .int x12), (0, .ref 129), (1, .int v1), (2, .int v2), (3, .int v3)]) k341_72 rfl (by decide) (by rw [mx_341]; decide) (fun _ => rfl) h (fun x12 h => ?_)
    refine sx_goto (tgt := 62) k341_75 (by decide) ?_
    refine sx_pick (lo2 := [(0, .ref 129), (1, .int v1), (2, .int v2), (3, .int v3), (4, .int x12)]) [1, 2, 3, 4, 0] rfl ?_
    exact hk62 v1 v2 v3 x12 _ _ h
def l341_62 (kl15 : Int32 → Int32 → Mem → Option (Mem × Int32)) : Nat → Int32 × Int32 × Int32 × Int32 × Mem → Option (Mem × Int32) :=
  fixN (fun self x => b341_62 kl15 (fun v1 v2 v3 v4 μ => self (v1, v2, v3, v4, μ)) (x.1) (x.2.1) (x.2.2.1) (x.2.2.2.1) (x.2.2.2.2))
theorem l341_62_ok {L : Nat} (kl15 : Int32 → Int32 → Mem → Option (Mem × Int32)) (hk15 : (∀ (v1 : Int32) (v2 : Int32) (μ : Mem) (res : Mem × Int32), kl15 v1 v2 μ = some res → Sx 341 15 [(0, .ref 129), (1, .int v1), (2, .int v2)] [] 0 0 (mk L μ) (mk L res.1, some (.int res.2)))) (n : Nat) (v1 : Int32) (v2 : Int32) (v3 : Int32) (v4 : Int32) (μ : Mem) (res : Mem × Int32) (h : l341_62 kl15 n (v1, v2, v3, v4, μ) = some res) : Sx 341 62 [(0, .ref 129), (1, .int v1), (2, .int v2), (3, .int v3), (4, .int v4)] [] 0 0 (mk L μ) (mk L res.1, some (.int res.2)) := by
  have key := fixN_ind (P := fun x res => Sx 341 62 [(0, .ref 129), (1, .int (x.1)), (2, .int (x.2.1)), (3, .int (x.2.2.1)), (4, .int (x.2.2.2.1))] [] 0 0 (mk L (x.2.2.2.2)) (mk L res.1, some (.int res.2))) (F := fun self x => b341_62 kl15 (fun v1 v2 v3 v4 μ => self (v1, v2, v3, v4, μ)) (x.1) (x.2.1) (x.2.2.1) (x.2.2.2.1) (x.2.2.2.2)) (fun self hself x res h => b341_62_ok kl15 (fun v1 v2 v3 v4 μ => self (v1, v2, v3, v4, μ)) hk15 (fun v1 v2 v3 v4 μ res hh => hself (v1, v2, v3, v4, μ) res hh) (x.1) (x.2.1) (x.2.2.1) (x.2.2.2.1) (x.2.2.2.2) res h) n (v1, v2, v3, v4, μ) res h
  exact key
def c341_58 (kl15 : Int32 → Int32 → Mem → Option (Mem × Int32)) (v1 : Int32) (v2 : Int32) (s0 : Int32) (μ : Mem) : Option (Mem × Int32) :=
  l341_62 kl15 gF (v1, v2, s0, (0 : Int32), μ)
theorem c341_58_ok {L : Nat} (kl15 : Int32 → Int32 → Mem → Option (Mem × Int32)) (hk15 : (∀ (v1 : Int32) (v2 : Int32) (μ : Mem) (res : Mem × Int32), kl15 v1 v2 μ = some res → Sx 341 15 [(0, .ref 129), (1, .int v1), (2, .int v2)] [] 0 0 (mk L μ) (mk L res.1, some (.int res.2)))) (v1 : Int32) (v2 : Int32) (s0 : Int32) (μ : Mem) (res : Mem × Int32) (h : c341_58 kl15 v1 v2 s0 μ = some res) : Sx 341 58 [(0, .ref 129), (1, .int v1), (2, .int v2)] [.int s0] 0 0 (mk L μ) (mk L res.1, some (.int res.2)) := by
  unfold c341_58 at h
  refine cx_istore_n (lo2 := [(3, .int s0), (0, .ref 129), (1, .int v1), (2, .int v2)]) k341_58 rfl (by rw [mx_341]; decide) rfl ?_
  refine sx_iconst (v := 0) k341_59 (by decide) ?_
  refine cx_istore (lo2 := [(4, .int (0 : Int32)), (3, .int s0), (0, .ref 129), (1, .int v1), (2, .int v2)]) k341_60 (by rw [mx_341]; decide) rfl ?_
  refine sx_pick (lo2 := [(0, .ref 129), (1, .int v1), (2, .int v2), (3, .int s0), (4, .int (0 : Int32))]) [2, 3, 4, 1, 0] rfl ?_
  exact l341_62_ok kl15 hk15 gF v1 v2 s0 (0 : Int32) _ _ h
def b341_15 (kl15 : Int32 → Int32 → Mem → Option (Mem × Int32)) (v1 : Int32) (v2 : Int32) (μ : Mem) : Option (Mem × Int32) :=
  if v1 ≤ v2 then
    some (μ, (μ.1 129 77))
  else
    (pfI 129 77 ((μ.1 129 77) + (1 : Int32)) μ).bind fun m2 =>
    (f338 m2).bind fun r4 =>
    (f339 r4).bind fun r6 =>
    (f340 r6).bind fun r8 =>
    if (4 : Int32) ≤ (r8.1 129 104) then
      c341_58 kl15 v1 v2 (4 : Int32) r8
    else
      c341_58 kl15 v1 v2 (r8.1 129 104) r8
theorem b341_15_ok {L : Nat} (kl15 : Int32 → Int32 → Mem → Option (Mem × Int32)) (hk15 : (∀ (v1 : Int32) (v2 : Int32) (μ : Mem) (res : Mem × Int32), kl15 v1 v2 μ = some res → Sx 341 15 [(0, .ref 129), (1, .int v1), (2, .int v2)] [] 0 0 (mk L μ) (mk L res.1, some (.int res.2)))) (v1 : Int32) (v2 : Int32) (μ : Mem) (res : Mem × Int32) (h : b341_15 kl15 v1 v2 μ = some res) : Sx 341 15 [(0, .ref 129), (1, .int v1), (2, .int v2)] [] 0 0 (mk L μ) (mk L res.1, some (.int res.2)) := by
  unfold b341_15 at h
  refine sx_iload_n (i := 2) k341_15 rfl rfl ?_
  refine sx_iload_n (i := 1) k341_16 rfl rfl ?_
  by_cases hb1 : v1 ≤ v2
  · rw [if_pos hb1] at h
    refine sx_icmp_ge (tgt := 116) k341_17 (by decide) (fun _ => ?_) (fun q => absurd hb1 q)
    refine sx_aload_n (i := 0) k341_116 rfl rfl ?_
    refine cx_getI (k := 77) k341_117 ow_341 fl_12_405 (by decide) sk_129 ft_11_77 ?_
    exact cx_reti k341_120 rt_341 h
  · rw [if_neg hb1] at h
    refine sx_icmp_ge (tgt := 116) k341_17 (by decide) (fun q => absurd q hb1) (fun _ => ?_)
    refine sx_aload_n (i := 0) k341_20 rfl rfl ?_
    refine sx_dup k341_21 rfl ?_
    refine cx_getI (k := 77) k341_22 ow_341 fl_12_405 (by decide) sk_129 ft_11_77 ?_
    refine sx_iconst (v := 1) k341_25 (by decide) ?_
    refine sx_iadd k341_26 ?_
    obtain ⟨m2, e3, h⟩ := Option.bind_eq_some_iff.mp h
    refine cx_putI (k := 77) k341_27 ow_341 fl_12_405 (by decide) sk_129 nf_11_77 fu_11_77 e3 ?_
    refine sx_aload_n (i := 0) k341_30 rfl rfl ?_
    obtain ⟨r4, e5, h⟩ := Option.bind_eq_some_iff.mp h
    refine cx_V (sk := []) (vs := []) st_341_338 k341_31 ow_341 cl_12_667 (by decide) rfl (Nat.le_of_ble_eq_true rfl) sk_129 (ok338 _ _ e5) (sk3 := []) rfl rfl ?_
    refine sx_aload_n (i := 0) k341_34 rfl rfl ?_
    obtain ⟨r6, e7, h⟩ := Option.bind_eq_some_iff.mp h
    refine cx_V (sk := []) (vs := []) st_341_339 k341_35 ow_341 cl_12_670 (by decide) rfl (Nat.le_of_ble_eq_true rfl) sk_129 (ok339 _ _ e7) (sk3 := []) rfl rfl ?_
    refine sx_aload_n (i := 0) k341_38 rfl rfl ?_
    obtain ⟨r8, e9, h⟩ := Option.bind_eq_some_iff.mp h
    refine cx_V (sk := []) (vs := []) st_341_340 k341_39 ow_341 cl_12_673 (by decide) rfl (Nat.le_of_ble_eq_true rfl) sk_129 (ok340 _ _ e9) (sk3 := []) rfl rfl ?_
    refine sx_aload_n (i := 0) k341_42 rfl rfl ?_
    refine cx_getI (k := 104) k341_43 ow_341 fl_12_148 (by decide) sk_129 ft_11_104 ?_
    refine sx_iconst (v := 4) k341_46 (by decide) ?_
    by_cases hb10 : (4 : Int32) ≤ (r8.1 129 104)
    · rw [if_pos hb10] at h
      refine sx_icmp_ge (tgt := 57) k341_47 (by decide) (fun _ => ?_) (fun q => absurd hb10 q)
      refine sx_iconst (v := 4) k341_57 (by decide) ?_
      refine sx_pick (lo2 := [(0, .ref 129), (1, .int v1), (2, .int v2)]) [0, 1, 2] rfl ?_
      exact c341_58_ok kl15 hk15 v1 v2 (4 : Int32) _ _ h
    · rw [if_neg hb10] at h
      refine sx_icmp_ge (tgt := 57) k341_47 (by decide) (fun q => absurd q hb10) (fun _ => ?_)
      refine sx_aload_n (i := 0) k341_50 rfl rfl ?_
      refine cx_getI (k := 104) k341_51 ow_341 fl_12_148 (by decide) sk_129 ft_11_104 ?_
      refine sx_goto (tgt := 58) k341_54 (by decide) ?_
      refine sx_pick (lo2 := [(0, .ref 129), (1, .int v1), (2, .int v2)]) [0, 1, 2] rfl ?_
      exact c341_58_ok kl15 hk15 v1 v2 (r8.1 129 104) _ _ h
def l341_15 : Nat → Int32 × Int32 × Mem → Option (Mem × Int32) :=
  fixN (fun self x => b341_15 (fun v1 v2 μ => self (v1, v2, μ)) (x.1) (x.2.1) (x.2.2))
theorem l341_15_ok {L : Nat} (n : Nat) (v1 : Int32) (v2 : Int32) (μ : Mem) (res : Mem × Int32) (h : l341_15 n (v1, v2, μ) = some res) : Sx 341 15 [(0, .ref 129), (1, .int v1), (2, .int v2)] [] 0 0 (mk L μ) (mk L res.1, some (.int res.2)) := by
  have key := fixN_ind (P := fun x res => Sx 341 15 [(0, .ref 129), (1, .int (x.1)), (2, .int (x.2.1))] [] 0 0 (mk L (x.2.2)) (mk L res.1, some (.int res.2))) (F := fun self x => b341_15 (fun v1 v2 μ => self (v1, v2, μ)) (x.1) (x.2.1) (x.2.2)) (fun self hself x res h => b341_15_ok (fun v1 v2 μ => self (v1, v2, μ)) (fun v1 v2 μ res hh => hself (v1, v2, μ) res hh) (x.1) (x.2.1) (x.2.2) res h) n (v1, v2, μ) res h
  exact key
/-- CraftHouseModel.tick(I)I -/
def f341 (p1 : Int32) (μ : Mem) : Option (Mem × Int32) :=
  if p1 < 0 then
    some (μ, (-1 : Int32))
  else
    if p1 ≤ (200 : Int32) then
      l341_15 gF (p1, (0 : Int32), μ)
    else
      some (μ, (-1 : Int32))
theorem ok341 {L : Nat} (p1 : Int32) (μ : Mem) (res : Mem × Int32) (h : f341 p1 μ = some res) : Mx 341 [.ref 129, .int p1] (mk L μ) (mk L res.1, some (.int res.2)) := by
  refine Mx_of ml_341 (by rw [mx_341]; exact Nat.le_of_ble_eq_true rfl) ?_
  show Sx 341 0 [(0, .ref 129), (1, .int p1)] [] 0 0 (mk L μ) _
  unfold f341 at h
  refine sx_iload_n (i := 1) k341_0 rfl rfl ?_
  by_cases hb1 : p1 < 0
  · rw [if_pos hb1] at h
    refine sx_if_lt (tgt := 11) k341_1 (by decide) (fun _ => ?_) (fun q => absurd hb1 q)
    refine sx_iconst (v := -1) k341_11 (by decide) ?_
    exact cx_reti k341_12 rt_341 h
  · rw [if_neg hb1] at h
    refine sx_if_lt (tgt := 11) k341_1 (by decide) (fun q => absurd q hb1) (fun _ => ?_)
    refine sx_iload_n (i := 1) k341_4 rfl rfl ?_
    refine sx_sipush (v := 200) k341_5 (by decide) ?_
    by_cases hb2 : p1 ≤ (200 : Int32)
    · rw [if_pos hb2] at h
      refine sx_icmp_le (tgt := 13) k341_8 (by decide) (fun _ => ?_) (fun q => absurd hb2 q)
      refine sx_iconst (v := 0) k341_13 (by decide) ?_
      refine cx_istore_n (lo2 := [(2, .int (0 : Int32)), (0, .ref 129), (1, .int p1)]) k341_14 rfl (by rw [mx_341]; decide) rfl ?_
      refine sx_pick (lo2 := [(0, .ref 129), (1, .int p1), (2, .int (0 : Int32))]) [1, 2, 0] rfl ?_
      exact l341_15_ok gF p1 (0 : Int32) _ _ h
    · rw [if_neg hb2] at h
      refine sx_icmp_le (tgt := 13) k341_8 (by decide) (fun q => absurd q hb2) (fun _ => ?_)
      refine sx_iconst (v := -1) k341_11 (by decide) ?_
      exact cx_reti k341_12 rt_341 h
theorem k349_0 : decode (gb 349) 0 = .ok (.iload_n 1, 1) := by decide +kernel
theorem k349_1 : decode (gb 349) 1 = .ok (.tableswitch 122 0 10 #[59, 72, 77, 82, 87, 92, 97, 102, 107, 112, 117], 59) := by decide +kernel
theorem k349_60 : decode (gb 349) 60 = .ok (.aload_n 0, 1) := by decide +kernel
theorem k349_61 : decode (gb 349) 61 = .ok (.getfield 353, 3) := by decide +kernel
theorem k349_64 : decode (gb 349) 64 = .ok (.ifCond .eq 7, 3) := by decide +kernel
theorem k349_67 : decode (gb 349) 67 = .ok (.iconst 1, 1) := by decide +kernel
theorem k349_68 : decode (gb 349) 68 = .ok (.goto 4, 3) := by decide +kernel
theorem k349_71 : decode (gb 349) 71 = .ok (.iconst 0, 1) := by decide +kernel
theorem k349_72 : decode (gb 349) 72 = .ok (.ireturn, 1) := by decide +kernel
theorem k349_73 : decode (gb 349) 73 = .ok (.aload_n 0, 1) := by decide +kernel
theorem k349_74 : decode (gb 349) 74 = .ok (.getfield 356, 3) := by decide +kernel
theorem k349_77 : decode (gb 349) 77 = .ok (.ireturn, 1) := by decide +kernel
theorem k349_78 : decode (gb 349) 78 = .ok (.aload_n 0, 1) := by decide +kernel
theorem k349_79 : decode (gb 349) 79 = .ok (.getfield 362, 3) := by decide +kernel
theorem k349_82 : decode (gb 349) 82 = .ok (.ireturn, 1) := by decide +kernel
theorem k349_83 : decode (gb 349) 83 = .ok (.aload_n 0, 1) := by decide +kernel
theorem k349_84 : decode (gb 349) 84 = .ok (.getfield 365, 3) := by decide +kernel
theorem k349_87 : decode (gb 349) 87 = .ok (.ireturn, 1) := by decide +kernel
theorem k349_88 : decode (gb 349) 88 = .ok (.aload_n 0, 1) := by decide +kernel
theorem k349_89 : decode (gb 349) 89 = .ok (.getfield 384, 3) := by decide +kernel
theorem k349_92 : decode (gb 349) 92 = .ok (.ireturn, 1) := by decide +kernel
theorem k349_93 : decode (gb 349) 93 = .ok (.aload_n 0, 1) := by decide +kernel
theorem k349_94 : decode (gb 349) 94 = .ok (.getfield 724, 3) := by decide +kernel
theorem k349_97 : decode (gb 349) 97 = .ok (.ireturn, 1) := by decide +kernel
theorem k349_98 : decode (gb 349) 98 = .ok (.aload_n 0, 1) := by decide +kernel
theorem k349_99 : decode (gb 349) 99 = .ok (.getfield 721, 3) := by decide +kernel
theorem k349_102 : decode (gb 349) 102 = .ok (.ireturn, 1) := by decide +kernel
theorem k349_103 : decode (gb 349) 103 = .ok (.aload_n 0, 1) := by decide +kernel
theorem k349_104 : decode (gb 349) 104 = .ok (.getfield 736, 3) := by decide +kernel
theorem k349_107 : decode (gb 349) 107 = .ok (.ireturn, 1) := by decide +kernel
theorem k349_108 : decode (gb 349) 108 = .ok (.aload_n 0, 1) := by decide +kernel
theorem k349_109 : decode (gb 349) 109 = .ok (.getfield 368, 3) := by decide +kernel
theorem k349_112 : decode (gb 349) 112 = .ok (.ireturn, 1) := by decide +kernel
theorem k349_113 : decode (gb 349) 113 = .ok (.aload_n 0, 1) := by decide +kernel
theorem k349_114 : decode (gb 349) 114 = .ok (.getfield 371, 3) := by decide +kernel
theorem k349_117 : decode (gb 349) 117 = .ok (.ireturn, 1) := by decide +kernel
theorem k349_118 : decode (gb 349) 118 = .ok (.aload_n 0, 1) := by decide +kernel
theorem k349_119 : decode (gb 349) 119 = .ok (.getfield 374, 3) := by decide +kernel
theorem k349_122 : decode (gb 349) 122 = .ok (.ireturn, 1) := by decide +kernel
theorem k349_123 : decode (gb 349) 123 = .ok (.iconst (-1), 1) := by decide +kernel
theorem k349_124 : decode (gb 349) 124 = .ok (.ireturn, 1) := by decide +kernel
/-- CraftHouseModel.came(I)I -/
def f349 (p1 : Int32) (μ : Mem) : Option (Mem × Int32) :=
  if p1 = (0 : Int32) then
    if (μ.1 129 60) = 0 then
      some (μ, (0 : Int32))
    else
      some (μ, (1 : Int32))
  else if p1 = (1 : Int32) then
    some (μ, (μ.1 129 61))
  else if p1 = (2 : Int32) then
    some (μ, (μ.1 129 67))
  else if p1 = (3 : Int32) then
    some (μ, (μ.1 129 68))
  else if p1 = (4 : Int32) then
    some (μ, (μ.1 129 69))
  else if p1 = (5 : Int32) then
    some (μ, (μ.1 129 147))
  else if p1 = (6 : Int32) then
    some (μ, (μ.1 129 144))
  else if p1 = (7 : Int32) then
    some (μ, (μ.1 129 145))
  else if p1 = (8 : Int32) then
    some (μ, (μ.1 129 70))
  else if p1 = (9 : Int32) then
    some (μ, (μ.1 129 71))
  else if p1 = (10 : Int32) then
    some (μ, (μ.1 129 72))
  else 
    some (μ, (-1 : Int32))
theorem ok349 {L : Nat} (p1 : Int32) (μ : Mem) (res : Mem × Int32) (h : f349 p1 μ = some res) : Mx 349 [.ref 129, .int p1] (mk L μ) (mk L res.1, some (.int res.2)) := by
  refine Mx_of ml_349 (by rw [mx_349]; exact Nat.le_of_ble_eq_true rfl) ?_
  show Sx 349 0 [(0, .ref 129), (1, .int p1)] [] 0 0 (mk L μ) _
  unfold f349 at h
  refine sx_iload_n (i := 1) k349_0 rfl rfl ?_
  by_cases hb2 : p1 = (0 : Int32)
  · rw [if_pos hb2] at h
    refine sx_tableIn (off := 59) (tgt := 60) k349_1 (by rw [hb2]; decide) (by rw [hb2]; decide) (by rw [hb2]; rfl) (by decide) ?_
    refine sx_aload_n (i := 0) k349_60 rfl rfl ?_
    refine cx_getI (k := 60) k349_61 ow_349 fl_12_353 (by decide) sk_129 ft_11_60 ?_
    by_cases hb1 : (μ.1 129 60) = 0
    · rw [if_pos hb1] at h
      refine sx_if_eq (tgt := 71) k349_64 (by decide) (fun _ => ?_) (fun q => absurd hb1 q)
      refine sx_iconst (v := 0) k349_71 (by decide) ?_
      exact cx_reti k349_72 rt_349 h
    · rw [if_neg hb1] at h
      refine sx_if_eq (tgt := 71) k349_64 (by decide) (fun q => absurd q hb1) (fun _ => ?_)
      refine sx_iconst (v := 1) k349_67 (by decide) ?_
      refine sx_goto (tgt := 72) k349_68 (by decide) ?_
      exact cx_reti k349_72 rt_349 h
  · rw [if_neg hb2] at h
    by_cases hb3 : p1 = (1 : Int32)
    · rw [if_pos hb3] at h
      refine sx_tableIn (off := 72) (tgt := 73) k349_1 (by rw [hb3]; decide) (by rw [hb3]; decide) (by rw [hb3]; rfl) (by decide) ?_
      refine sx_aload_n (i := 0) k349_73 rfl rfl ?_
      refine cx_getI (k := 61) k349_74 ow_349 fl_12_356 (by decide) sk_129 ft_11_61 ?_
      exact cx_reti k349_77 rt_349 h
    · rw [if_neg hb3] at h
      by_cases hb4 : p1 = (2 : Int32)
      · rw [if_pos hb4] at h
        refine sx_tableIn (off := 77) (tgt := 78) k349_1 (by rw [hb4]; decide) (by rw [hb4]; decide) (by rw [hb4]; rfl) (by decide) ?_
        refine sx_aload_n (i := 0) k349_78 rfl rfl ?_
        refine cx_getI (k := 67) k349_79 ow_349 fl_12_362 (by decide) sk_129 ft_11_67 ?_
        exact cx_reti k349_82 rt_349 h
      · rw [if_neg hb4] at h
        by_cases hb5 : p1 = (3 : Int32)
        · rw [if_pos hb5] at h
          refine sx_tableIn (off := 82) (tgt := 83) k349_1 (by rw [hb5]; decide) (by rw [hb5]; decide) (by rw [hb5]; rfl) (by decide) ?_
          refine sx_aload_n (i := 0) k349_83 rfl rfl ?_
          refine cx_getI (k := 68) k349_84 ow_349 fl_12_365 (by decide) sk_129 ft_11_68 ?_
          exact cx_reti k349_87 rt_349 h
        · rw [if_neg hb5] at h
          by_cases hb6 : p1 = (4 : Int32)
          · rw [if_pos hb6] at h
            refine sx_tableIn (off := 87) (tgt := 88) k349_1 (by rw [hb6]; decide) (by rw [hb6]; decide) (by rw [hb6]; rfl) (by decide) ?_
            refine sx_aload_n (i := 0) k349_88 rfl rfl ?_
            refine cx_getI (k := 69) k349_89 ow_349 fl_12_384 (by decide) sk_129 ft_11_69 ?_
            exact cx_reti k349_92 rt_349 h
          · rw [if_neg hb6] at h
            by_cases hb7 : p1 = (5 : Int32)
            · rw [if_pos hb7] at h
              refine sx_tableIn (off := 92) (tgt := 93) k349_1 (by rw [hb7]; decide) (by rw [hb7]; decide) (by rw [hb7]; rfl) (by decide) ?_
              refine sx_aload_n (i := 0) k349_93 rfl rfl ?_
              refine cx_getI (k := 147) k349_94 ow_349 fl_12_724 (by decide) sk_129 ft_11_147 ?_
              exact cx_reti k349_97 rt_349 h
            · rw [if_neg hb7] at h
              by_cases hb8 : p1 = (6 : Int32)
              · rw [if_pos hb8] at h
                refine sx_tableIn (off := 97) (tgt := 98) k349_1 (by rw [hb8]; decide) (by rw [hb8]; decide) (by rw [hb8]; rfl) (by decide) ?_
                refine sx_aload_n (i := 0) k349_98 rfl rfl ?_
                refine cx_getI (k := 144) k349_99 ow_349 fl_12_721 (by decide) sk_129 ft_11_144 ?_
                exact cx_reti k349_102 rt_349 h
              · rw [if_neg hb8] at h
                by_cases hb9 : p1 = (7 : Int32)
                · rw [if_pos hb9] at h
                  refine sx_tableIn (off := 102) (tgt := 103) k349_1 (by rw [hb9]; decide) (by rw [hb9]; decide) (by rw [hb9]; rfl) (by decide) ?_
                  refine sx_aload_n (i := 0) k349_103 rfl rfl ?_
                  refine cx_getI (k := 145) k349_104 ow_349 fl_12_736 (by decide) sk_129 ft_11_145 ?_
                  exact cx_reti k349_107 rt_349 h
                · rw [if_neg hb9] at h
                  by_cases hb10 : p1 = (8 : Int32)
                  · rw [if_pos hb10] at h
                    refine sx_tableIn (off := 107) (tgt := 108) k349_1 (by rw [hb10]; decide) (by rw [hb10]; decide) (by rw [hb10]; rfl) (by decide) ?_
                    refine sx_aload_n (i := 0) k349_108 rfl rfl ?_
                    refine cx_getI (k := 70) k349_109 ow_349 fl_12_368 (by decide) sk_129 ft_11_70 ?_
                    exact cx_reti k349_112 rt_349 h
                  · rw [if_neg hb10] at h
                    by_cases hb11 : p1 = (9 : Int32)
                    · rw [if_pos hb11] at h
                      refine sx_tableIn (off := 112) (tgt := 113) k349_1 (by rw [hb11]; decide) (by rw [hb11]; decide) (by rw [hb11]; rfl) (by decide) ?_
                      refine sx_aload_n (i := 0) k349_113 rfl rfl ?_
                      refine cx_getI (k := 71) k349_114 ow_349 fl_12_371 (by decide) sk_129 ft_11_71 ?_
                      exact cx_reti k349_117 rt_349 h
                    · rw [if_neg hb11] at h
                      by_cases hb12 : p1 = (10 : Int32)
                      · rw [if_pos hb12] at h
                        refine sx_tableIn (off := 117) (tgt := 118) k349_1 (by rw [hb12]; decide) (by rw [hb12]; decide) (by rw [hb12]; rfl) (by decide) ?_
                        refine sx_aload_n (i := 0) k349_118 rfl rfl ?_
                        refine cx_getI (k := 72) k349_119 ow_349 fl_12_374 (by decide) sk_129 ft_11_72 ?_
                        exact cx_reti k349_122 rt_349 h
                      · rw [if_neg hb12] at h
                        refine sx_tableOut (tgt := 123) k349_1 (sw_out (n := 11) (fun j hj => ?_)) (by decide) ?_
                        · intro hj2
                          exact sw_no [(0 : Int32), (1 : Int32), (2 : Int32), (3 : Int32), (4 : Int32), (5 : Int32), (6 : Int32), (7 : Int32), (8 : Int32), (9 : Int32), (10 : Int32)] (by decide) hj hj2 ⟨hb2, hb3, hb4, hb5, hb6, hb7, hb8, hb9, hb10, hb11, hb12, trivial⟩
                        ·
                          refine sx_iconst (v := -1) k349_123 (by decide) ?_
                          exact cx_reti k349_124 rt_349 h
theorem k350_0 : decode (gb 350) 0 = .ok (.iload_n 1, 1) := by decide +kernel
theorem k350_1 : decode (gb 350) 1 = .ok (.ifCond .lt 17, 3) := by decide +kernel
theorem k350_4 : decode (gb 350) 4 = .ok (.iload_n 1, 1) := by decide +kernel
theorem k350_5 : decode (gb 350) 5 = .ok (.aload_n 0, 1) := by decide +kernel
theorem k350_6 : decode (gb 350) 6 = .ok (.getfield 724, 3) := by decide +kernel
theorem k350_9 : decode (gb 350) 9 = .ok (.if_icmp .ge 9, 3) := by decide +kernel
theorem k350_12 : decode (gb 350) 12 = .ok (.iload_n 1, 1) := by decide +kernel
theorem k350_13 : decode (gb 350) 13 = .ok (.bipush 40, 2) := by decide +kernel
theorem k350_15 : decode (gb 350) 15 = .ok (.if_icmp .lt 8, 3) := by decide +kernel
theorem k350_18 : decode (gb 350) 18 = .ok (.bipush (-2), 2) := by decide +kernel
theorem k350_20 : decode (gb 350) 20 = .ok (.goto 14, 3) := by decide +kernel
theorem k350_23 : decode (gb 350) 23 = .ok (.aload_n 0, 1) := by decide +kernel
theorem k350_24 : decode (gb 350) 24 = .ok (.getfield 724, 3) := by decide +kernel
theorem k350_27 : decode (gb 350) 27 = .ok (.iconst 1, 1) := by decide +kernel
theorem k350_28 : decode (gb 350) 28 = .ok (.isub, 1) := by decide +kernel
theorem k350_29 : decode (gb 350) 29 = .ok (.iload_n 1, 1) := by decide +kernel
theorem k350_30 : decode (gb 350) 30 = .ok (.isub, 1) := by decide +kernel
theorem k350_31 : decode (gb 350) 31 = .ok (.bipush 40, 2) := by decide +kernel
theorem k350_33 : decode (gb 350) 33 = .ok (.irem, 1) := by decide +kernel
theorem k350_34 : decode (gb 350) 34 = .ok (.ireturn, 1) := by decide +kernel
def c350_18 (μ : Mem) : Option (Mem × Int32) :=
  some (μ, (-2 : Int32))
theorem c350_18_ok {L : Nat} (μ : Mem) (res : Mem × Int32) (h : c350_18 μ = some res) : Sx 350 18 [] [] 0 0 (mk L μ) (mk L res.1, some (.int res.2)) := by
  unfold c350_18 at h
  refine sx_bipush (v := -2) k350_18 (by decide) ?_
  refine sx_goto (tgt := 34) k350_20 (by decide) ?_
  exact cx_reti k350_34 rt_350 h
/-- CraftHouseModel.archiveSlot(I)I -/
def f350 (p1 : Int32) (μ : Mem) : Option (Mem × Int32) :=
  if p1 < 0 then
    c350_18 μ
  else
    if (μ.1 129 147) ≤ p1 then
      c350_18 μ
    else
      if p1 < (40 : Int32) then
        some (μ, (jrem (((μ.1 129 147) - (1 : Int32)) - p1) (40 : Int32)))
      else
        c350_18 μ
theorem ok350 {L : Nat} (p1 : Int32) (μ : Mem) (res : Mem × Int32) (h : f350 p1 μ = some res) : Mx 350 [.ref 129, .int p1] (mk L μ) (mk L res.1, some (.int res.2)) := by
  refine Mx_of ml_350 (by rw [mx_350]; exact Nat.le_of_ble_eq_true rfl) ?_
  show Sx 350 0 [(0, .ref 129), (1, .int p1)] [] 0 0 (mk L μ) _
  unfold f350 at h
  refine sx_iload_n (i := 1) k350_0 rfl rfl ?_
  by_cases hb1 : p1 < 0
  · rw [if_pos hb1] at h
    refine sx_if_lt (tgt := 18) k350_1 (by decide) (fun _ => ?_) (fun q => absurd hb1 q)
    refine sx_pick (lo2 := []) [] rfl ?_
    exact c350_18_ok _ _ h
  · rw [if_neg hb1] at h
    refine sx_if_lt (tgt := 18) k350_1 (by decide) (fun q => absurd q hb1) (fun _ => ?_)
    refine sx_iload_n (i := 1) k350_4 rfl rfl ?_
    refine sx_aload_n (i := 0) k350_5 rfl rfl ?_
    refine cx_getI (k := 147) k350_6 ow_350 fl_12_724 (by decide) sk_129 ft_11_147 ?_
    by_cases hb2 : (μ.1 129 147) ≤ p1
    · rw [if_pos hb2] at h
      refine sx_icmp_ge (tgt := 18) k350_9 (by decide) (fun _ => ?_) (fun q => absurd hb2 q)
      refine sx_pick (lo2 := []) [] rfl ?_
      exact c350_18_ok _ _ h
    · rw [if_neg hb2] at h
      refine sx_icmp_ge (tgt := 18) k350_9 (by decide) (fun q => absurd q hb2) (fun _ => ?_)
      refine sx_iload_n (i := 1) k350_12 rfl rfl ?_
      refine sx_bipush (v := 40) k350_13 (by decide) ?_
      by_cases hb3 : p1 < (40 : Int32)
      · rw [if_pos hb3] at h
        refine sx_icmp_lt (tgt := 23) k350_15 (by decide) (fun _ => ?_) (fun q => absurd hb3 q)
        refine sx_aload_n (i := 0) k350_23 rfl rfl ?_
        refine cx_getI (k := 147) k350_24 ow_350 fl_12_724 (by decide) sk_129 ft_11_147 ?_
        refine sx_iconst (v := 1) k350_27 (by decide) ?_
        refine sx_isub k350_28 ?_
        refine sx_iload_n (i := 1) k350_29 rfl rfl ?_
        refine sx_isub k350_30 ?_
        refine sx_bipush (v := 40) k350_31 (by decide) ?_
        refine sx_irem k350_33 (by decide) ?_
        exact cx_reti k350_34 rt_350 h
      · rw [if_neg hb3] at h
        refine sx_icmp_lt (tgt := 23) k350_15 (by decide) (fun q => absurd q hb3) (fun _ => ?_)
        refine sx_pick (lo2 := []) [] rfl ?_
        exact c350_18_ok _ _ h
theorem k351_0 : decode (gb 351) 0 = .ok (.aload_n 0, 1) := by decide +kernel
theorem k351_1 : decode (gb 351) 1 = .ok (.iload_n 1, 1) := by decide +kernel
theorem k351_2 : decode (gb 351) 2 = .ok (.invokevirtual 757, 3) := by decide +kernel
theorem k351_5 : decode (gb 351) 5 = .ok (.istore_n 3, 1) := by decide +kernel
theorem k351_6 : decode (gb 351) 6 = .ok (.iload_n 3, 1) := by decide +kernel
theorem k351_7 : decode (gb 351) 7 = .ok (.bipush (-2), 2) := by decide +kernel
theorem k351_9 : decode (gb 351) 9 = .ok (.if_icmp .eq 12, 3) := by decide +kernel
theorem k351_12 : decode (gb 351) 12 = .ok (.iload_n 2, 1) := by decide +kernel
theorem k351_13 : decode (gb 351) 13 = .ok (.ifCond .lt 8, 3) := by decide +kernel
theorem k351_16 : decode (gb 351) 16 = .ok (.iload_n 2, 1) := by decide +kernel
theorem k351_17 : decode (gb 351) 17 = .ok (.iconst 5, 1) := by decide +kernel
theorem k351_18 : decode (gb 351) 18 = .ok (.if_icmp .le 5, 3) := by decide +kernel
theorem k351_21 : decode (gb 351) 21 = .ok (.iconst (-1), 1) := by decide +kernel
theorem k351_22 : decode (gb 351) 22 = .ok (.ireturn, 1) := by decide +kernel
theorem k351_23 : decode (gb 351) 23 = .ok (.bipush 120, 2) := by decide +kernel
theorem k351_25 : decode (gb 351) 25 = .ok (.iload_n 3, 1) := by decide +kernel
theorem k351_26 : decode (gb 351) 26 = .ok (.imul, 1) := by decide +kernel
theorem k351_27 : decode (gb 351) 27 = .ok (.istore 4, 2) := by decide +kernel
theorem k351_29 : decode (gb 351) 29 = .ok (.iload_n 2, 1) := by decide +kernel
theorem k351_30 : decode (gb 351) 30 = .ok (.tableswitch 93 0 4 #[34, 41, 52, 63, 76], 34) := by decide +kernel
theorem k351_64 : decode (gb 351) 64 = .ok (.aload_n 0, 1) := by decide +kernel
theorem k351_65 : decode (gb 351) 65 = .ok (.getfield 733, 3) := by decide +kernel
theorem k351_68 : decode (gb 351) 68 = .ok (.iload_n 3, 1) := by decide +kernel
theorem k351_69 : decode (gb 351) 69 = .ok (.iaload, 1) := by decide +kernel
theorem k351_70 : decode (gb 351) 70 = .ok (.ireturn, 1) := by decide +kernel
theorem k351_71 : decode (gb 351) 71 = .ok (.aload_n 0, 1) := by decide +kernel
theorem k351_72 : decode (gb 351) 72 = .ok (.getfield 727, 3) := by decide +kernel
theorem k351_75 : decode (gb 351) 75 = .ok (.iload 4, 2) := by decide +kernel
theorem k351_77 : decode (gb 351) 77 = .ok (.bipush 7, 2) := by decide +kernel
theorem k351_79 : decode (gb 351) 79 = .ok (.iadd, 1) := by decide +kernel
theorem k351_80 : decode (gb 351) 80 = .ok (.iaload, 1) := by decide +kernel
theorem k351_81 : decode (gb 351) 81 = .ok (.ireturn, 1) := by decide +kernel
theorem k351_82 : decode (gb 351) 82 = .ok (.aload_n 0, 1) := by decide +kernel
theorem k351_83 : decode (gb 351) 83 = .ok (.getfield 727, 3) := by decide +kernel
theorem k351_86 : decode (gb 351) 86 = .ok (.iload 4, 2) := by decide +kernel
theorem k351_88 : decode (gb 351) 88 = .ok (.bipush 8, 2) := by decide +kernel
theorem k351_90 : decode (gb 351) 90 = .ok (.iadd, 1) := by decide +kernel
theorem k351_91 : decode (gb 351) 91 = .ok (.iaload, 1) := by decide +kernel
theorem k351_92 : decode (gb 351) 92 = .ok (.ireturn, 1) := by decide +kernel
theorem k351_93 : decode (gb 351) 93 = .ok (.aload_n 0, 1) := by decide +kernel
theorem k351_94 : decode (gb 351) 94 = .ok (.getfield 727, 3) := by decide +kernel
theorem k351_97 : decode (gb 351) 97 = .ok (.iload 4, 2) := by decide +kernel
theorem k351_99 : decode (gb 351) 99 = .ok (.bipush 9, 2) := by decide +kernel
theorem k351_101 : decode (gb 351) 101 = .ok (.iadd, 1) := by decide +kernel
theorem k351_102 : decode (gb 351) 102 = .ok (.invokestatic 545, 3) := by decide +kernel
theorem k351_105 : decode (gb 351) 105 = .ok (.ireturn, 1) := by decide +kernel
theorem k351_106 : decode (gb 351) 106 = .ok (.aload_n 0, 1) := by decide +kernel
theorem k351_107 : decode (gb 351) 107 = .ok (.aload_n 0, 1) := by decide +kernel
theorem k351_108 : decode (gb 351) 108 = .ok (.getfield 727, 3) := by decide +kernel
theorem k351_111 : decode (gb 351) 111 = .ok (.iload 4, 2) := by decide +kernel
theorem k351_113 : decode (gb 351) 113 = .ok (.iconst 2, 1) := by decide +kernel
theorem k351_114 : decode (gb 351) 114 = .ok (.iadd, 1) := by decide +kernel
theorem k351_115 : decode (gb 351) 115 = .ok (.invokevirtual 472, 3) := by decide +kernel
theorem k351_118 : decode (gb 351) 118 = .ok (.sipush 16383, 3) := by decide +kernel
theorem k351_121 : decode (gb 351) 121 = .ok (.iand, 1) := by decide +kernel
theorem k351_122 : decode (gb 351) 122 = .ok (.ireturn, 1) := by decide +kernel
theorem k351_123 : decode (gb 351) 123 = .ok (.aload_n 0, 1) := by decide +kernel
theorem k351_124 : decode (gb 351) 124 = .ok (.getfield 730, 3) := by decide +kernel
theorem k351_127 : decode (gb 351) 127 = .ok (.iload_n 3, 1) := by decide +kernel
theorem k351_128 : decode (gb 351) 128 = .ok (.iaload, 1) := by decide +kernel
theorem k351_129 : decode (gb 351) 129 = .ok (.ireturn, 1) := by decide +kernel
/-- CraftHouseModel.archived(II)I -/
def f351 (p1 : Int32) (p2 : Int32) (μ : Mem) : Option (Mem × Int32) :=
  (f350 p1 μ).bind fun r1 =>
  if r1.2 = (-2 : Int32) then
    some (r1.1, (-1 : Int32))
  else
    if p2 < 0 then
      some (r1.1, (-1 : Int32))
    else
      if p2 ≤ (5 : Int32) then
        nm ((120 : Int32) * r1.2) fun x6 =>
        if p2 = (0 : Int32) then
          (ldA 217 r1.2 r1.1).bind fun x7 =>
          some (r1.1, x7)
        else if p2 = (1 : Int32) then
          (ldA 215 (x6 + (7 : Int32)) r1.1).bind fun x10 =>
          some (r1.1, x10)
        else if p2 = (2 : Int32) then
          (ldA 215 (x6 + (8 : Int32)) r1.1).bind fun x13 =>
          some (r1.1, x13)
        else if p2 = (3 : Int32) then
          (f314 215 (x6 + (9 : Int32)) r1.1).bind fun r16 =>
          some (r16.1, r16.2)
        else if p2 = (4 : Int32) then
          (f313 215 (x6 + (2 : Int32)) r1.1).bind fun r19 =>
          some (r19.1, (r19.2 &&& (16383 : Int32)))
        else 
          (ldA 216 r1.2 r1.1).bind fun x22 =>
          some (r1.1, x22)
      else
        some (r1.1, (-1 : Int32))
theorem ok351 {L : Nat} (p1 : Int32) (p2 : Int32) (μ : Mem) (res : Mem × Int32) (h : f351 p1 p2 μ = some res) : Mx 351 [.ref 129, .int p1, .int p2] (mk L μ) (mk L res.1, some (.int res.2)) := by
  refine Mx_of ml_351 (by rw [mx_351]; exact Nat.le_of_ble_eq_true rfl) ?_
  show Sx 351 0 [(0, .ref 129), (1, .int p1), (2, .int p2)] [] 0 0 (mk L μ) _
  unfold f351 at h
  refine sx_aload_n (i := 0) k351_0 rfl rfl ?_
  refine sx_iload_n (i := 1) k351_1 rfl rfl ?_
  obtain ⟨r1, e2, h⟩ := Option.bind_eq_some_iff.mp h
  refine cx_V (sk := []) (vs := [.int p1]) st_351_350 k351_2 ow_351 cl_12_757 (by decide) rfl (Nat.le_of_ble_eq_true rfl) sk_129 (ok350 p1 _ _ e2) (sk3 := [.int r1.2]) rfl rfl ?_
  refine cx_istore_n (lo2 := [(3, .int r1.2), (0, .ref 129), (1, .int p1), (2, .int p2)]) k351_5 rfl (by rw [mx_351]; decide) rfl ?_
  refine sx_iload_n (i := 3) k351_6 rfl rfl ?_
  refine sx_bipush (v := -2) k351_7 (by decide) ?_
  by_cases hb3 : r1.2 = (-2 : Int32)
  · rw [if_pos hb3] at h
    refine sx_icmp_eq (tgt := 21) k351_9 (by decide) (fun _ => ?_) (fun q => absurd hb3 q)
    refine sx_iconst (v := -1) k351_21 (by decide) ?_
    exact cx_reti k351_22 rt_351 h
  · rw [if_neg hb3] at h
    refine sx_icmp_eq (tgt := 21) k351_9 (by decide) (fun q => absurd q hb3) (fun _ => ?_)
    refine sx_iload_n (i := 2) k351_12 rfl rfl ?_
    by_cases hb4 : p2 < 0
    · rw [if_pos hb4] at h
      refine sx_if_lt (tgt := 21) k351_13 (by decide) (fun _ => ?_) (fun q => absurd hb4 q)
      refine sx_iconst (v := -1) k351_21 (by decide) ?_
      exact cx_reti k351_22 rt_351 h
    · rw [if_neg hb4] at h
      refine sx_if_lt (tgt := 21) k351_13 (by decide) (fun q => absurd q hb4) (fun _ => ?_)
      refine sx_iload_n (i := 2) k351_16 rfl rfl ?_
      refine sx_iconst (v := 5) k351_17 (by decide) ?_
      by_cases hb5 : p2 ≤ (5 : Int32)
      · rw [if_pos hb5] at h
        refine sx_icmp_le (tgt := 23) k351_18 (by decide) (fun _ => ?_) (fun q => absurd hb5 q)
        refine sx_bipush (v := 120) k351_23 (by decide) ?_
        refine sx_iload_n (i := 3) k351_25 rfl rfl ?_
        refine sx_imul k351_26 ?_
        refine cx_nm h (fun x6 h => ?_)
        refine cx_istore (lo2 := [(4, .int x6), (3, .int r1.2), (0, .ref 129), (1, .int p1), (2, .int p2)]) k351_27 (by rw [mx_351]; decide) rfl ?_
        refine sx_iload_n (i := 2) k351_29 rfl rfl ?_
        by_cases hb9 : p2 = (0 : Int32)
        · rw [if_pos hb9] at h
          refine sx_tableIn (off := 34) (tgt := 64) k351_30 (by rw [hb9]; decide) (by rw [hb9]; decide) (by rw [hb9]; rfl) (by decide) ?_
          refine sx_aload_n (i := 0) k351_64 rfl rfl ?_
          refine cx_getR (k := 150) k351_65 ow_351 fl_12_733 (by decide) sk_129 ft_11_150 sr_129_150 ?_
          refine sx_iload_n (i := 3) k351_68 rfl rfl ?_
          obtain ⟨x7, e8, h⟩ := Option.bind_eq_some_iff.mp h
          refine cx_iald k351_69 sk_217 e8 ?_
          exact cx_reti k351_70 rt_351 h
        · rw [if_neg hb9] at h
          by_cases hb12 : p2 = (1 : Int32)
          · rw [if_pos hb12] at h
            refine sx_tableIn (off := 41) (tgt := 71) k351_30 (by rw [hb12]; decide) (by rw [hb12]; decide) (by rw [hb12]; rfl) (by decide) ?_
            refine sx_aload_n (i := 0) k351_71 rfl rfl ?_
            refine cx_getR (k := 148) k351_72 ow_351 fl_12_727 (by decide) sk_129 ft_11_148 sr_129_148 ?_
            refine sx_iload k351_75 rfl ?_
            refine sx_bipush (v := 7) k351_77 (by decide) ?_
            refine sx_iadd k351_79 ?_
            obtain ⟨x10, e11, h⟩ := Option.bind_eq_some_iff.mp h
            refine cx_iald k351_80 sk_215 e11 ?_
            exact cx_reti k351_81 rt_351 h
          · rw [if_neg hb12] at h
            by_cases hb15 : p2 = (2 : Int32)
            · rw [if_pos hb15] at h
              refine sx_tableIn (off := 52) (tgt := 82) k351_30 (by rw [hb15]; decide) (by rw [hb15]; decide) (by rw [hb15]; rfl) (by decide) ?_
              refine sx_aload_n (i := 0) k351_82 rfl rfl ?_
              refine cx_getR (k := 148) k351_83 ow_351 fl_12_727 (by decide) sk_129 ft_11_148 sr_129_148 ?_
              refine sx_iload k351_86 rfl ?_
              refine sx_bipush (v := 8) k351_88 (by decide) ?_
              refine sx_iadd k351_90 ?_
              obtain ⟨x13, e14, h⟩ := Option.bind_eq_some_iff.mp h
              refine cx_iald k351_91 sk_215 e14 ?_
              exact cx_reti k351_92 rt_351 h
            · rw [if_neg hb15] at h
              by_cases hb18 : p2 = (3 : Int32)
              · rw [if_pos hb18] at h
                refine sx_tableIn (off := 63) (tgt := 93) k351_30 (by rw [hb18]; decide) (by rw [hb18]; decide) (by rw [hb18]; rfl) (by decide) ?_
                refine sx_aload_n (i := 0) k351_93 rfl rfl ?_
                refine cx_getR (k := 148) k351_94 ow_351 fl_12_727 (by decide) sk_129 ft_11_148 sr_129_148 ?_
                refine sx_iload k351_97 rfl ?_
                refine sx_bipush (v := 9) k351_99 (by decide) ?_
                refine sx_iadd k351_101 ?_
                obtain ⟨r16, e17, h⟩ := Option.bind_eq_some_iff.mp h
                refine cx_S (sk := []) (vs := [.ref 215, .int (x6 + (9 : Int32))]) st_351_314 k351_102 ow_351 cl_12_545 (by decide) rfl (Nat.le_of_ble_eq_true rfl) (ok314 215 (x6 + (9 : Int32)) sk_215 _ _ e17) (sk3 := [.int r16.2]) rfl rfl ?_
                exact cx_reti k351_105 rt_351 h
              · rw [if_neg hb18] at h
                by_cases hb21 : p2 = (4 : Int32)
                · rw [if_pos hb21] at h
                  refine sx_tableIn (off := 76) (tgt := 106) k351_30 (by rw [hb21]; decide) (by rw [hb21]; decide) (by rw [hb21]; rfl) (by decide) ?_
                  refine sx_aload_n (i := 0) k351_106 rfl rfl ?_
                  refine sx_aload_n (i := 0) k351_107 rfl rfl ?_
                  refine cx_getR (k := 148) k351_108 ow_351 fl_12_727 (by decide) sk_129 ft_11_148 sr_129_148 ?_
                  refine sx_iload k351_111 rfl ?_
                  refine sx_iconst (v := 2) k351_113 (by decide) ?_
                  refine sx_iadd k351_114 ?_
                  obtain ⟨r19, e20, h⟩ := Option.bind_eq_some_iff.mp h
                  refine cx_V (sk := []) (vs := [.ref 215, .int (x6 + (2 : Int32))]) st_351_313 k351_115 ow_351 cl_12_472 (by decide) rfl (Nat.le_of_ble_eq_true rfl) sk_129 (ok313 215 (x6 + (2 : Int32)) sk_215 _ _ e20) (sk3 := [.int r19.2]) rfl rfl ?_
                  refine sx_sipush (v := 16383) k351_118 (by decide) ?_
                  refine sx_iand k351_121 ?_
                  exact cx_reti k351_122 rt_351 h
                · rw [if_neg hb21] at h
                  refine sx_tableOut (tgt := 123) k351_30 (sw_out (n := 5) (fun j hj => ?_)) (by decide) ?_
                  · intro hj2
                    exact sw_no [(0 : Int32), (1 : Int32), (2 : Int32), (3 : Int32), (4 : Int32)] (by decide) hj hj2 ⟨hb9, hb12, hb15, hb18, hb21, trivial⟩
                  ·
                    refine sx_aload_n (i := 0) k351_123 rfl rfl ?_
                    refine cx_getR (k := 149) k351_124 ow_351 fl_12_730 (by decide) sk_129 ft_11_149 sr_129_149 ?_
                    refine sx_iload_n (i := 3) k351_127 rfl rfl ?_
                    obtain ⟨x22, e23, h⟩ := Option.bind_eq_some_iff.mp h
                    refine cx_iald k351_128 sk_216 e23 ?_
                    exact cx_reti k351_129 rt_351 h
      · rw [if_neg hb5] at h
        refine sx_icmp_le (tgt := 23) k351_18 (by decide) (fun q => absurd q hb5) (fun _ => ?_)
        refine sx_iconst (v := -1) k351_21 (by decide) ?_
        exact cx_reti k351_22 rt_351 h
theorem k352_0 : decode (gb 352) 0 = .ok (.aload_n 0, 1) := by decide +kernel
theorem k352_1 : decode (gb 352) 1 = .ok (.iload_n 1, 1) := by decide +kernel
theorem k352_2 : decode (gb 352) 2 = .ok (.invokevirtual 757, 3) := by decide +kernel
theorem k352_5 : decode (gb 352) 5 = .ok (.istore_n 3, 1) := by decide +kernel
theorem k352_6 : decode (gb 352) 6 = .ok (.iload_n 3, 1) := by decide +kernel
theorem k352_7 : decode (gb 352) 7 = .ok (.bipush (-2), 2) := by decide +kernel
theorem k352_9 : decode (gb 352) 9 = .ok (.if_icmp .eq 17, 3) := by decide +kernel
theorem k352_12 : decode (gb 352) 12 = .ok (.iload_n 2, 1) := by decide +kernel
theorem k352_13 : decode (gb 352) 13 = .ok (.ifCond .lt 13, 3) := by decide +kernel
theorem k352_16 : decode (gb 352) 16 = .ok (.iload_n 2, 1) := by decide +kernel
theorem k352_17 : decode (gb 352) 17 = .ok (.aload_n 0, 1) := by decide +kernel
theorem k352_18 : decode (gb 352) 18 = .ok (.getfield 730, 3) := by decide +kernel
theorem k352_21 : decode (gb 352) 21 = .ok (.iload_n 3, 1) := by decide +kernel
theorem k352_22 : decode (gb 352) 22 = .ok (.iaload, 1) := by decide +kernel
theorem k352_23 : decode (gb 352) 23 = .ok (.if_icmp .lt 7, 3) := by decide +kernel
theorem k352_26 : decode (gb 352) 26 = .ok (.iconst (-1), 1) := by decide +kernel
theorem k352_27 : decode (gb 352) 27 = .ok (.goto 14, 3) := by decide +kernel
theorem k352_30 : decode (gb 352) 30 = .ok (.aload_n 0, 1) := by decide +kernel
theorem k352_31 : decode (gb 352) 31 = .ok (.getfield 727, 3) := by decide +kernel
theorem k352_34 : decode (gb 352) 34 = .ok (.bipush 120, 2) := by decide +kernel
theorem k352_36 : decode (gb 352) 36 = .ok (.iload_n 3, 1) := by decide +kernel
theorem k352_37 : decode (gb 352) 37 = .ok (.imul, 1) := by decide +kernel
theorem k352_38 : decode (gb 352) 38 = .ok (.iload_n 2, 1) := by decide +kernel
theorem k352_39 : decode (gb 352) 39 = .ok (.iadd, 1) := by decide +kernel
theorem k352_40 : decode (gb 352) 40 = .ok (.iaload, 1) := by decide +kernel
theorem k352_41 : decode (gb 352) 41 = .ok (.ireturn, 1) := by decide +kernel
def c352_26 (μ : Mem) : Option (Mem × Int32) :=
  some (μ, (-1 : Int32))
theorem c352_26_ok {L : Nat} (μ : Mem) (res : Mem × Int32) (h : c352_26 μ = some res) : Sx 352 26 [] [] 0 0 (mk L μ) (mk L res.1, some (.int res.2)) := by
  unfold c352_26 at h
  refine sx_iconst (v := -1) k352_26 (by decide) ?_
  refine sx_goto (tgt := 41) k352_27 (by decide) ?_
  exact cx_reti k352_41 rt_352 h
/-- CraftHouseModel.archivedByte(II)I -/
def f352 (p1 : Int32) (p2 : Int32) (μ : Mem) : Option (Mem × Int32) :=
  (f350 p1 μ).bind fun r1 =>
  if r1.2 = (-2 : Int32) then
    c352_26 r1.1
  else
    if p2 < 0 then
      c352_26 r1.1
    else
      (ldA 216 r1.2 r1.1).bind fun x5 =>
      if p2 < x5 then
        (ldA 215 (((120 : Int32) * r1.2) + p2) r1.1).bind fun x8 =>
        some (r1.1, x8)
      else
        c352_26 r1.1
theorem ok352 {L : Nat} (p1 : Int32) (p2 : Int32) (μ : Mem) (res : Mem × Int32) (h : f352 p1 p2 μ = some res) : Mx 352 [.ref 129, .int p1, .int p2] (mk L μ) (mk L res.1, some (.int res.2)) := by
  refine Mx_of ml_352 (by rw [mx_352]; exact Nat.le_of_ble_eq_true rfl) ?_
  show Sx 352 0 [(0, .ref 129), (1, .int p1), (2, .int p2)] [] 0 0 (mk L μ) _
  unfold f352 at h
  refine sx_aload_n (i := 0) k352_0 rfl rfl ?_
  refine sx_iload_n (i := 1) k352_1 rfl rfl ?_
  obtain ⟨r1, e2, h⟩ := Option.bind_eq_some_iff.mp h
  refine cx_V (sk := []) (vs := [.int p1]) st_352_350 k352_2 ow_352 cl_12_757 (by decide) rfl (Nat.le_of_ble_eq_true rfl) sk_129 (ok350 p1 _ _ e2) (sk3 := [.int r1.2]) rfl rfl ?_
  refine cx_istore_n (lo2 := [(3, .int r1.2), (0, .ref 129), (1, .int p1), (2, .int p2)]) k352_5 rfl (by rw [mx_352]; decide) rfl ?_
  refine sx_iload_n (i := 3) k352_6 rfl rfl ?_
  refine sx_bipush (v := -2) k352_7 (by decide) ?_
  by_cases hb3 : r1.2 = (-2 : Int32)
  · rw [if_pos hb3] at h
    refine sx_icmp_eq (tgt := 26) k352_9 (by decide) (fun _ => ?_) (fun q => absurd hb3 q)
    refine sx_pick (lo2 := []) [] rfl ?_
    exact c352_26_ok _ _ h
  · rw [if_neg hb3] at h
    refine sx_icmp_eq (tgt := 26) k352_9 (by decide) (fun q => absurd q hb3) (fun _ => ?_)
    refine sx_iload_n (i := 2) k352_12 rfl rfl ?_
    by_cases hb4 : p2 < 0
    · rw [if_pos hb4] at h
      refine sx_if_lt (tgt := 26) k352_13 (by decide) (fun _ => ?_) (fun q => absurd hb4 q)
      refine sx_pick (lo2 := []) [] rfl ?_
      exact c352_26_ok _ _ h
    · rw [if_neg hb4] at h
      refine sx_if_lt (tgt := 26) k352_13 (by decide) (fun q => absurd q hb4) (fun _ => ?_)
      refine sx_iload_n (i := 2) k352_16 rfl rfl ?_
      refine sx_aload_n (i := 0) k352_17 rfl rfl ?_
      refine cx_getR (k := 149) k352_18 ow_352 fl_12_730 (by decide) sk_129 ft_11_149 sr_129_149 ?_
      refine sx_iload_n (i := 3) k352_21 rfl rfl ?_
      obtain ⟨x5, e6, h⟩ := Option.bind_eq_some_iff.mp h
      refine cx_iald k352_22 sk_216 e6 ?_
      by_cases hb7 : p2 < x5
      · rw [if_pos hb7] at h
        refine sx_icmp_lt (tgt := 30) k352_23 (by decide) (fun _ => ?_) (fun q => absurd hb7 q)
        refine sx_aload_n (i := 0) k352_30 rfl rfl ?_
        refine cx_getR (k := 148) k352_31 ow_352 fl_12_727 (by decide) sk_129 ft_11_148 sr_129_148 ?_
        refine sx_bipush (v := 120) k352_34 (by decide) ?_
        refine sx_iload_n (i := 3) k352_36 rfl rfl ?_
        refine sx_imul k352_37 ?_
        refine sx_iload_n (i := 2) k352_38 rfl rfl ?_
        refine sx_iadd k352_39 ?_
        obtain ⟨x8, e9, h⟩ := Option.bind_eq_some_iff.mp h
        refine cx_iald k352_40 sk_215 e9 ?_
        exact cx_reti k352_41 rt_352 h
      · rw [if_neg hb7] at h
        refine sx_icmp_lt (tgt := 30) k352_23 (by decide) (fun q => absurd q hb7) (fun _ => ?_)
        refine sx_pick (lo2 := []) [] rfl ?_
        exact c352_26_ok _ _ h
theorem k353_0 : decode (gb 353) 0 = .ok (.iload_n 1, 1) := by decide +kernel
theorem k353_1 : decode (gb 353) 1 = .ok (.ifCond .lt 18, 3) := by decide +kernel
theorem k353_4 : decode (gb 353) 4 = .ok (.iload_n 1, 1) := by decide +kernel
theorem k353_5 : decode (gb 353) 5 = .ok (.bipush 23, 2) := by decide +kernel
theorem k353_7 : decode (gb 353) 7 = .ok (.if_icmp .gt 12, 3) := by decide +kernel
theorem k353_10 : decode (gb 353) 10 = .ok (.iload_n 2, 1) := by decide +kernel
theorem k353_11 : decode (gb 353) 11 = .ok (.ifCond .lt 8, 3) := by decide +kernel
theorem k353_14 : decode (gb 353) 14 = .ok (.iload_n 2, 1) := by decide +kernel
theorem k353_15 : decode (gb 353) 15 = .ok (.iconst 2, 1) := by decide +kernel
theorem k353_16 : decode (gb 353) 16 = .ok (.if_icmp .le 5, 3) := by decide +kernel
theorem k353_19 : decode (gb 353) 19 = .ok (.iconst 0, 1) := by decide +kernel
theorem k353_20 : decode (gb 353) 20 = .ok (.ireturn, 1) := by decide +kernel
theorem k353_21 : decode (gb 353) 21 = .ok (.iload_n 2, 1) := by decide +kernel
theorem k353_22 : decode (gb 353) 22 = .ok (.ifCond .ne 20, 3) := by decide +kernel
theorem k353_25 : decode (gb 353) 25 = .ok (.aload_n 0, 1) := by decide +kernel
theorem k353_26 : decode (gb 353) 26 = .ok (.getfield 748, 3) := by decide +kernel
theorem k353_29 : decode (gb 353) 29 = .ok (.iload_n 1, 1) := by decide +kernel
theorem k353_30 : decode (gb 353) 30 = .ok (.baload, 1) := by decide +kernel
theorem k353_31 : decode (gb 353) 31 = .ok (.ifCond .eq 7, 3) := by decide +kernel
theorem k353_34 : decode (gb 353) 34 = .ok (.iconst 1, 1) := by decide +kernel
theorem k353_35 : decode (gb 353) 35 = .ok (.goto 27, 3) := by decide +kernel
theorem k353_38 : decode (gb 353) 38 = .ok (.iconst 0, 1) := by decide +kernel
theorem k353_39 : decode (gb 353) 39 = .ok (.goto 23, 3) := by decide +kernel
theorem k353_42 : decode (gb 353) 42 = .ok (.iload_n 2, 1) := by decide +kernel
theorem k353_43 : decode (gb 353) 43 = .ok (.iconst 1, 1) := by decide +kernel
theorem k353_44 : decode (gb 353) 44 = .ok (.if_icmp .ne 12, 3) := by decide +kernel
theorem k353_47 : decode (gb 353) 47 = .ok (.aload_n 0, 1) := by decide +kernel
theorem k353_48 : decode (gb 353) 48 = .ok (.getfield 754, 3) := by decide +kernel
theorem k353_51 : decode (gb 353) 51 = .ok (.iload_n 1, 1) := by decide +kernel
theorem k353_52 : decode (gb 353) 52 = .ok (.iaload, 1) := by decide +kernel
theorem k353_53 : decode (gb 353) 53 = .ok (.goto 9, 3) := by decide +kernel
theorem k353_56 : decode (gb 353) 56 = .ok (.aload_n 0, 1) := by decide +kernel
theorem k353_57 : decode (gb 353) 57 = .ok (.getfield 751, 3) := by decide +kernel
theorem k353_60 : decode (gb 353) 60 = .ok (.iload_n 1, 1) := by decide +kernel
theorem k353_61 : decode (gb 353) 61 = .ok (.iaload, 1) := by decide +kernel
theorem k353_62 : decode (gb 353) 62 = .ok (.ireturn, 1) := by decide +kernel
/-- CraftHouseModel.shown(II)I -/
def f353 (p1 : Int32) (p2 : Int32) (μ : Mem) : Option (Mem × Int32) :=
  if p1 < 0 then
    some (μ, (0 : Int32))
  else
    if (23 : Int32) < p1 then
      some (μ, (0 : Int32))
    else
      if p2 < 0 then
        some (μ, (0 : Int32))
      else
        if p2 ≤ (2 : Int32) then
          if p2 = 0 then
            (ldA 218 p1 μ).bind fun x11 =>
            if x11 = 0 then
              some (μ, (0 : Int32))
            else
              some (μ, (1 : Int32))
          else
            if p2 = (1 : Int32) then
              (ldA 219 p1 μ).bind fun x9 =>
              some (μ, x9)
            else
              (ldA 220 p1 μ).bind fun x7 =>
              some (μ, x7)
        else
          some (μ, (0 : Int32))
theorem ok353 {L : Nat} (p1 : Int32) (p2 : Int32) (μ : Mem) (res : Mem × Int32) (h : f353 p1 p2 μ = some res) : Mx 353 [.ref 129, .int p1, .int p2] (mk L μ) (mk L res.1, some (.int res.2)) := by
  refine Mx_of ml_353 (by rw [mx_353]; exact Nat.le_of_ble_eq_true rfl) ?_
  show Sx 353 0 [(0, .ref 129), (1, .int p1), (2, .int p2)] [] 0 0 (mk L μ) _
  unfold f353 at h
  refine sx_iload_n (i := 1) k353_0 rfl rfl ?_
  by_cases hb1 : p1 < 0
  · rw [if_pos hb1] at h
    refine sx_if_lt (tgt := 19) k353_1 (by decide) (fun _ => ?_) (fun q => absurd hb1 q)
    refine sx_iconst (v := 0) k353_19 (by decide) ?_
    exact cx_reti k353_20 rt_353 h
  · rw [if_neg hb1] at h
    refine sx_if_lt (tgt := 19) k353_1 (by decide) (fun q => absurd q hb1) (fun _ => ?_)
    refine sx_iload_n (i := 1) k353_4 rfl rfl ?_
    refine sx_bipush (v := 23) k353_5 (by decide) ?_
    by_cases hb2 : (23 : Int32) < p1
    · rw [if_pos hb2] at h
      refine sx_icmp_gt (tgt := 19) k353_7 (by decide) (fun _ => ?_) (fun q => absurd hb2 q)
      refine sx_iconst (v := 0) k353_19 (by decide) ?_
      exact cx_reti k353_20 rt_353 h
    · rw [if_neg hb2] at h
      refine sx_icmp_gt (tgt := 19) k353_7 (by decide) (fun q => absurd q hb2) (fun _ => ?_)
      refine sx_iload_n (i := 2) k353_10 rfl rfl ?_
      by_cases hb3 : p2 < 0
      · rw [if_pos hb3] at h
        refine sx_if_lt (tgt := 19) k353_11 (by decide) (fun _ => ?_) (fun q => absurd hb3 q)
        refine sx_iconst (v := 0) k353_19 (by decide) ?_
        exact cx_reti k353_20 rt_353 h
      · rw [if_neg hb3] at h
        refine sx_if_lt (tgt := 19) k353_11 (by decide) (fun q => absurd q hb3) (fun _ => ?_)
        refine sx_iload_n (i := 2) k353_14 rfl rfl ?_
        refine sx_iconst (v := 2) k353_15 (by decide) ?_
        by_cases hb4 : p2 ≤ (2 : Int32)
        · rw [if_pos hb4] at h
          refine sx_icmp_le (tgt := 21) k353_16 (by decide) (fun _ => ?_) (fun q => absurd hb4 q)
          refine sx_iload_n (i := 2) k353_21 rfl rfl ?_
          by_cases hb5 : p2 = 0
          · rw [if_pos hb5] at h
            refine sx_if_ne (tgt := 42) k353_22 (by decide) (fun q => absurd hb5 q) (fun _ => ?_)
            refine sx_aload_n (i := 0) k353_25 rfl rfl ?_
            refine cx_getR (k := 151) k353_26 ow_353 fl_12_748 (by decide) sk_129 ft_11_151 sr_129_151 ?_
            refine sx_iload_n (i := 1) k353_29 rfl rfl ?_
            obtain ⟨x11, e12, h⟩ := Option.bind_eq_some_iff.mp h
            refine cx_bald k353_30 (Or.inr sk_218) e12 ?_
            by_cases hb13 : x11 = 0
            · rw [if_pos hb13] at h
              refine sx_if_eq (tgt := 38) k353_31 (by decide) (fun _ => ?_) (fun q => absurd hb13 q)
              refine sx_iconst (v := 0) k353_38 (by decide) ?_
              refine sx_goto (tgt := 62) k353_39 (by decide) ?_
              exact cx_reti k353_62 rt_353 h
            · rw [if_neg hb13] at h
              refine sx_if_eq (tgt := 38) k353_31 (by decide) (fun q => absurd q hb13) (fun _ => ?_)
              refine sx_iconst (v := 1) k353_34 (by decide) ?_
              refine sx_goto (tgt := 62) k353_35 (by decide) ?_
              exact cx_reti k353_62 rt_353 h
          · rw [if_neg hb5] at h
            refine sx_if_ne (tgt := 42) k353_22 (by decide) (fun _ => ?_) (fun q => absurd q hb5)
            refine sx_iload_n (i := 2) k353_42 rfl rfl ?_
            refine sx_iconst (v := 1) k353_43 (by decide) ?_
            by_cases hb6 : p2 = (1 : Int32)
            · rw [if_pos hb6] at h
              refine sx_icmp_ne (tgt := 56) k353_44 (by decide) (fun q => absurd hb6 q) (fun _ => ?_)
              refine sx_aload_n (i := 0) k353_47 rfl rfl ?_
              refine cx_getR (k := 152) k353_48 ow_353 fl_12_754 (by decide) sk_129 ft_11_152 sr_129_152 ?_
              refine sx_iload_n (i := 1) k353_51 rfl rfl ?_
              obtain ⟨x9, e10, h⟩ := Option.bind_eq_some_iff.mp h
              refine cx_iald k353_52 sk_219 e10 ?_
              refine sx_goto (tgt := 62) k353_53 (by decide) ?_
              exact cx_reti k353_62 rt_353 h
            · rw [if_neg hb6] at h
              refine sx_icmp_ne (tgt := 56) k353_44 (by decide) (fun _ => ?_) (fun q => absurd q hb6)
              refine sx_aload_n (i := 0) k353_56 rfl rfl ?_
              refine cx_getR (k := 153) k353_57 ow_353 fl_12_751 (by decide) sk_129 ft_11_153 sr_129_153 ?_
              refine sx_iload_n (i := 1) k353_60 rfl rfl ?_
              obtain ⟨x7, e8, h⟩ := Option.bind_eq_some_iff.mp h
              refine cx_iald k353_61 sk_220 e8 ?_
              exact cx_reti k353_62 rt_353 h
        · rw [if_neg hb4] at h
          refine sx_icmp_le (tgt := 21) k353_16 (by decide) (fun q => absurd q hb4) (fun _ => ?_)
          refine sx_iconst (v := 0) k353_19 (by decide) ?_
          exact cx_reti k353_20 rt_353 h
theorem k354_0 : decode (gb 354) 0 = .ok (.iload_n 1, 1) := by decide +kernel
theorem k354_1 : decode (gb 354) 1 = .ok (.ifCond .lt 9, 3) := by decide +kernel
theorem k354_4 : decode (gb 354) 4 = .ok (.iload_n 1, 1) := by decide +kernel
theorem k354_5 : decode (gb 354) 5 = .ok (.bipush 15, 2) := by decide +kernel
theorem k354_7 : decode (gb 354) 7 = .ok (.if_icmp .le 5, 3) := by decide +kernel
theorem k354_10 : decode (gb 354) 10 = .ok (.iconst 0, 1) := by decide +kernel
theorem k354_11 : decode (gb 354) 11 = .ok (.ireturn, 1) := by decide +kernel
theorem k354_12 : decode (gb 354) 12 = .ok (.aload_n 0, 1) := by decide +kernel
theorem k354_13 : decode (gb 354) 13 = .ok (.getfield 126, 3) := by decide +kernel
theorem k354_16 : decode (gb 354) 16 = .ok (.iload_n 1, 1) := by decide +kernel
theorem k354_17 : decode (gb 354) 17 = .ok (.iaload, 1) := by decide +kernel
theorem k354_18 : decode (gb 354) 18 = .ok (.istore_n 3, 1) := by decide +kernel
theorem k354_19 : decode (gb 354) 19 = .ok (.aload_n 0, 1) := by decide +kernel
theorem k354_20 : decode (gb 354) 20 = .ok (.getfield 126, 3) := by decide +kernel
theorem k354_23 : decode (gb 354) 23 = .ok (.iload_n 1, 1) := by decide +kernel
theorem k354_24 : decode (gb 354) 24 = .ok (.iload_n 2, 1) := by decide +kernel
theorem k354_25 : decode (gb 354) 25 = .ok (.iastore, 1) := by decide +kernel
theorem k354_26 : decode (gb 354) 26 = .ok (.iload_n 3, 1) := by decide +kernel
theorem k354_27 : decode (gb 354) 27 = .ok (.ireturn, 1) := by decide +kernel
/-- CraftHouseModel.sense(II)I -/
def f354 (p1 : Int32) (p2 : Int32) (μ : Mem) : Option (Mem × Int32) :=
  if p1 < 0 then
    some (μ, (0 : Int32))
  else
    if p1 ≤ (15 : Int32) then
      (ldA 162 p1 μ).bind fun x3 =>
      (stA 162 p1 p2 μ).bind fun m5 =>
      some (m5, x3)
    else
      some (μ, (0 : Int32))
theorem ok354 {L : Nat} (p1 : Int32) (p2 : Int32) (μ : Mem) (res : Mem × Int32) (h : f354 p1 p2 μ = some res) : Mx 354 [.ref 129, .int p1, .int p2] (mk L μ) (mk L res.1, some (.int res.2)) := by
  refine Mx_of ml_354 (by rw [mx_354]; exact Nat.le_of_ble_eq_true rfl) ?_
  show Sx 354 0 [(0, .ref 129), (1, .int p1), (2, .int p2)] [] 0 0 (mk L μ) _
  unfold f354 at h
  refine sx_iload_n (i := 1) k354_0 rfl rfl ?_
  by_cases hb1 : p1 < 0
  · rw [if_pos hb1] at h
    refine sx_if_lt (tgt := 10) k354_1 (by decide) (fun _ => ?_) (fun q => absurd hb1 q)
    refine sx_iconst (v := 0) k354_10 (by decide) ?_
    exact cx_reti k354_11 rt_354 h
  · rw [if_neg hb1] at h
    refine sx_if_lt (tgt := 10) k354_1 (by decide) (fun q => absurd q hb1) (fun _ => ?_)
    refine sx_iload_n (i := 1) k354_4 rfl rfl ?_
    refine sx_bipush (v := 15) k354_5 (by decide) ?_
    by_cases hb2 : p1 ≤ (15 : Int32)
    · rw [if_pos hb2] at h
      refine sx_icmp_le (tgt := 12) k354_7 (by decide) (fun _ => ?_) (fun q => absurd hb2 q)
      refine sx_aload_n (i := 0) k354_12 rfl rfl ?_
      refine cx_getR (k := 78) k354_13 ow_354 fl_12_126 (by decide) sk_129 ft_11_78 sr_129_78 ?_
      refine sx_iload_n (i := 1) k354_16 rfl rfl ?_
      obtain ⟨x3, e4, h⟩ := Option.bind_eq_some_iff.mp h
      refine cx_iald k354_17 sk_162 e4 ?_
      refine cx_istore_n (lo2 := [(3, .int x3), (0, .ref 129), (1, .int p1), (2, .int p2)]) k354_18 rfl (by rw [mx_354]; decide) rfl ?_
      refine sx_aload_n (i := 0) k354_19 rfl rfl ?_
      refine cx_getR (k := 78) k354_20 ow_354 fl_12_126 (by decide) sk_129 ft_11_78 sr_129_78 ?_
      refine sx_iload_n (i := 1) k354_23 rfl rfl ?_
      refine sx_iload_n (i := 2) k354_24 rfl rfl ?_
      obtain ⟨m5, e6, h⟩ := Option.bind_eq_some_iff.mp h
      refine cx_iast k354_25 sk_162 e6 ?_
      refine sx_iload_n (i := 3) k354_26 rfl rfl ?_
      exact cx_reti k354_27 rt_354 h
    · rw [if_neg hb2] at h
      refine sx_icmp_le (tgt := 12) k354_7 (by decide) (fun q => absurd q hb2) (fun _ => ?_)
      refine sx_iconst (v := 0) k354_10 (by decide) ?_
      exact cx_reti k354_11 rt_354 h
theorem k355_0 : decode (gb 355) 0 = .ok (.iload_n 1, 1) := by decide +kernel
theorem k355_1 : decode (gb 355) 1 = .ok (.ifCond .lt 9, 3) := by decide +kernel
theorem k355_4 : decode (gb 355) 4 = .ok (.iload_n 1, 1) := by decide +kernel
theorem k355_5 : decode (gb 355) 5 = .ok (.bipush 23, 2) := by decide +kernel
theorem k355_7 : decode (gb 355) 7 = .ok (.if_icmp .le 7, 3) := by decide +kernel
theorem k355_10 : decode (gb 355) 10 = .ok (.iconst 0, 1) := by decide +kernel
theorem k355_11 : decode (gb 355) 11 = .ok (.goto 8, 3) := by decide +kernel
theorem k355_14 : decode (gb 355) 14 = .ok (.aload_n 0, 1) := by decide +kernel
theorem k355_15 : decode (gb 355) 15 = .ok (.iload_n 1, 1) := by decide +kernel
theorem k355_16 : decode (gb 355) 16 = .ok (.invokevirtual 589, 3) := by decide +kernel
theorem k355_19 : decode (gb 355) 19 = .ok (.ireturn, 1) := by decide +kernel
def c355_10 (μ : Mem) : Option (Mem × Int32) :=
  some (μ, (0 : Int32))
theorem c355_10_ok {L : Nat} (μ : Mem) (res : Mem × Int32) (h : c355_10 μ = some res) : Sx 355 10 [] [] 0 0 (mk L μ) (mk L res.1, some (.int res.2)) := by
  unfold c355_10 at h
  refine sx_iconst (v := 0) k355_10 (by decide) ?_
  refine sx_goto (tgt := 19) k355_11 (by decide) ?_
  exact cx_reti k355_19 rt_355 h
/-- CraftHouseModel.parameter(I)I -/
def f355 (p1 : Int32) (μ : Mem) : Option (Mem × Int32) :=
  if p1 < 0 then
    c355_10 μ
  else
    if p1 ≤ (23 : Int32) then
      (f304 p1 μ).bind fun r3 =>
      some (r3.1, r3.2)
    else
      c355_10 μ
theorem ok355 {L : Nat} (p1 : Int32) (μ : Mem) (res : Mem × Int32) (h : f355 p1 μ = some res) : Mx 355 [.ref 129, .int p1] (mk L μ) (mk L res.1, some (.int res.2)) := by
  refine Mx_of ml_355 (by rw [mx_355]; exact Nat.le_of_ble_eq_true rfl) ?_
  show Sx 355 0 [(0, .ref 129), (1, .int p1)] [] 0 0 (mk L μ) _
  unfold f355 at h
  refine sx_iload_n (i := 1) k355_0 rfl rfl ?_
  by_cases hb1 : p1 < 0
  · rw [if_pos hb1] at h
    refine sx_if_lt (tgt := 10) k355_1 (by decide) (fun _ => ?_) (fun q => absurd hb1 q)
    refine sx_pick (lo2 := []) [] rfl ?_
    exact c355_10_ok _ _ h
  · rw [if_neg hb1] at h
    refine sx_if_lt (tgt := 10) k355_1 (by decide) (fun q => absurd q hb1) (fun _ => ?_)
    refine sx_iload_n (i := 1) k355_4 rfl rfl ?_
    refine sx_bipush (v := 23) k355_5 (by decide) ?_
    by_cases hb2 : p1 ≤ (23 : Int32)
    · rw [if_pos hb2] at h
      refine sx_icmp_le (tgt := 14) k355_7 (by decide) (fun _ => ?_) (fun q => absurd hb2 q)
      refine sx_aload_n (i := 0) k355_14 rfl rfl ?_
      refine sx_iload_n (i := 1) k355_15 rfl rfl ?_
      obtain ⟨r3, e4, h⟩ := Option.bind_eq_some_iff.mp h
      refine cx_V (sk := []) (vs := [.int p1]) st_355_304 k355_16 ow_355 cl_12_589 (by decide) rfl (Nat.le_of_ble_eq_true rfl) sk_129 (ok304 p1 _ _ e4) (sk3 := [.int r3.2]) rfl rfl ?_
      exact cx_reti k355_19 rt_355 h
    · rw [if_neg hb2] at h
      refine sx_icmp_le (tgt := 14) k355_7 (by decide) (fun q => absurd q hb2) (fun _ => ?_)
      refine sx_pick (lo2 := []) [] rfl ?_
      exact c355_10_ok _ _ h
theorem k356_0 : decode (gb 356) 0 = .ok (.iload_n 1, 1) := by decide +kernel
theorem k356_1 : decode (gb 356) 1 = .ok (.ifCond .lt 10, 3) := by decide +kernel
theorem k356_4 : decode (gb 356) 4 = .ok (.iload_n 1, 1) := by decide +kernel
theorem k356_5 : decode (gb 356) 5 = .ok (.sipush 1023, 3) := by decide +kernel
theorem k356_8 : decode (gb 356) 8 = .ok (.if_icmp .le 7, 3) := by decide +kernel
theorem k356_11 : decode (gb 356) 11 = .ok (.iconst (-1), 1) := by decide +kernel
theorem k356_12 : decode (gb 356) 12 = .ok (.goto 9, 3) := by decide +kernel
theorem k356_15 : decode (gb 356) 15 = .ok (.aload_n 0, 1) := by decide +kernel
theorem k356_16 : decode (gb 356) 16 = .ok (.getfield 592, 3) := by decide +kernel
theorem k356_19 : decode (gb 356) 19 = .ok (.iload_n 1, 1) := by decide +kernel
theorem k356_20 : decode (gb 356) 20 = .ok (.iaload, 1) := by decide +kernel
theorem k356_21 : decode (gb 356) 21 = .ok (.ireturn, 1) := by decide +kernel
def c356_11 (μ : Mem) : Option (Mem × Int32) :=
  some (μ, (-1 : Int32))
theorem c356_11_ok {L : Nat} (μ : Mem) (res : Mem × Int32) (h : c356_11 μ = some res) : Sx 356 11 [] [] 0 0 (mk L μ) (mk L res.1, some (.int res.2)) := by
  unfold c356_11 at h
  refine sx_iconst (v := -1) k356_11 (by decide) ?_
  refine sx_goto (tgt := 21) k356_12 (by decide) ?_
  exact cx_reti k356_21 rt_356 h
/-- CraftHouseModel.memory(I)I -/
def f356 (p1 : Int32) (μ : Mem) : Option (Mem × Int32) :=
  if p1 < 0 then
    c356_11 μ
  else
    if p1 ≤ (1023 : Int32) then
      (ldA 189 p1 μ).bind fun x3 =>
      some (μ, x3)
    else
      c356_11 μ
theorem ok356 {L : Nat} (p1 : Int32) (μ : Mem) (res : Mem × Int32) (h : f356 p1 μ = some res) : Mx 356 [.ref 129, .int p1] (mk L μ) (mk L res.1, some (.int res.2)) := by
  refine Mx_of ml_356 (by rw [mx_356]; exact Nat.le_of_ble_eq_true rfl) ?_
  show Sx 356 0 [(0, .ref 129), (1, .int p1)] [] 0 0 (mk L μ) _
  unfold f356 at h
  refine sx_iload_n (i := 1) k356_0 rfl rfl ?_
  by_cases hb1 : p1 < 0
  · rw [if_pos hb1] at h
    refine sx_if_lt (tgt := 11) k356_1 (by decide) (fun _ => ?_) (fun q => absurd hb1 q)
    refine sx_pick (lo2 := []) [] rfl ?_
    exact c356_11_ok _ _ h
  · rw [if_neg hb1] at h
    refine sx_if_lt (tgt := 11) k356_1 (by decide) (fun q => absurd q hb1) (fun _ => ?_)
    refine sx_iload_n (i := 1) k356_4 rfl rfl ?_
    refine sx_sipush (v := 1023) k356_5 (by decide) ?_
    by_cases hb2 : p1 ≤ (1023 : Int32)
    · rw [if_pos hb2] at h
      refine sx_icmp_le (tgt := 15) k356_8 (by decide) (fun _ => ?_) (fun q => absurd hb2 q)
      refine sx_aload_n (i := 0) k356_15 rfl rfl ?_
      refine cx_getR (k := 114) k356_16 ow_356 fl_12_592 (by decide) sk_129 ft_11_114 sr_129_114 ?_
      refine sx_iload_n (i := 1) k356_19 rfl rfl ?_
      obtain ⟨x3, e4, h⟩ := Option.bind_eq_some_iff.mp h
      refine cx_iald k356_20 sk_189 e4 ?_
      exact cx_reti k356_21 rt_356 h
    · rw [if_neg hb2] at h
      refine sx_icmp_le (tgt := 15) k356_8 (by decide) (fun q => absurd q hb2) (fun _ => ?_)
      refine sx_pick (lo2 := []) [] rfl ?_
      exact c356_11_ok _ _ h
theorem k357_0 : decode (gb 357) 0 = .ok (.iload_n 1, 1) := by decide +kernel
theorem k357_1 : decode (gb 357) 1 = .ok (.tableswitch 191 0 15 #[79, 84, 97, 110, 123, 128, 133, 138, 143, 148, 153, 166, 171, 176, 181, 186], 79) := by decide +kernel
theorem k357_80 : decode (gb 357) 80 = .ok (.aload_n 0, 1) := by decide +kernel
theorem k357_81 : decode (gb 357) 81 = .ok (.getfield 139, 3) := by decide +kernel
theorem k357_84 : decode (gb 357) 84 = .ok (.ireturn, 1) := by decide +kernel
theorem k357_85 : decode (gb 357) 85 = .ok (.aload_n 0, 1) := by decide +kernel
theorem k357_86 : decode (gb 357) 86 = .ok (.getfield 136, 3) := by decide +kernel
theorem k357_89 : decode (gb 357) 89 = .ok (.ifCond .eq 7, 3) := by decide +kernel
theorem k357_92 : decode (gb 357) 92 = .ok (.iconst 1, 1) := by decide +kernel
theorem k357_93 : decode (gb 357) 93 = .ok (.goto 4, 3) := by decide +kernel
theorem k357_96 : decode (gb 357) 96 = .ok (.iconst 0, 1) := by decide +kernel
theorem k357_97 : decode (gb 357) 97 = .ok (.ireturn, 1) := by decide +kernel
theorem k357_98 : decode (gb 357) 98 = .ok (.aload_n 0, 1) := by decide +kernel
theorem k357_99 : decode (gb 357) 99 = .ok (.getfield 142, 3) := by decide +kernel
theorem k357_102 : decode (gb 357) 102 = .ok (.ifCond .eq 7, 3) := by decide +kernel
theorem k357_105 : decode (gb 357) 105 = .ok (.iconst 1, 1) := by decide +kernel
theorem k357_106 : decode (gb 357) 106 = .ok (.goto 4, 3) := by decide +kernel
theorem k357_109 : decode (gb 357) 109 = .ok (.iconst 0, 1) := by decide +kernel
theorem k357_110 : decode (gb 357) 110 = .ok (.ireturn, 1) := by decide +kernel
theorem k357_111 : decode (gb 357) 111 = .ok (.aload_n 0, 1) := by decide +kernel
theorem k357_112 : decode (gb 357) 112 = .ok (.getfield 145, 3) := by decide +kernel
theorem k357_115 : decode (gb 357) 115 = .ok (.ifCond .eq 7, 3) := by decide +kernel
theorem k357_118 : decode (gb 357) 118 = .ok (.iconst 1, 1) := by decide +kernel
theorem k357_119 : decode (gb 357) 119 = .ok (.goto 4, 3) := by decide +kernel
theorem k357_122 : decode (gb 357) 122 = .ok (.iconst 0, 1) := by decide +kernel
theorem k357_123 : decode (gb 357) 123 = .ok (.ireturn, 1) := by decide +kernel
theorem k357_124 : decode (gb 357) 124 = .ok (.aload_n 0, 1) := by decide +kernel
theorem k357_125 : decode (gb 357) 125 = .ok (.getfield 133, 3) := by decide +kernel
theorem k357_128 : decode (gb 357) 128 = .ok (.ireturn, 1) := by decide +kernel
theorem k357_129 : decode (gb 357) 129 = .ok (.aload_n 0, 1) := by decide +kernel
theorem k357_130 : decode (gb 357) 130 = .ok (.getfield 161, 3) := by decide +kernel
theorem k357_133 : decode (gb 357) 133 = .ok (.ireturn, 1) := by decide +kernel
theorem k357_134 : decode (gb 357) 134 = .ok (.aload_n 0, 1) := by decide +kernel
theorem k357_135 : decode (gb 357) 135 = .ok (.getfield 148, 3) := by decide +kernel
theorem k357_138 : decode (gb 357) 138 = .ok (.ireturn, 1) := by decide +kernel
theorem k357_139 : decode (gb 357) 139 = .ok (.aload_n 0, 1) := by decide +kernel
theorem k357_140 : decode (gb 357) 140 = .ok (.getfield 426, 3) := by decide +kernel
theorem k357_143 : decode (gb 357) 143 = .ok (.ireturn, 1) := by decide +kernel
theorem k357_144 : decode (gb 357) 144 = .ok (.aload_n 0, 1) := by decide +kernel
theorem k357_145 : decode (gb 357) 145 = .ok (.getfield 559, 3) := by decide +kernel
theorem k357_148 : decode (gb 357) 148 = .ok (.ireturn, 1) := by decide +kernel
theorem k357_149 : decode (gb 357) 149 = .ok (.aload_n 0, 1) := by decide +kernel
theorem k357_150 : decode (gb 357) 150 = .ok (.getfield 429, 3) := by decide +kernel
theorem k357_153 : decode (gb 357) 153 = .ok (.ireturn, 1) := by decide +kernel
theorem k357_154 : decode (gb 357) 154 = .ok (.aload_n 0, 1) := by decide +kernel
theorem k357_155 : decode (gb 357) 155 = .ok (.getfield 87, 3) := by decide +kernel
theorem k357_158 : decode (gb 357) 158 = .ok (.ifCond .eq 7, 3) := by decide +kernel
theorem k357_161 : decode (gb 357) 161 = .ok (.iconst 1, 1) := by decide +kernel
theorem k357_162 : decode (gb 357) 162 = .ok (.goto 4, 3) := by decide +kernel
theorem k357_165 : decode (gb 357) 165 = .ok (.iconst 0, 1) := by decide +kernel
theorem k357_166 : decode (gb 357) 166 = .ok (.ireturn, 1) := by decide +kernel
theorem k357_167 : decode (gb 357) 167 = .ok (.aload_n 0, 1) := by decide +kernel
theorem k357_168 : decode (gb 357) 168 = .ok (.getfield 110, 3) := by decide +kernel
theorem k357_171 : decode (gb 357) 171 = .ok (.ireturn, 1) := by decide +kernel
theorem k357_172 : decode (gb 357) 172 = .ok (.aload_n 0, 1) := by decide +kernel
theorem k357_173 : decode (gb 357) 173 = .ok (.getfield 120, 3) := by decide +kernel
theorem k357_176 : decode (gb 357) 176 = .ok (.ireturn, 1) := by decide +kernel
theorem k357_177 : decode (gb 357) 177 = .ok (.aload_n 0, 1) := by decide +kernel
theorem k357_178 : decode (gb 357) 178 = .ok (.getfield 101, 3) := by decide +kernel
theorem k357_181 : decode (gb 357) 181 = .ok (.ireturn, 1) := by decide +kernel
theorem k357_182 : decode (gb 357) 182 = .ok (.aload_n 0, 1) := by decide +kernel
theorem k357_183 : decode (gb 357) 183 = .ok (.getfield 411, 3) := by decide +kernel
theorem k357_186 : decode (gb 357) 186 = .ok (.ireturn, 1) := by decide +kernel
theorem k357_187 : decode (gb 357) 187 = .ok (.aload_n 0, 1) := by decide +kernel
theorem k357_188 : decode (gb 357) 188 = .ok (.getfield 154, 3) := by decide +kernel
theorem k357_191 : decode (gb 357) 191 = .ok (.ireturn, 1) := by decide +kernel
theorem k357_192 : decode (gb 357) 192 = .ok (.iconst (-1), 1) := by decide +kernel
theorem k357_193 : decode (gb 357) 193 = .ok (.ireturn, 1) := by decide +kernel
/-- CraftHouseModel.craft(I)I -/
def f357 (p1 : Int32) (μ : Mem) : Option (Mem × Int32) :=
  if p1 = (0 : Int32) then
    some (μ, (μ.1 129 19))
  else if p1 = (1 : Int32) then
    if (μ.1 129 20) = 0 then
      some (μ, (0 : Int32))
    else
      some (μ, (1 : Int32))
  else if p1 = (2 : Int32) then
    if (μ.1 129 21) = 0 then
      some (μ, (0 : Int32))
    else
      some (μ, (1 : Int32))
  else if p1 = (3 : Int32) then
    if (μ.1 129 22) = 0 then
      some (μ, (0 : Int32))
    else
      some (μ, (1 : Int32))
  else if p1 = (4 : Int32) then
    some (μ, (μ.1 129 23))
  else if p1 = (5 : Int32) then
    some (μ, (μ.1 129 24))
  else if p1 = (6 : Int32) then
    some (μ, (μ.1 129 104))
  else if p1 = (7 : Int32) then
    some (μ, (μ.1 129 86))
  else if p1 = (8 : Int32) then
    some (μ, (μ.1 129 90))
  else if p1 = (9 : Int32) then
    some (μ, (μ.1 129 87))
  else if p1 = (10 : Int32) then
    if (μ.1 129 9) = 0 then
      some (μ, (0 : Int32))
    else
      some (μ, (1 : Int32))
  else if p1 = (11 : Int32) then
    some (μ, (μ.1 129 16))
  else if p1 = (12 : Int32) then
    some (μ, (μ.1 129 17))
  else if p1 = (13 : Int32) then
    some (μ, (μ.1 129 18))
  else if p1 = (14 : Int32) then
    some (μ, (μ.1 129 81))
  else if p1 = (15 : Int32) then
    some (μ, (μ.1 129 25))
  else 
    some (μ, (-1 : Int32))
theorem ok357 {L : Nat} (p1 : Int32) (μ : Mem) (res : Mem × Int32) (h : f357 p1 μ = some res) : Mx 357 [.ref 129, .int p1] (mk L μ) (mk L res.1, some (.int res.2)) := by
  refine Mx_of ml_357 (by rw [mx_357]; exact Nat.le_of_ble_eq_true rfl) ?_
  show Sx 357 0 [(0, .ref 129), (1, .int p1)] [] 0 0 (mk L μ) _
  unfold f357 at h
  refine sx_iload_n (i := 1) k357_0 rfl rfl ?_
  by_cases hb1 : p1 = (0 : Int32)
  · rw [if_pos hb1] at h
    refine sx_tableIn (off := 79) (tgt := 80) k357_1 (by rw [hb1]; decide) (by rw [hb1]; decide) (by rw [hb1]; rfl) (by decide) ?_
    refine sx_aload_n (i := 0) k357_80 rfl rfl ?_
    refine cx_getI (k := 19) k357_81 ow_357 fl_12_139 (by decide) sk_129 ft_11_19 ?_
    exact cx_reti k357_84 rt_357 h
  · rw [if_neg hb1] at h
    by_cases hb3 : p1 = (1 : Int32)
    · rw [if_pos hb3] at h
      refine sx_tableIn (off := 84) (tgt := 85) k357_1 (by rw [hb3]; decide) (by rw [hb3]; decide) (by rw [hb3]; rfl) (by decide) ?_
      refine sx_aload_n (i := 0) k357_85 rfl rfl ?_
      refine cx_getI (k := 20) k357_86 ow_357 fl_12_136 (by decide) sk_129 ft_11_20 ?_
      by_cases hb2 : (μ.1 129 20) = 0
      · rw [if_pos hb2] at h
        refine sx_if_eq (tgt := 96) k357_89 (by decide) (fun _ => ?_) (fun q => absurd hb2 q)
        refine sx_iconst (v := 0) k357_96 (by decide) ?_
        exact cx_reti k357_97 rt_357 h
      · rw [if_neg hb2] at h
        refine sx_if_eq (tgt := 96) k357_89 (by decide) (fun q => absurd q hb2) (fun _ => ?_)
        refine sx_iconst (v := 1) k357_92 (by decide) ?_
        refine sx_goto (tgt := 97) k357_93 (by decide) ?_
        exact cx_reti k357_97 rt_357 h
    · rw [if_neg hb3] at h
      by_cases hb5 : p1 = (2 : Int32)
      · rw [if_pos hb5] at h
        refine sx_tableIn (off := 97) (tgt := 98) k357_1 (by rw [hb5]; decide) (by rw [hb5]; decide) (by rw [hb5]; rfl) (by decide) ?_
        refine sx_aload_n (i := 0) k357_98 rfl rfl ?_
        refine cx_getI (k := 21) k357_99 ow_357 fl_12_142 (by decide) sk_129 ft_11_21 ?_
        by_cases hb4 : (μ.1 129 21) = 0
        · rw [if_pos hb4] at h
          refine sx_if_eq (tgt := 109) k357_102 (by decide) (fun _ => ?_) (fun q => absurd hb4 q)
          refine sx_iconst (v := 0) k357_109 (by decide) ?_
          exact cx_reti k357_110 rt_357 h
        · rw [if_neg hb4] at h
          refine sx_if_eq (tgt := 109) k357_102 (by decide) (fun q => absurd q hb4) (fun _ => ?_)
          refine sx_iconst (v := 1) k357_105 (by decide) ?_
          refine sx_goto (tgt := 110) k357_106 (by decide) ?_
          exact cx_reti k357_110 rt_357 h
      · rw [if_neg hb5] at h
        by_cases hb7 : p1 = (3 : Int32)
        · rw [if_pos hb7] at h
          refine sx_tableIn (off := 110) (tgt := 111) k357_1 (by rw [hb7]; decide) (by rw [hb7]; decide) (by rw [hb7]; rfl) (by decide) ?_
          refine sx_aload_n (i := 0) k357_111 rfl rfl ?_
          refine cx_getI (k := 22) k357_112 ow_357 fl_12_145 (by decide) sk_129 ft_11_22 ?_
          by_cases hb6 : (μ.1 129 22) = 0
          · rw [if_pos hb6] at h
            refine sx_if_eq (tgt := 122) k357_115 (by decide) (fun _ => ?_) (fun q => absurd hb6 q)
            refine sx_iconst (v := 0) k357_122 (by decide) ?_
            exact cx_reti k357_123 rt_357 h
          · rw [if_neg hb6] at h
            refine sx_if_eq (tgt := 122) k357_115 (by decide) (fun q => absurd q hb6) (fun _ => ?_)
            refine sx_iconst (v := 1) k357_118 (by decide) ?_
            refine sx_goto (tgt := 123) k357_119 (by decide) ?_
            exact cx_reti k357_123 rt_357 h
        · rw [if_neg hb7] at h
          by_cases hb8 : p1 = (4 : Int32)
          · rw [if_pos hb8] at h
            refine sx_tableIn (off := 123) (tgt := 124) k357_1 (by rw [hb8]; decide) (by rw [hb8]; decide) (by rw [hb8]; rfl) (by decide) ?_
            refine sx_aload_n (i := 0) k357_124 rfl rfl ?_
            refine cx_getI (k := 23) k357_125 ow_357 fl_12_133 (by decide) sk_129 ft_11_23 ?_
            exact cx_reti k357_128 rt_357 h
          · rw [if_neg hb8] at h
            by_cases hb9 : p1 = (5 : Int32)
            · rw [if_pos hb9] at h
              refine sx_tableIn (off := 128) (tgt := 129) k357_1 (by rw [hb9]; decide) (by rw [hb9]; decide) (by rw [hb9]; rfl) (by decide) ?_
              refine sx_aload_n (i := 0) k357_129 rfl rfl ?_
              refine cx_getI (k := 24) k357_130 ow_357 fl_12_161 (by decide) sk_129 ft_11_24 ?_
              exact cx_reti k357_133 rt_357 h
            · rw [if_neg hb9] at h
              by_cases hb10 : p1 = (6 : Int32)
              · rw [if_pos hb10] at h
                refine sx_tableIn (off := 133) (tgt := 134) k357_1 (by rw [hb10]; decide) (by rw [hb10]; decide) (by rw [hb10]; rfl) (by decide) ?_
                refine sx_aload_n (i := 0) k357_134 rfl rfl ?_
                refine cx_getI (k := 104) k357_135 ow_357 fl_12_148 (by decide) sk_129 ft_11_104 ?_
                exact cx_reti k357_138 rt_357 h
              · rw [if_neg hb10] at h
                by_cases hb11 : p1 = (7 : Int32)
                · rw [if_pos hb11] at h
                  refine sx_tableIn (off := 138) (tgt := 139) k357_1 (by rw [hb11]; decide) (by rw [hb11]; decide) (by rw [hb11]; rfl) (by decide) ?_
                  refine sx_aload_n (i := 0) k357_139 rfl rfl ?_
                  refine cx_getI (k := 86) k357_140 ow_357 fl_12_426 (by decide) sk_129 ft_11_86 ?_
                  exact cx_reti k357_143 rt_357 h
                · rw [if_neg hb11] at h
                  by_cases hb12 : p1 = (8 : Int32)
                  · rw [if_pos hb12] at h
                    refine sx_tableIn (off := 143) (tgt := 144) k357_1 (by rw [hb12]; decide) (by rw [hb12]; decide) (by rw [hb12]; rfl) (by decide) ?_
                    refine sx_aload_n (i := 0) k357_144 rfl rfl ?_
                    refine cx_getI (k := 90) k357_145 ow_357 fl_12_559 (by decide) sk_129 ft_11_90 ?_
                    exact cx_reti k357_148 rt_357 h
                  · rw [if_neg hb12] at h
                    by_cases hb13 : p1 = (9 : Int32)
                    · rw [if_pos hb13] at h
                      refine sx_tableIn (off := 148) (tgt := 149) k357_1 (by rw [hb13]; decide) (by rw [hb13]; decide) (by rw [hb13]; rfl) (by decide) ?_
                      refine sx_aload_n (i := 0) k357_149 rfl rfl ?_
                      refine cx_getI (k := 87) k357_150 ow_357 fl_12_429 (by decide) sk_129 ft_11_87 ?_
                      exact cx_reti k357_153 rt_357 h
                    · rw [if_neg hb13] at h
                      by_cases hb15 : p1 = (10 : Int32)
                      · rw [if_pos hb15] at h
                        refine sx_tableIn (off := 153) (tgt := 154) k357_1 (by rw [hb15]; decide) (by rw [hb15]; decide) (by rw [hb15]; rfl) (by decide) ?_
                        refine sx_aload_n (i := 0) k357_154 rfl rfl ?_
                        refine cx_getI (k := 9) k357_155 ow_357 fl_12_87 (by decide) sk_129 ft_11_9 ?_
                        by_cases hb14 : (μ.1 129 9) = 0
                        · rw [if_pos hb14] at h
                          refine sx_if_eq (tgt := 165) k357_158 (by decide) (fun _ => ?_) (fun q => absurd hb14 q)
                          refine sx_iconst (v := 0) k357_165 (by decide) ?_
                          exact cx_reti k357_166 rt_357 h
                        · rw [if_neg hb14] at h
                          refine sx_if_eq (tgt := 165) k357_158 (by decide) (fun q => absurd q hb14) (fun _ => ?_)
                          refine sx_iconst (v := 1) k357_161 (by decide) ?_
                          refine sx_goto (tgt := 166) k357_162 (by decide) ?_
                          exact cx_reti k357_166 rt_357 h
                      · rw [if_neg hb15] at h
                        by_cases hb16 : p1 = (11 : Int32)
                        · rw [if_pos hb16] at h
                          refine sx_tableIn (off := 166) (tgt := 167) k357_1 (by rw [hb16]; decide) (by rw [hb16]; decide) (by rw [hb16]; rfl) (by decide) ?_
                          refine sx_aload_n (i := 0) k357_167 rfl rfl ?_
                          refine cx_getI (k := 16) k357_168 ow_357 fl_12_110 (by decide) sk_129 ft_11_16 ?_
                          exact cx_reti k357_171 rt_357 h
                        · rw [if_neg hb16] at h
                          by_cases hb17 : p1 = (12 : Int32)
                          · rw [if_pos hb17] at h
                            refine sx_tableIn (off := 171) (tgt := 172) k357_1 (by rw [hb17]; decide) (by rw [hb17]; decide) (by rw [hb17]; rfl) (by decide) ?_
                            refine sx_aload_n (i := 0) k357_172 rfl rfl ?_
                            refine cx_getI (k := 17) k357_173 ow_357 fl_12_120 (by decide) sk_129 ft_11_17 ?_
                            exact cx_reti k357_176 rt_357 h
                          · rw [if_neg hb17] at h
                            by_cases hb18 : p1 = (13 : Int32)
                            · rw [if_pos hb18] at h
                              refine sx_tableIn (off := 176) (tgt := 177) k357_1 (by rw [hb18]; decide) (by rw [hb18]; decide) (by rw [hb18]; rfl) (by decide) ?_
                              refine sx_aload_n (i := 0) k357_177 rfl rfl ?_
                              refine cx_getI (k := 18) k357_178 ow_357 fl_12_101 (by decide) sk_129 ft_11_18 ?_
                              exact cx_reti k357_181 rt_357 h
                            · rw [if_neg hb18] at h
                              by_cases hb19 : p1 = (14 : Int32)
                              · rw [if_pos hb19] at h
                                refine sx_tableIn (off := 181) (tgt := 182) k357_1 (by rw [hb19]; decide) (by rw [hb19]; decide) (by rw [hb19]; rfl) (by decide) ?_
                                refine sx_aload_n (i := 0) k357_182 rfl rfl ?_
                                refine cx_getI (k := 81) k357_183 ow_357 fl_12_411 (by decide) sk_129 ft_11_81 ?_
                                exact cx_reti k357_186 rt_357 h
                              · rw [if_neg hb19] at h
                                by_cases hb20 : p1 = (15 : Int32)
                                · rw [if_pos hb20] at h
                                  refine sx_tableIn (off := 186) (tgt := 187) k357_1 (by rw [hb20]; decide) (by rw [hb20]; decide) (by rw [hb20]; rfl) (by decide) ?_
                                  refine sx_aload_n (i := 0) k357_187 rfl rfl ?_
                                  refine cx_getI (k := 25) k357_188 ow_357 fl_12_154 (by decide) sk_129 ft_11_25 ?_
                                  exact cx_reti k357_191 rt_357 h
                                · rw [if_neg hb20] at h
                                  refine sx_tableOut (tgt := 192) k357_1 (sw_out (n := 16) (fun j hj => ?_)) (by decide) ?_
                                  · intro hj2
                                    exact sw_no [(0 : Int32), (1 : Int32), (2 : Int32), (3 : Int32), (4 : Int32), (5 : Int32), (6 : Int32), (7 : Int32), (8 : Int32), (9 : Int32), (10 : Int32), (11 : Int32), (12 : Int32), (13 : Int32), (14 : Int32), (15 : Int32)] (by decide) hj hj2 ⟨hb1, hb3, hb5, hb7, hb8, hb9, hb10, hb11, hb12, hb13, hb15, hb16, hb17, hb18, hb19, hb20, trivial⟩
                                  ·
                                    refine sx_iconst (v := -1) k357_192 (by decide) ?_
                                    exact cx_reti k357_193 rt_357 h
theorem k358_0 : decode (gb 358) 0 = .ok (.iload_n 1, 1) := by decide +kernel
theorem k358_1 : decode (gb 358) 1 = .ok (.ifCond .lt 25, 3) := by decide +kernel
theorem k358_4 : decode (gb 358) 4 = .ok (.iload_n 1, 1) := by decide +kernel
theorem k358_5 : decode (gb 358) 5 = .ok (.iconst 5, 1) := by decide +kernel
theorem k358_6 : decode (gb 358) 6 = .ok (.if_icmp .gt 20, 3) := by decide +kernel
theorem k358_9 : decode (gb 358) 9 = .ok (.iload_n 2, 1) := by decide +kernel
theorem k358_10 : decode (gb 358) 10 = .ok (.ifCond .lt 16, 3) := by decide +kernel
theorem k358_13 : decode (gb 358) 13 = .ok (.iload_n 2, 1) := by decide +kernel
theorem k358_14 : decode (gb 358) 14 = .ok (.ifCond .le 14, 3) := by decide +kernel
theorem k358_17 : decode (gb 358) 17 = .ok (.aload_n 0, 1) := by decide +kernel
theorem k358_18 : decode (gb 358) 18 = .ok (.getfield 527, 3) := by decide +kernel
theorem k358_21 : decode (gb 358) 21 = .ok (.iload_n 1, 1) := by decide +kernel
theorem k358_22 : decode (gb 358) 22 = .ok (.baload, 1) := by decide +kernel
theorem k358_23 : decode (gb 358) 23 = .ok (.ifCond .ne 5, 3) := by decide +kernel
theorem k358_26 : decode (gb 358) 26 = .ok (.iconst (-1), 1) := by decide +kernel
theorem k358_27 : decode (gb 358) 27 = .ok (.ireturn, 1) := by decide +kernel
theorem k358_28 : decode (gb 358) 28 = .ok (.iload_n 2, 1) := by decide +kernel
theorem k358_29 : decode (gb 358) 29 = .ok (.ifCond .ne 18, 3) := by decide +kernel
theorem k358_32 : decode (gb 358) 32 = .ok (.aload_n 0, 1) := by decide +kernel
theorem k358_33 : decode (gb 358) 33 = .ok (.getfield 527, 3) := by decide +kernel
theorem k358_36 : decode (gb 358) 36 = .ok (.iload_n 1, 1) := by decide +kernel
theorem k358_37 : decode (gb 358) 37 = .ok (.baload, 1) := by decide +kernel
theorem k358_38 : decode (gb 358) 38 = .ok (.ifCond .eq 7, 3) := by decide +kernel
theorem k358_41 : decode (gb 358) 41 = .ok (.iconst 1, 1) := by decide +kernel
theorem k358_42 : decode (gb 358) 42 = .ok (.goto 4, 3) := by decide +kernel
theorem k358_45 : decode (gb 358) 45 = .ok (.iconst 0, 1) := by decide +kernel
theorem k358_46 : decode (gb 358) 46 = .ok (.ireturn, 1) := by decide +kernel
theorem k358_47 : decode (gb 358) 47 = .ok (.iload_n 2, 1) := by decide +kernel
theorem k358_48 : decode (gb 358) 48 = .ok (.iconst 5, 1) := by decide +kernel
theorem k358_49 : decode (gb 358) 49 = .ok (.if_icmp .lt 33, 3) := by decide +kernel
theorem k358_52 : decode (gb 358) 52 = .ok (.iload_n 2, 1) := by decide +kernel
theorem k358_53 : decode (gb 358) 53 = .ok (.iconst 5, 1) := by decide +kernel
theorem k358_54 : decode (gb 358) 54 = .ok (.isub, 1) := by decide +kernel
theorem k358_55 : decode (gb 358) 55 = .ok (.aload_n 0, 1) := by decide +kernel
theorem k358_56 : decode (gb 358) 56 = .ok (.getfield 595, 3) := by decide +kernel
theorem k358_59 : decode (gb 358) 59 = .ok (.iload_n 1, 1) := by decide +kernel
theorem k358_60 : decode (gb 358) 60 = .ok (.iaload, 1) := by decide +kernel
theorem k358_61 : decode (gb 358) 61 = .ok (.if_icmp .lt 7, 3) := by decide +kernel
theorem k358_64 : decode (gb 358) 64 = .ok (.iconst (-1), 1) := by decide +kernel
theorem k358_65 : decode (gb 358) 65 = .ok (.goto 16, 3) := by decide +kernel
theorem k358_68 : decode (gb 358) 68 = .ok (.aload_n 0, 1) := by decide +kernel
theorem k358_69 : decode (gb 358) 69 = .ok (.getfield 598, 3) := by decide +kernel
theorem k358_72 : decode (gb 358) 72 = .ok (.bipush 8, 2) := by decide +kernel
theorem k358_74 : decode (gb 358) 74 = .ok (.iload_n 1, 1) := by decide +kernel
theorem k358_75 : decode (gb 358) 75 = .ok (.imul, 1) := by decide +kernel
theorem k358_76 : decode (gb 358) 76 = .ok (.iload_n 2, 1) := by decide +kernel
theorem k358_77 : decode (gb 358) 77 = .ok (.iadd, 1) := by decide +kernel
theorem k358_78 : decode (gb 358) 78 = .ok (.iconst 5, 1) := by decide +kernel
theorem k358_79 : decode (gb 358) 79 = .ok (.isub, 1) := by decide +kernel
theorem k358_80 : decode (gb 358) 80 = .ok (.iaload, 1) := by decide +kernel
theorem k358_81 : decode (gb 358) 81 = .ok (.ireturn, 1) := by decide +kernel
theorem k358_82 : decode (gb 358) 82 = .ok (.iload_n 2, 1) := by decide +kernel
theorem k358_83 : decode (gb 358) 83 = .ok (.iconst 1, 1) := by decide +kernel
theorem k358_84 : decode (gb 358) 84 = .ok (.if_icmp .ne 20, 3) := by decide +kernel
theorem k358_87 : decode (gb 358) 87 = .ok (.aload_n 0, 1) := by decide +kernel
theorem k358_88 : decode (gb 358) 88 = .ok (.getfield 530, 3) := by decide +kernel
theorem k358_91 : decode (gb 358) 91 = .ok (.iload_n 1, 1) := by decide +kernel
theorem k358_92 : decode (gb 358) 92 = .ok (.baload, 1) := by decide +kernel
theorem k358_93 : decode (gb 358) 93 = .ok (.ifCond .eq 7, 3) := by decide +kernel
theorem k358_96 : decode (gb 358) 96 = .ok (.iconst 1, 1) := by decide +kernel
theorem k358_97 : decode (gb 358) 97 = .ok (.goto 41, 3) := by decide +kernel
theorem k358_100 : decode (gb 358) 100 = .ok (.iconst 0, 1) := by decide +kernel
theorem k358_101 : decode (gb 358) 101 = .ok (.goto 37, 3) := by decide +kernel
theorem k358_104 : decode (gb 358) 104 = .ok (.iload_n 2, 1) := by decide +kernel
theorem k358_105 : decode (gb 358) 105 = .ok (.iconst 2, 1) := by decide +kernel
theorem k358_106 : decode (gb 358) 106 = .ok (.if_icmp .ne 12, 3) := by decide +kernel
theorem k358_109 : decode (gb 358) 109 = .ok (.aload_n 0, 1) := by decide +kernel
theorem k358_110 : decode (gb 358) 110 = .ok (.getfield 601, 3) := by decide +kernel
theorem k358_113 : decode (gb 358) 113 = .ok (.iload_n 1, 1) := by decide +kernel
theorem k358_114 : decode (gb 358) 114 = .ok (.iaload, 1) := by decide +kernel
theorem k358_115 : decode (gb 358) 115 = .ok (.goto 23, 3) := by decide +kernel
theorem k358_118 : decode (gb 358) 118 = .ok (.iload_n 2, 1) := by decide +kernel
theorem k358_119 : decode (gb 358) 119 = .ok (.iconst 3, 1) := by decide +kernel
theorem k358_120 : decode (gb 358) 120 = .ok (.if_icmp .ne 12, 3) := by decide +kernel
theorem k358_123 : decode (gb 358) 123 = .ok (.aload_n 0, 1) := by decide +kernel
theorem k358_124 : decode (gb 358) 124 = .ok (.getfield 604, 3) := by decide +kernel
theorem k358_127 : decode (gb 358) 127 = .ok (.iload_n 1, 1) := by decide +kernel
theorem k358_128 : decode (gb 358) 128 = .ok (.iaload, 1) := by decide +kernel
theorem k358_129 : decode (gb 358) 129 = .ok (.goto 9, 3) := by decide +kernel
theorem k358_132 : decode (gb 358) 132 = .ok (.aload_n 0, 1) := by decide +kernel
theorem k358_133 : decode (gb 358) 133 = .ok (.getfield 595, 3) := by decide +kernel
theorem k358_136 : decode (gb 358) 136 = .ok (.iload_n 1, 1) := by decide +kernel
theorem k358_137 : decode (gb 358) 137 = .ok (.iaload, 1) := by decide +kernel
theorem k358_138 : decode (gb 358) 138 = .ok (.ireturn, 1) := by decide +kernel
def c358_28 (v1 : Int32) (v2 : Int32) (μ : Mem) : Option (Mem × Int32) :=
  if v2 = 0 then
    (ldA 183 v1 μ).bind fun x20 =>
    if x20 = 0 then
      some (μ, (0 : Int32))
    else
      some (μ, (1 : Int32))
  else
    if v2 < (5 : Int32) then
      if v2 = (1 : Int32) then
        (ldA 184 v1 μ).bind fun x12 =>
        if x12 = 0 then
          some (μ, (0 : Int32))
        else
          some (μ, (1 : Int32))
      else
        if v2 = (2 : Int32) then
          (ldA 185 v1 μ).bind fun x10 =>
          some (μ, x10)
        else
          if v2 = (3 : Int32) then
            (ldA 186 v1 μ).bind fun x8 =>
            some (μ, x8)
          else
            (ldA 187 v1 μ).bind fun x6 =>
            some (μ, x6)
    else
      (ldA 187 v1 μ).bind fun x15 =>
      if (v2 - (5 : Int32)) < x15 then
        (ldA 188 ((((8 : Int32) * v1) + v2) - (5 : Int32)) μ).bind fun x18 =>
        some (μ, x18)
      else
        some (μ, (-1 : Int32))
theorem c358_28_ok {L : Nat} (v1 : Int32) (v2 : Int32) (μ : Mem) (res : Mem × Int32) (h : c358_28 v1 v2 μ = some res) : Sx 358 28 [(0, .ref 129), (1, .int v1), (2, .int v2)] [] 0 0 (mk L μ) (mk L res.1, some (.int res.2)) := by
  unfold c358_28 at h
  refine sx_iload_n (i := 2) k358_28 rfl rfl ?_
  by_cases hb1 : v2 = 0
  · rw [if_pos hb1] at h
    refine sx_if_ne (tgt := 47) k358_29 (by decide) (fun q => absurd hb1 q) (fun _ => ?_)
    refine sx_aload_n (i := 0) k358_32 rfl rfl ?_
    refine cx_getR (k := 108) k358_33 ow_358 fl_12_527 (by decide) sk_129 ft_11_108 sr_129_108 ?_
    refine sx_iload_n (i := 1) k358_36 rfl rfl ?_
    obtain ⟨x20, e21, h⟩ := Option.bind_eq_some_iff.mp h
    refine cx_bald k358_37 (Or.inr sk_183) e21 ?_
    by_cases hb22 : x20 = 0
    · rw [if_pos hb22] at h
      refine sx_if_eq (tgt := 45) k358_38 (by decide) (fun _ => ?_) (fun q => absurd hb22 q)
      refine sx_iconst (v := 0) k358_45 (by decide) ?_
      exact cx_reti k358_46 rt_358 h
    · rw [if_neg hb22] at h
      refine sx_if_eq (tgt := 45) k358_38 (by decide) (fun q => absurd q hb22) (fun _ => ?_)
      refine sx_iconst (v := 1) k358_41 (by decide) ?_
      refine sx_goto (tgt := 46) k358_42 (by decide) ?_
      exact cx_reti k358_46 rt_358 h
  · rw [if_neg hb1] at h
    refine sx_if_ne (tgt := 47) k358_29 (by decide) (fun _ => ?_) (fun q => absurd q hb1)
    refine sx_iload_n (i := 2) k358_47 rfl rfl ?_
    refine sx_iconst (v := 5) k358_48 (by decide) ?_
    by_cases hb2 : v2 < (5 : Int32)
    · rw [if_pos hb2] at h
      refine sx_icmp_lt (tgt := 82) k358_49 (by decide) (fun _ => ?_) (fun q => absurd hb2 q)
      refine sx_iload_n (i := 2) k358_82 rfl rfl ?_
      refine sx_iconst (v := 1) k358_83 (by decide) ?_
      by_cases hb3 : v2 = (1 : Int32)
      · rw [if_pos hb3] at h
        refine sx_icmp_ne (tgt := 104) k358_84 (by decide) (fun q => absurd hb3 q) (fun _ => ?_)
        refine sx_aload_n (i := 0) k358_87 rfl rfl ?_
        refine cx_getR (k := 109) k358_88 ow_358 fl_12_530 (by decide) sk_129 ft_11_109 sr_129_109 ?_
        refine sx_iload_n (i := 1) k358_91 rfl rfl ?_
        obtain ⟨x12, e13, h⟩ := Option.bind_eq_some_iff.mp h
        refine cx_bald k358_92 (Or.inr sk_184) e13 ?_
        by_cases hb14 : x12 = 0
        · rw [if_pos hb14] at h
          refine sx_if_eq (tgt := 100) k358_93 (by decide) (fun _ => ?_) (fun q => absurd hb14 q)
          refine sx_iconst (v := 0) k358_100 (by decide) ?_
          refine sx_goto (tgt := 138) k358_101 (by decide) ?_
          exact cx_reti k358_138 rt_358 h
        · rw [if_neg hb14] at h
          refine sx_if_eq (tgt := 100) k358_93 (by decide) (fun q => absurd q hb14) (fun _ => ?_)
          refine sx_iconst (v := 1) k358_96 (by decide) ?_
          refine sx_goto (tgt := 138) k358_97 (by decide) ?_
          exact cx_reti k358_138 rt_358 h
      · rw [if_neg hb3] at h
        refine sx_icmp_ne (tgt := 104) k358_84 (by decide) (fun _ => ?_) (fun q => absurd q hb3)
        refine sx_iload_n (i := 2) k358_104 rfl rfl ?_
        refine sx_iconst (v := 2) k358_105 (by decide) ?_
        by_cases hb4 : v2 = (2 : Int32)
        · rw [if_pos hb4] at h
          refine sx_icmp_ne (tgt := 118) k358_106 (by decide) (fun q => absurd hb4 q) (fun _ => ?_)
          refine sx_aload_n (i := 0) k358_109 rfl rfl ?_
          refine cx_getR (k := 110) k358_110 ow_358 fl_12_601 (by decide) sk_129 ft_11_110 sr_129_110 ?_
          refine sx_iload_n (i := 1) k358_113 rfl rfl ?_
          obtain ⟨x10, e11, h⟩ := Option.bind_eq_some_iff.mp h
          refine cx_iald k358_114 sk_185 e11 ?_
          refine sx_goto (tgt := 138) k358_115 (by decide) ?_
          exact cx_reti k358_138 rt_358 h
        · rw [if_neg hb4] at h
          refine sx_icmp_ne (tgt := 118) k358_106 (by decide) (fun _ => ?_) (fun q => absurd q hb4)
          refine sx_iload_n (i := 2) k358_118 rfl rfl ?_
          refine sx_iconst (v := 3) k358_119 (by decide) ?_
          by_cases hb5 : v2 = (3 : Int32)
          · rw [if_pos hb5] at h
            refine sx_icmp_ne (tgt := 132) k358_120 (by decide) (fun q => absurd hb5 q) (fun _ => ?_)
            refine sx_aload_n (i := 0) k358_123 rfl rfl ?_
            refine cx_getR (k := 111) k358_124 ow_358 fl_12_604 (by decide) sk_129 ft_11_111 sr_129_111 ?_
            refine sx_iload_n (i := 1) k358_127 rfl rfl ?_
            obtain ⟨x8, e9, h⟩ := Option.bind_eq_some_iff.mp h
            refine cx_iald k358_128 sk_186 e9 ?_
            refine sx_goto (tgt := 138) k358_129 (by decide) ?_
            exact cx_reti k358_138 rt_358 h
          · rw [if_neg hb5] at h
            refine sx_icmp_ne (tgt := 132) k358_120 (by decide) (fun _ => ?_) (fun q => absurd q hb5)
            refine sx_aload_n (i := 0) k358_132 rfl rfl ?_
            refine cx_getR (k := 112) k358_133 ow_358 fl_12_595 (by decide) sk_129 ft_11_112 sr_129_112 ?_
            refine sx_iload_n (i := 1) k358_136 rfl rfl ?_
            obtain ⟨x6, e7, h⟩ := Option.bind_eq_some_iff.mp h
            refine cx_iald k358_137 sk_187 e7 ?_
            exact cx_reti k358_138 rt_358 h
    · rw [if_neg hb2] at h
      refine sx_icmp_lt (tgt := 82) k358_49 (by decide) (fun q => absurd q hb2) (fun _ => ?_)
      refine sx_iload_n (i := 2) k358_52 rfl rfl ?_
      refine sx_iconst (v := 5) k358_53 (by decide) ?_
      refine sx_isub k358_54 ?_
      refine sx_aload_n (i := 0) k358_55 rfl rfl ?_
      refine cx_getR (k := 112) k358_56 ow_358 fl_12_595 (by decide) sk_129 ft_11_112 sr_129_112 ?_
      refine sx_iload_n (i := 1) k358_59 rfl rfl ?_
      obtain ⟨x15, e16, h⟩ := Option.bind_eq_some_iff.mp h
      refine cx_iald k358_60 sk_187 e16 ?_
      by_cases hb17 : (v2 - (5 : Int32)) < x15
      · rw [if_pos hb17] at h
        refine sx_icmp_lt (tgt := 68) k358_61 (by decide) (fun _ => ?_) (fun q => absurd hb17 q)
        refine sx_aload_n (i := 0) k358_68 rfl rfl ?_
        refine cx_getR (k := 113) k358_69 ow_358 fl_12_598 (by decide) sk_129 ft_11_113 sr_129_113 ?_
        refine sx_bipush (v := 8) k358_72 (by decide) ?_
        refine sx_iload_n (i := 1) k358_74 rfl rfl ?_
        refine sx_imul k358_75 ?_
        refine sx_iload_n (i := 2) k358_76 rfl rfl ?_
        refine sx_iadd k358_77 ?_
        refine sx_iconst (v := 5) k358_78 (by decide) ?_
        refine sx_isub k358_79 ?_
        obtain ⟨x18, e19, h⟩ := Option.bind_eq_some_iff.mp h
        refine cx_iald k358_80 sk_188 e19 ?_
        exact cx_reti k358_81 rt_358 h
      · rw [if_neg hb17] at h
        refine sx_icmp_lt (tgt := 68) k358_61 (by decide) (fun q => absurd q hb17) (fun _ => ?_)
        refine sx_iconst (v := -1) k358_64 (by decide) ?_
        refine sx_goto (tgt := 81) k358_65 (by decide) ?_
        exact cx_reti k358_81 rt_358 h
/-- CraftHouseModel.structur(II)I -/
def f358 (p1 : Int32) (p2 : Int32) (μ : Mem) : Option (Mem × Int32) :=
  if p1 < 0 then
    some (μ, (-1 : Int32))
  else
    if (5 : Int32) < p1 then
      some (μ, (-1 : Int32))
    else
      if p2 < 0 then
        some (μ, (-1 : Int32))
      else
        if p2 ≤ 0 then
          c358_28 p1 p2 μ
        else
          (ldA 183 p1 μ).bind fun x5 =>
          if x5 = 0 then
            some (μ, (-1 : Int32))
          else
            c358_28 p1 p2 μ
theorem ok358 {L : Nat} (p1 : Int32) (p2 : Int32) (μ : Mem) (res : Mem × Int32) (h : f358 p1 p2 μ = some res) : Mx 358 [.ref 129, .int p1, .int p2] (mk L μ) (mk L res.1, some (.int res.2)) := by
  refine Mx_of ml_358 (by rw [mx_358]; exact Nat.le_of_ble_eq_true rfl) ?_
  show Sx 358 0 [(0, .ref 129), (1, .int p1), (2, .int p2)] [] 0 0 (mk L μ) _
  unfold f358 at h
  refine sx_iload_n (i := 1) k358_0 rfl rfl ?_
  by_cases hb1 : p1 < 0
  · rw [if_pos hb1] at h
    refine sx_if_lt (tgt := 26) k358_1 (by decide) (fun _ => ?_) (fun q => absurd hb1 q)
    refine sx_iconst (v := -1) k358_26 (by decide) ?_
    exact cx_reti k358_27 rt_358 h
  · rw [if_neg hb1] at h
    refine sx_if_lt (tgt := 26) k358_1 (by decide) (fun q => absurd q hb1) (fun _ => ?_)
    refine sx_iload_n (i := 1) k358_4 rfl rfl ?_
    refine sx_iconst (v := 5) k358_5 (by decide) ?_
    by_cases hb2 : (5 : Int32) < p1
    · rw [if_pos hb2] at h
      refine sx_icmp_gt (tgt := 26) k358_6 (by decide) (fun _ => ?_) (fun q => absurd hb2 q)
      refine sx_iconst (v := -1) k358_26 (by decide) ?_
      exact cx_reti k358_27 rt_358 h
    · rw [if_neg hb2] at h
      refine sx_icmp_gt (tgt := 26) k358_6 (by decide) (fun q => absurd q hb2) (fun _ => ?_)
      refine sx_iload_n (i := 2) k358_9 rfl rfl ?_
      by_cases hb3 : p2 < 0
      · rw [if_pos hb3] at h
        refine sx_if_lt (tgt := 26) k358_10 (by decide) (fun _ => ?_) (fun q => absurd hb3 q)
        refine sx_iconst (v := -1) k358_26 (by decide) ?_
        exact cx_reti k358_27 rt_358 h
      · rw [if_neg hb3] at h
        refine sx_if_lt (tgt := 26) k358_10 (by decide) (fun q => absurd q hb3) (fun _ => ?_)
        refine sx_iload_n (i := 2) k358_13 rfl rfl ?_
        by_cases hb4 : p2 ≤ 0
        · rw [if_pos hb4] at h
          refine sx_if_le (tgt := 28) k358_14 (by decide) (fun _ => ?_) (fun q => absurd hb4 q)
          refine sx_pick (lo2 := [(0, .ref 129), (1, .int p1), (2, .int p2)]) [0, 1, 2] rfl ?_
          exact c358_28_ok p1 p2 _ _ h
        · rw [if_neg hb4] at h
          refine sx_if_le (tgt := 28) k358_14 (by decide) (fun q => absurd q hb4) (fun _ => ?_)
          refine sx_aload_n (i := 0) k358_17 rfl rfl ?_
          refine cx_getR (k := 108) k358_18 ow_358 fl_12_527 (by decide) sk_129 ft_11_108 sr_129_108 ?_
          refine sx_iload_n (i := 1) k358_21 rfl rfl ?_
          obtain ⟨x5, e6, h⟩ := Option.bind_eq_some_iff.mp h
          refine cx_bald k358_22 (Or.inr sk_183) e6 ?_
          by_cases hb7 : x5 = 0
          · rw [if_pos hb7] at h
            refine sx_if_ne (tgt := 28) k358_23 (by decide) (fun q => absurd hb7 q) (fun _ => ?_)
            refine sx_iconst (v := -1) k358_26 (by decide) ?_
            exact cx_reti k358_27 rt_358 h
          · rw [if_neg hb7] at h
            refine sx_if_ne (tgt := 28) k358_23 (by decide) (fun _ => ?_) (fun q => absurd q hb7)
            refine sx_pick (lo2 := [(0, .ref 129), (1, .int p1), (2, .int p2)]) [0, 1, 2] rfl ?_
            exact c358_28_ok p1 p2 _ _ h
theorem k359_0 : decode (gb 359) 0 = .ok (.iload_n 1, 1) := by decide +kernel
theorem k359_1 : decode (gb 359) 1 = .ok (.ifCond .lt 31, 3) := by decide +kernel
theorem k359_4 : decode (gb 359) 4 = .ok (.iload_n 1, 1) := by decide +kernel
theorem k359_5 : decode (gb 359) 5 = .ok (.iconst 5, 1) := by decide +kernel
theorem k359_6 : decode (gb 359) 6 = .ok (.if_icmp .gt 26, 3) := by decide +kernel
theorem k359_9 : decode (gb 359) 9 = .ok (.iload_n 2, 1) := by decide +kernel
theorem k359_10 : decode (gb 359) 10 = .ok (.ifCond .lt 22, 3) := by decide +kernel
theorem k359_13 : decode (gb 359) 13 = .ok (.iload_n 2, 1) := by decide +kernel
theorem k359_14 : decode (gb 359) 14 = .ok (.bipush 6, 2) := by decide +kernel
theorem k359_16 : decode (gb 359) 16 = .ok (.if_icmp .gt 16, 3) := by decide +kernel
theorem k359_19 : decode (gb 359) 19 = .ok (.iload_n 2, 1) := by decide +kernel
theorem k359_20 : decode (gb 359) 20 = .ok (.ifCond .le 14, 3) := by decide +kernel
theorem k359_23 : decode (gb 359) 23 = .ok (.aload_n 0, 1) := by decide +kernel
theorem k359_24 : decode (gb 359) 24 = .ok (.getfield 548, 3) := by decide +kernel
theorem k359_27 : decode (gb 359) 27 = .ok (.iload_n 1, 1) := by decide +kernel
theorem k359_28 : decode (gb 359) 28 = .ok (.iaload, 1) := by decide +kernel
theorem k359_29 : decode (gb 359) 29 = .ok (.ifCond .ne 5, 3) := by decide +kernel
theorem k359_32 : decode (gb 359) 32 = .ok (.iconst (-1), 1) := by decide +kernel
theorem k359_33 : decode (gb 359) 33 = .ok (.ireturn, 1) := by decide +kernel
theorem k359_34 : decode (gb 359) 34 = .ok (.iload_n 2, 1) := by decide +kernel
theorem k359_35 : decode (gb 359) 35 = .ok (.tableswitch 79 0 5 #[37, 44, 51, 58, 65, 72], 37) := by decide +kernel
theorem k359_72 : decode (gb 359) 72 = .ok (.aload_n 0, 1) := by decide +kernel
theorem k359_73 : decode (gb 359) 73 = .ok (.getfield 548, 3) := by decide +kernel
theorem k359_76 : decode (gb 359) 76 = .ok (.iload_n 1, 1) := by decide +kernel
theorem k359_77 : decode (gb 359) 77 = .ok (.iaload, 1) := by decide +kernel
theorem k359_78 : decode (gb 359) 78 = .ok (.ireturn, 1) := by decide +kernel
theorem k359_79 : decode (gb 359) 79 = .ok (.aload_n 0, 1) := by decide +kernel
theorem k359_80 : decode (gb 359) 80 = .ok (.getfield 619, 3) := by decide +kernel
theorem k359_83 : decode (gb 359) 83 = .ok (.iload_n 1, 1) := by decide +kernel
theorem k359_84 : decode (gb 359) 84 = .ok (.iaload, 1) := by decide +kernel
theorem k359_85 : decode (gb 359) 85 = .ok (.ireturn, 1) := by decide +kernel
theorem k359_86 : decode (gb 359) 86 = .ok (.aload_n 0, 1) := by decide +kernel
theorem k359_87 : decode (gb 359) 87 = .ok (.getfield 622, 3) := by decide +kernel
theorem k359_90 : decode (gb 359) 90 = .ok (.iload_n 1, 1) := by decide +kernel
theorem k359_91 : decode (gb 359) 91 = .ok (.iaload, 1) := by decide +kernel
theorem k359_92 : decode (gb 359) 92 = .ok (.ireturn, 1) := by decide +kernel
theorem k359_93 : decode (gb 359) 93 = .ok (.aload_n 0, 1) := by decide +kernel
theorem k359_94 : decode (gb 359) 94 = .ok (.getfield 625, 3) := by decide +kernel
theorem k359_97 : decode (gb 359) 97 = .ok (.iload_n 1, 1) := by decide +kernel
theorem k359_98 : decode (gb 359) 98 = .ok (.iaload, 1) := by decide +kernel
theorem k359_99 : decode (gb 359) 99 = .ok (.ireturn, 1) := by decide +kernel
theorem k359_100 : decode (gb 359) 100 = .ok (.aload_n 0, 1) := by decide +kernel
theorem k359_101 : decode (gb 359) 101 = .ok (.getfield 628, 3) := by decide +kernel
theorem k359_104 : decode (gb 359) 104 = .ok (.iload_n 1, 1) := by decide +kernel
theorem k359_105 : decode (gb 359) 105 = .ok (.iaload, 1) := by decide +kernel
theorem k359_106 : decode (gb 359) 106 = .ok (.ireturn, 1) := by decide +kernel
theorem k359_107 : decode (gb 359) 107 = .ok (.aload_n 0, 1) := by decide +kernel
theorem k359_108 : decode (gb 359) 108 = .ok (.getfield 631, 3) := by decide +kernel
theorem k359_111 : decode (gb 359) 111 = .ok (.iload_n 1, 1) := by decide +kernel
theorem k359_112 : decode (gb 359) 112 = .ok (.iaload, 1) := by decide +kernel
theorem k359_113 : decode (gb 359) 113 = .ok (.ireturn, 1) := by decide +kernel
theorem k359_114 : decode (gb 359) 114 = .ok (.aload_n 0, 1) := by decide +kernel
theorem k359_115 : decode (gb 359) 115 = .ok (.getfield 634, 3) := by decide +kernel
theorem k359_118 : decode (gb 359) 118 = .ok (.iload_n 1, 1) := by decide +kernel
theorem k359_119 : decode (gb 359) 119 = .ok (.iaload, 1) := by decide +kernel
theorem k359_120 : decode (gb 359) 120 = .ok (.ireturn, 1) := by decide +kernel
def c359_34 (v1 : Int32) (v2 : Int32) (μ : Mem) : Option (Mem × Int32) :=
  if v2 = (0 : Int32) then
    (ldA 195 v1 μ).bind fun x1 =>
    some (μ, x1)
  else if v2 = (1 : Int32) then
    (ldA 196 v1 μ).bind fun x4 =>
    some (μ, x4)
  else if v2 = (2 : Int32) then
    (ldA 197 v1 μ).bind fun x7 =>
    some (μ, x7)
  else if v2 = (3 : Int32) then
    (ldA 198 v1 μ).bind fun x10 =>
    some (μ, x10)
  else if v2 = (4 : Int32) then
    (ldA 199 v1 μ).bind fun x13 =>
    some (μ, x13)
  else if v2 = (5 : Int32) then
    (ldA 200 v1 μ).bind fun x16 =>
    some (μ, x16)
  else 
    (ldA 201 v1 μ).bind fun x19 =>
    some (μ, x19)
theorem c359_34_ok {L : Nat} (v1 : Int32) (v2 : Int32) (μ : Mem) (res : Mem × Int32) (h : c359_34 v1 v2 μ = some res) : Sx 359 34 [(0, .ref 129), (1, .int v1), (2, .int v2)] [] 0 0 (mk L μ) (mk L res.1, some (.int res.2)) := by
  unfold c359_34 at h
  refine sx_iload_n (i := 2) k359_34 rfl rfl ?_
  by_cases hb3 : v2 = (0 : Int32)
  · rw [if_pos hb3] at h
    refine sx_tableIn (off := 37) (tgt := 72) k359_35 (by rw [hb3]; decide) (by rw [hb3]; decide) (by rw [hb3]; rfl) (by decide) ?_
    refine sx_aload_n (i := 0) k359_72 rfl rfl ?_
    refine cx_getR (k := 120) k359_73 ow_359 fl_12_548 (by decide) sk_129 ft_11_120 sr_129_120 ?_
    refine sx_iload_n (i := 1) k359_76 rfl rfl ?_
    obtain ⟨x1, e2, h⟩ := Option.bind_eq_some_iff.mp h
    refine cx_iald k359_77 sk_195 e2 ?_
    exact cx_reti k359_78 rt_359 h
  · rw [if_neg hb3] at h
    by_cases hb6 : v2 = (1 : Int32)
    · rw [if_pos hb6] at h
      refine sx_tableIn (off := 44) (tgt := 79) k359_35 (by rw [hb6]; decide) (by rw [hb6]; decide) (by rw [hb6]; rfl) (by decide) ?_
      refine sx_aload_n (i := 0) k359_79 rfl rfl ?_
      refine cx_getR (k := 121) k359_80 ow_359 fl_12_619 (by decide) sk_129 ft_11_121 sr_129_121 ?_
      refine sx_iload_n (i := 1) k359_83 rfl rfl ?_
      obtain ⟨x4, e5, h⟩ := Option.bind_eq_some_iff.mp h
      refine cx_iald k359_84 sk_196 e5 ?_
      exact cx_reti k359_85 rt_359 h
    · rw [if_neg hb6] at h
      by_cases hb9 : v2 = (2 : Int32)
      · rw [if_pos hb9] at h
        refine sx_tableIn (off := 51) (tgt := 86) k359_35 (by rw [hb9]; decide) (by rw [hb9]; decide) (by rw [hb9]; rfl) (by decide) ?_
        refine sx_aload_n (i := 0) k359_86 rfl rfl ?_
        refine cx_getR (k := 122) k359_87 ow_359 fl_12_622 (by decide) sk_129 ft_11_122 sr_129_122 ?_
        refine sx_iload_n (i := 1) k359_90 rfl rfl ?_
        obtain ⟨x7, e8, h⟩ := Option.bind_eq_some_iff.mp h
        refine cx_iald k359_91 sk_197 e8 ?_
        exact cx_reti k359_92 rt_359 h
      · rw [if_neg hb9] at h
        by_cases hb12 : v2 = (3 : Int32)
        · rw [if_pos hb12] at h
          refine sx_tableIn (off := 58) (tgt := 93) k359_35 (by rw [hb12]; decide) (by rw [hb12]; decide) (by rw [hb12]; rfl) (by decide) ?_
          refine sx_aload_n (i := 0) k359_93 rfl rfl ?_
          refine cx_getR (k := 123) k359_94 ow_359 fl_12_625 (by decide) sk_129 ft_11_123 sr_129_123 ?_
          refine sx_iload_n (i := 1) k359_97 rfl rfl ?_
          obtain ⟨x10, e11, h⟩ := Option.bind_eq_some_iff.mp h
          refine cx_iald k359_98 sk_198 e11 ?_
          exact cx_reti k359_99 rt_359 h
        · rw [if_neg hb12] at h
          by_cases hb15 : v2 = (4 : Int32)
          · rw [if_pos hb15] at h
            refine sx_tableIn (off := 65) (tgt := 100) k359_35 (by rw [hb15]; decide) (by rw [hb15]; decide) (by rw [hb15]; rfl) (by decide) ?_
            refine sx_aload_n (i := 0) k359_100 rfl rfl ?_
            refine cx_getR (k := 124) k359_101 ow_359 fl_12_628 (by decide) sk_129 ft_11_124 sr_129_124 ?_
            refine sx_iload_n (i := 1) k359_104 rfl rfl ?_
            obtain ⟨x13, e14, h⟩ := Option.bind_eq_some_iff.mp h
            refine cx_iald k359_105 sk_199 e14 ?_
            exact cx_reti k359_106 rt_359 h
          · rw [if_neg hb15] at h
            by_cases hb18 : v2 = (5 : Int32)
            · rw [if_pos hb18] at h
              refine sx_tableIn (off := 72) (tgt := 107) k359_35 (by rw [hb18]; decide) (by rw [hb18]; decide) (by rw [hb18]; rfl) (by decide) ?_
              refine sx_aload_n (i := 0) k359_107 rfl rfl ?_
              refine cx_getR (k := 125) k359_108 ow_359 fl_12_631 (by decide) sk_129 ft_11_125 sr_129_125 ?_
              refine sx_iload_n (i := 1) k359_111 rfl rfl ?_
              obtain ⟨x16, e17, h⟩ := Option.bind_eq_some_iff.mp h
              refine cx_iald k359_112 sk_200 e17 ?_
              exact cx_reti k359_113 rt_359 h
            · rw [if_neg hb18] at h
              refine sx_tableOut (tgt := 114) k359_35 (sw_out (n := 6) (fun j hj => ?_)) (by decide) ?_
              · intro hj2
                exact sw_no [(0 : Int32), (1 : Int32), (2 : Int32), (3 : Int32), (4 : Int32), (5 : Int32)] (by decide) hj hj2 ⟨hb3, hb6, hb9, hb12, hb15, hb18, trivial⟩
              ·
                refine sx_aload_n (i := 0) k359_114 rfl rfl ?_
                refine cx_getR (k := 126) k359_115 ow_359 fl_12_634 (by decide) sk_129 ft_11_126 sr_129_126 ?_
                refine sx_iload_n (i := 1) k359_118 rfl rfl ?_
                obtain ⟨x19, e20, h⟩ := Option.bind_eq_some_iff.mp h
                refine cx_iald k359_119 sk_201 e20 ?_
                exact cx_reti k359_120 rt_359 h
/-- CraftHouseModel.watch(II)I -/
def f359 (p1 : Int32) (p2 : Int32) (μ : Mem) : Option (Mem × Int32) :=
  if p1 < 0 then
    some (μ, (-1 : Int32))
  else
    if (5 : Int32) < p1 then
      some (μ, (-1 : Int32))
    else
      if p2 < 0 then
        some (μ, (-1 : Int32))
      else
        if (6 : Int32) < p2 then
          some (μ, (-1 : Int32))
        else
          if p2 ≤ 0 then
            c359_34 p1 p2 μ
          else
            (ldA 195 p1 μ).bind fun x6 =>
            if x6 = 0 then
              some (μ, (-1 : Int32))
            else
              c359_34 p1 p2 μ
theorem ok359 {L : Nat} (p1 : Int32) (p2 : Int32) (μ : Mem) (res : Mem × Int32) (h : f359 p1 p2 μ = some res) : Mx 359 [.ref 129, .int p1, .int p2] (mk L μ) (mk L res.1, some (.int res.2)) := by
  refine Mx_of ml_359 (by rw [mx_359]; exact Nat.le_of_ble_eq_true rfl) ?_
  show Sx 359 0 [(0, .ref 129), (1, .int p1), (2, .int p2)] [] 0 0 (mk L μ) _
  unfold f359 at h
  refine sx_iload_n (i := 1) k359_0 rfl rfl ?_
  by_cases hb1 : p1 < 0
  · rw [if_pos hb1] at h
    refine sx_if_lt (tgt := 32) k359_1 (by decide) (fun _ => ?_) (fun q => absurd hb1 q)
    refine sx_iconst (v := -1) k359_32 (by decide) ?_
    exact cx_reti k359_33 rt_359 h
  · rw [if_neg hb1] at h
    refine sx_if_lt (tgt := 32) k359_1 (by decide) (fun q => absurd q hb1) (fun _ => ?_)
    refine sx_iload_n (i := 1) k359_4 rfl rfl ?_
    refine sx_iconst (v := 5) k359_5 (by decide) ?_
    by_cases hb2 : (5 : Int32) < p1
    · rw [if_pos hb2] at h
      refine sx_icmp_gt (tgt := 32) k359_6 (by decide) (fun _ => ?_) (fun q => absurd hb2 q)
      refine sx_iconst (v := -1) k359_32 (by decide) ?_
      exact cx_reti k359_33 rt_359 h
    · rw [if_neg hb2] at h
      refine sx_icmp_gt (tgt := 32) k359_6 (by decide) (fun q => absurd q hb2) (fun _ => ?_)
      refine sx_iload_n (i := 2) k359_9 rfl rfl ?_
      by_cases hb3 : p2 < 0
      · rw [if_pos hb3] at h
        refine sx_if_lt (tgt := 32) k359_10 (by decide) (fun _ => ?_) (fun q => absurd hb3 q)
        refine sx_iconst (v := -1) k359_32 (by decide) ?_
        exact cx_reti k359_33 rt_359 h
      · rw [if_neg hb3] at h
        refine sx_if_lt (tgt := 32) k359_10 (by decide) (fun q => absurd q hb3) (fun _ => ?_)
        refine sx_iload_n (i := 2) k359_13 rfl rfl ?_
        refine sx_bipush (v := 6) k359_14 (by decide) ?_
        by_cases hb4 : (6 : Int32) < p2
        · rw [if_pos hb4] at h
          refine sx_icmp_gt (tgt := 32) k359_16 (by decide) (fun _ => ?_) (fun q => absurd hb4 q)
          refine sx_iconst (v := -1) k359_32 (by decide) ?_
          exact cx_reti k359_33 rt_359 h
        · rw [if_neg hb4] at h
          refine sx_icmp_gt (tgt := 32) k359_16 (by decide) (fun q => absurd q hb4) (fun _ => ?_)
          refine sx_iload_n (i := 2) k359_19 rfl rfl ?_
          by_cases hb5 : p2 ≤ 0
          · rw [if_pos hb5] at h
            refine sx_if_le (tgt := 34) k359_20 (by decide) (fun _ => ?_) (fun q => absurd hb5 q)
            refine sx_pick (lo2 := [(0, .ref 129), (1, .int p1), (2, .int p2)]) [0, 1, 2] rfl ?_
            exact c359_34_ok p1 p2 _ _ h
          · rw [if_neg hb5] at h
            refine sx_if_le (tgt := 34) k359_20 (by decide) (fun q => absurd q hb5) (fun _ => ?_)
            refine sx_aload_n (i := 0) k359_23 rfl rfl ?_
            refine cx_getR (k := 120) k359_24 ow_359 fl_12_548 (by decide) sk_129 ft_11_120 sr_129_120 ?_
            refine sx_iload_n (i := 1) k359_27 rfl rfl ?_
            obtain ⟨x6, e7, h⟩ := Option.bind_eq_some_iff.mp h
            refine cx_iald k359_28 sk_195 e7 ?_
            by_cases hb8 : x6 = 0
            · rw [if_pos hb8] at h
              refine sx_if_ne (tgt := 34) k359_29 (by decide) (fun q => absurd hb8 q) (fun _ => ?_)
              refine sx_iconst (v := -1) k359_32 (by decide) ?_
              exact cx_reti k359_33 rt_359 h
            · rw [if_neg hb8] at h
              refine sx_if_ne (tgt := 34) k359_29 (by decide) (fun _ => ?_) (fun q => absurd q hb8)
              refine sx_pick (lo2 := [(0, .ref 129), (1, .int p1), (2, .int p2)]) [0, 1, 2] rfl ?_
              exact c359_34_ok p1 p2 _ _ h
theorem k360_0 : decode (gb 360) 0 = .ok (.iload_n 1, 1) := by decide +kernel
theorem k360_1 : decode (gb 360) 1 = .ok (.ifCond .lt 18, 3) := by decide +kernel
theorem k360_4 : decode (gb 360) 4 = .ok (.iload_n 1, 1) := by decide +kernel
theorem k360_5 : decode (gb 360) 5 = .ok (.bipush 31, 2) := by decide +kernel
theorem k360_7 : decode (gb 360) 7 = .ok (.if_icmp .gt 12, 3) := by decide +kernel
theorem k360_10 : decode (gb 360) 10 = .ok (.iload_n 2, 1) := by decide +kernel
theorem k360_11 : decode (gb 360) 11 = .ok (.ifCond .lt 8, 3) := by decide +kernel
theorem k360_14 : decode (gb 360) 14 = .ok (.iload_n 2, 1) := by decide +kernel
theorem k360_15 : decode (gb 360) 15 = .ok (.iconst 3, 1) := by decide +kernel
theorem k360_16 : decode (gb 360) 16 = .ok (.if_icmp .le 5, 3) := by decide +kernel
theorem k360_19 : decode (gb 360) 19 = .ok (.iconst (-1), 1) := by decide +kernel
theorem k360_20 : decode (gb 360) 20 = .ok (.ireturn, 1) := by decide +kernel
theorem k360_21 : decode (gb 360) 21 = .ok (.iload_n 2, 1) := by decide +kernel
theorem k360_22 : decode (gb 360) 22 = .ok (.tableswitch 80 0 2 #[26, 41, 56], 26) := by decide +kernel
theorem k360_48 : decode (gb 360) 48 = .ok (.aload_n 0, 1) := by decide +kernel
theorem k360_49 : decode (gb 360) 49 = .ok (.getfield 571, 3) := by decide +kernel
theorem k360_52 : decode (gb 360) 52 = .ok (.iload_n 1, 1) := by decide +kernel
theorem k360_53 : decode (gb 360) 53 = .ok (.baload, 1) := by decide +kernel
theorem k360_54 : decode (gb 360) 54 = .ok (.ifCond .eq 7, 3) := by decide +kernel
theorem k360_57 : decode (gb 360) 57 = .ok (.iconst 0, 1) := by decide +kernel
theorem k360_58 : decode (gb 360) 58 = .ok (.goto 4, 3) := by decide +kernel
theorem k360_61 : decode (gb 360) 61 = .ok (.iconst 1, 1) := by decide +kernel
theorem k360_62 : decode (gb 360) 62 = .ok (.ireturn, 1) := by decide +kernel
theorem k360_63 : decode (gb 360) 63 = .ok (.aload_n 0, 1) := by decide +kernel
theorem k360_64 : decode (gb 360) 64 = .ok (.getfield 536, 3) := by decide +kernel
theorem k360_67 : decode (gb 360) 67 = .ok (.iload_n 1, 1) := by decide +kernel
theorem k360_68 : decode (gb 360) 68 = .ok (.baload, 1) := by decide +kernel
theorem k360_69 : decode (gb 360) 69 = .ok (.ifCond .eq 7, 3) := by decide +kernel
theorem k360_72 : decode (gb 360) 72 = .ok (.iconst 1, 1) := by decide +kernel
theorem k360_73 : decode (gb 360) 73 = .ok (.goto 4, 3) := by decide +kernel
theorem k360_76 : decode (gb 360) 76 = .ok (.iconst 0, 1) := by decide +kernel
theorem k360_77 : decode (gb 360) 77 = .ok (.ireturn, 1) := by decide +kernel
theorem k360_78 : decode (gb 360) 78 = .ok (.aload_n 0, 1) := by decide +kernel
theorem k360_79 : decode (gb 360) 79 = .ok (.getfield 536, 3) := by decide +kernel
theorem k360_82 : decode (gb 360) 82 = .ok (.iload_n 1, 1) := by decide +kernel
theorem k360_83 : decode (gb 360) 83 = .ok (.baload, 1) := by decide +kernel
theorem k360_84 : decode (gb 360) 84 = .ok (.ifCond .eq 16, 3) := by decide +kernel
theorem k360_87 : decode (gb 360) 87 = .ok (.aload_n 0, 1) := by decide +kernel
theorem k360_88 : decode (gb 360) 88 = .ok (.getfield 610, 3) := by decide +kernel
theorem k360_91 : decode (gb 360) 91 = .ok (.iload_n 1, 1) := by decide +kernel
theorem k360_92 : decode (gb 360) 92 = .ok (.baload, 1) := by decide +kernel
theorem k360_93 : decode (gb 360) 93 = .ok (.ifCond .eq 7, 3) := by decide +kernel
theorem k360_96 : decode (gb 360) 96 = .ok (.iconst 1, 1) := by decide +kernel
theorem k360_97 : decode (gb 360) 97 = .ok (.goto 4, 3) := by decide +kernel
theorem k360_100 : decode (gb 360) 100 = .ok (.iconst 0, 1) := by decide +kernel
theorem k360_101 : decode (gb 360) 101 = .ok (.ireturn, 1) := by decide +kernel
theorem k360_102 : decode (gb 360) 102 = .ok (.aload_n 0, 1) := by decide +kernel
theorem k360_103 : decode (gb 360) 103 = .ok (.getfield 536, 3) := by decide +kernel
theorem k360_106 : decode (gb 360) 106 = .ok (.iload_n 1, 1) := by decide +kernel
theorem k360_107 : decode (gb 360) 107 = .ok (.baload, 1) := by decide +kernel
theorem k360_108 : decode (gb 360) 108 = .ok (.ifCond .eq 12, 3) := by decide +kernel
theorem k360_111 : decode (gb 360) 111 = .ok (.aload_n 0, 1) := by decide +kernel
theorem k360_112 : decode (gb 360) 112 = .ok (.getfield 613, 3) := by decide +kernel
theorem k360_115 : decode (gb 360) 115 = .ok (.iload_n 1, 1) := by decide +kernel
theorem k360_116 : decode (gb 360) 116 = .ok (.iaload, 1) := by decide +kernel
theorem k360_117 : decode (gb 360) 117 = .ok (.goto 4, 3) := by decide +kernel
theorem k360_120 : decode (gb 360) 120 = .ok (.iconst 0, 1) := by decide +kernel
theorem k360_121 : decode (gb 360) 121 = .ok (.ireturn, 1) := by decide +kernel
/-- CraftHouseModel.event(II)I -/
def f360 (p1 : Int32) (p2 : Int32) (μ : Mem) : Option (Mem × Int32) :=
  if p1 < 0 then
    some (μ, (-1 : Int32))
  else
    if (31 : Int32) < p1 then
      some (μ, (-1 : Int32))
    else
      if p2 < 0 then
        some (μ, (-1 : Int32))
      else
        if p2 ≤ (3 : Int32) then
          if p2 = (0 : Int32) then
            (ldA 190 p1 μ).bind fun x5 =>
            if x5 = 0 then
              some (μ, (1 : Int32))
            else
              some (μ, (0 : Int32))
          else if p2 = (1 : Int32) then
            (ldA 191 p1 μ).bind fun x9 =>
            if x9 = 0 then
              some (μ, (0 : Int32))
            else
              some (μ, (1 : Int32))
          else if p2 = (2 : Int32) then
            (ldA 191 p1 μ).bind fun x13 =>
            if x13 = 0 then
              some (μ, (0 : Int32))
            else
              (ldA 192 p1 μ).bind fun x16 =>
              if x16 = 0 then
                some (μ, (0 : Int32))
              else
                some (μ, (1 : Int32))
          else 
            (ldA 191 p1 μ).bind fun x20 =>
            if x20 = 0 then
              some (μ, (0 : Int32))
            else
              (ldA 194 p1 μ).bind fun x23 =>
              some (μ, x23)
        else
          some (μ, (-1 : Int32))
theorem ok360 {L : Nat} (p1 : Int32) (p2 : Int32) (μ : Mem) (res : Mem × Int32) (h : f360 p1 p2 μ = some res) : Mx 360 [.ref 129, .int p1, .int p2] (mk L μ) (mk L res.1, some (.int res.2)) := by
  refine Mx_of ml_360 (by rw [mx_360]; exact Nat.le_of_ble_eq_true rfl) ?_
  show Sx 360 0 [(0, .ref 129), (1, .int p1), (2, .int p2)] [] 0 0 (mk L μ) _
  unfold f360 at h
  refine sx_iload_n (i := 1) k360_0 rfl rfl ?_
  by_cases hb1 : p1 < 0
  · rw [if_pos hb1] at h
    refine sx_if_lt (tgt := 19) k360_1 (by decide) (fun _ => ?_) (fun q => absurd hb1 q)
    refine sx_iconst (v := -1) k360_19 (by decide) ?_
    exact cx_reti k360_20 rt_360 h
  · rw [if_neg hb1] at h
    refine sx_if_lt (tgt := 19) k360_1 (by decide) (fun q => absurd q hb1) (fun _ => ?_)
    refine sx_iload_n (i := 1) k360_4 rfl rfl ?_
    refine sx_bipush (v := 31) k360_5 (by decide) ?_
    by_cases hb2 : (31 : Int32) < p1
    · rw [if_pos hb2] at h
      refine sx_icmp_gt (tgt := 19) k360_7 (by decide) (fun _ => ?_) (fun q => absurd hb2 q)
      refine sx_iconst (v := -1) k360_19 (by decide) ?_
      exact cx_reti k360_20 rt_360 h
    · rw [if_neg hb2] at h
      refine sx_icmp_gt (tgt := 19) k360_7 (by decide) (fun q => absurd q hb2) (fun _ => ?_)
      refine sx_iload_n (i := 2) k360_10 rfl rfl ?_
      by_cases hb3 : p2 < 0
      · rw [if_pos hb3] at h
        refine sx_if_lt (tgt := 19) k360_11 (by decide) (fun _ => ?_) (fun q => absurd hb3 q)
        refine sx_iconst (v := -1) k360_19 (by decide) ?_
        exact cx_reti k360_20 rt_360 h
      · rw [if_neg hb3] at h
        refine sx_if_lt (tgt := 19) k360_11 (by decide) (fun q => absurd q hb3) (fun _ => ?_)
        refine sx_iload_n (i := 2) k360_14 rfl rfl ?_
        refine sx_iconst (v := 3) k360_15 (by decide) ?_
        by_cases hb4 : p2 ≤ (3 : Int32)
        · rw [if_pos hb4] at h
          refine sx_icmp_le (tgt := 21) k360_16 (by decide) (fun _ => ?_) (fun q => absurd hb4 q)
          refine sx_iload_n (i := 2) k360_21 rfl rfl ?_
          by_cases hb8 : p2 = (0 : Int32)
          · rw [if_pos hb8] at h
            refine sx_tableIn (off := 26) (tgt := 48) k360_22 (by rw [hb8]; decide) (by rw [hb8]; decide) (by rw [hb8]; rfl) (by decide) ?_
            refine sx_aload_n (i := 0) k360_48 rfl rfl ?_
            refine cx_getR (k := 115) k360_49 ow_360 fl_12_571 (by decide) sk_129 ft_11_115 sr_129_115 ?_
            refine sx_iload_n (i := 1) k360_52 rfl rfl ?_
            obtain ⟨x5, e6, h⟩ := Option.bind_eq_some_iff.mp h
            refine cx_bald k360_53 (Or.inr sk_190) e6 ?_
            by_cases hb7 : x5 = 0
            · rw [if_pos hb7] at h
              refine sx_if_eq (tgt := 61) k360_54 (by decide) (fun _ => ?_) (fun q => absurd hb7 q)
              refine sx_iconst (v := 1) k360_61 (by decide) ?_
              exact cx_reti k360_62 rt_360 h
            · rw [if_neg hb7] at h
              refine sx_if_eq (tgt := 61) k360_54 (by decide) (fun q => absurd q hb7) (fun _ => ?_)
              refine sx_iconst (v := 0) k360_57 (by decide) ?_
              refine sx_goto (tgt := 62) k360_58 (by decide) ?_
              exact cx_reti k360_62 rt_360 h
          · rw [if_neg hb8] at h
            by_cases hb12 : p2 = (1 : Int32)
            · rw [if_pos hb12] at h
              refine sx_tableIn (off := 41) (tgt := 63) k360_22 (by rw [hb12]; decide) (by rw [hb12]; decide) (by rw [hb12]; rfl) (by decide) ?_
              refine sx_aload_n (i := 0) k360_63 rfl rfl ?_
              refine cx_getR (k := 116) k360_64 ow_360 fl_12_536 (by decide) sk_129 ft_11_116 sr_129_116 ?_
              refine sx_iload_n (i := 1) k360_67 rfl rfl ?_
              obtain ⟨x9, e10, h⟩ := Option.bind_eq_some_iff.mp h
              refine cx_bald k360_68 (Or.inr sk_191) e10 ?_
              by_cases hb11 : x9 = 0
              · rw [if_pos hb11] at h
                refine sx_if_eq (tgt := 76) k360_69 (by decide) (fun _ => ?_) (fun q => absurd hb11 q)
                refine sx_iconst (v := 0) k360_76 (by decide) ?_
                exact cx_reti k360_77 rt_360 h
              · rw [if_neg hb11] at h
                refine sx_if_eq (tgt := 76) k360_69 (by decide) (fun q => absurd q hb11) (fun _ => ?_)
                refine sx_iconst (v := 1) k360_72 (by decide) ?_
                refine sx_goto (tgt := 77) k360_73 (by decide) ?_
                exact cx_reti k360_77 rt_360 h
            · rw [if_neg hb12] at h
              by_cases hb19 : p2 = (2 : Int32)
              · rw [if_pos hb19] at h
                refine sx_tableIn (off := 56) (tgt := 78) k360_22 (by rw [hb19]; decide) (by rw [hb19]; decide) (by rw [hb19]; rfl) (by decide) ?_
                refine sx_aload_n (i := 0) k360_78 rfl rfl ?_
                refine cx_getR (k := 116) k360_79 ow_360 fl_12_536 (by decide) sk_129 ft_11_116 sr_129_116 ?_
                refine sx_iload_n (i := 1) k360_82 rfl rfl ?_
                obtain ⟨x13, e14, h⟩ := Option.bind_eq_some_iff.mp h
                refine cx_bald k360_83 (Or.inr sk_191) e14 ?_
                by_cases hb15 : x13 = 0
                · rw [if_pos hb15] at h
                  refine sx_if_eq (tgt := 100) k360_84 (by decide) (fun _ => ?_) (fun q => absurd hb15 q)
                  refine sx_iconst (v := 0) k360_100 (by decide) ?_
                  exact cx_reti k360_101 rt_360 h
                · rw [if_neg hb15] at h
                  refine sx_if_eq (tgt := 100) k360_84 (by decide) (fun q => absurd q hb15) (fun _ => ?_)
                  refine sx_aload_n (i := 0) k360_87 rfl rfl ?_
                  refine cx_getR (k := 117) k360_88 ow_360 fl_12_610 (by decide) sk_129 ft_11_117 sr_129_117 ?_
                  refine sx_iload_n (i := 1) k360_91 rfl rfl ?_
                  obtain ⟨x16, e17, h⟩ := Option.bind_eq_some_iff.mp h
                  refine cx_bald k360_92 (Or.inr sk_192) e17 ?_
                  by_cases hb18 : x16 = 0
                  · rw [if_pos hb18] at h
                    refine sx_if_eq (tgt := 100) k360_93 (by decide) (fun _ => ?_) (fun q => absurd hb18 q)
                    refine sx_iconst (v := 0) k360_100 (by decide) ?_
                    exact cx_reti k360_101 rt_360 h
                  · rw [if_neg hb18] at h
                    refine sx_if_eq (tgt := 100) k360_93 (by decide) (fun q => absurd q hb18) (fun _ => ?_)
                    refine sx_iconst (v := 1) k360_96 (by decide) ?_
                    refine sx_goto (tgt := 101) k360_97 (by decide) ?_
                    exact cx_reti k360_101 rt_360 h
              · rw [if_neg hb19] at h
                refine sx_tableOut (tgt := 102) k360_22 (sw_out (n := 3) (fun j hj => ?_)) (by decide) ?_
                · intro hj2
                  exact sw_no [(0 : Int32), (1 : Int32), (2 : Int32)] (by decide) hj hj2 ⟨hb8, hb12, hb19, trivial⟩
                ·
                  refine sx_aload_n (i := 0) k360_102 rfl rfl ?_
                  refine cx_getR (k := 116) k360_103 ow_360 fl_12_536 (by decide) sk_129 ft_11_116 sr_129_116 ?_
                  refine sx_iload_n (i := 1) k360_106 rfl rfl ?_
                  obtain ⟨x20, e21, h⟩ := Option.bind_eq_some_iff.mp h
                  refine cx_bald k360_107 (Or.inr sk_191) e21 ?_
                  by_cases hb22 : x20 = 0
                  · rw [if_pos hb22] at h
                    refine sx_if_eq (tgt := 120) k360_108 (by decide) (fun _ => ?_) (fun q => absurd hb22 q)
                    refine sx_iconst (v := 0) k360_120 (by decide) ?_
                    exact cx_reti k360_121 rt_360 h
                  · rw [if_neg hb22] at h
                    refine sx_if_eq (tgt := 120) k360_108 (by decide) (fun q => absurd q hb22) (fun _ => ?_)
                    refine sx_aload_n (i := 0) k360_111 rfl rfl ?_
                    refine cx_getR (k := 119) k360_112 ow_360 fl_12_613 (by decide) sk_129 ft_11_119 sr_129_119 ?_
                    refine sx_iload_n (i := 1) k360_115 rfl rfl ?_
                    obtain ⟨x23, e24, h⟩ := Option.bind_eq_some_iff.mp h
                    refine cx_iald k360_116 sk_194 e24 ?_
                    refine sx_goto (tgt := 121) k360_117 (by decide) ?_
                    exact cx_reti k360_121 rt_360 h
        · rw [if_neg hb4] at h
          refine sx_icmp_le (tgt := 21) k360_16 (by decide) (fun q => absurd q hb4) (fun _ => ?_)
          refine sx_iconst (v := -1) k360_19 (by decide) ?_
          exact cx_reti k360_20 rt_360 h
theorem k361_0 : decode (gb 361) 0 = .ok (.iload_n 1, 1) := by decide +kernel
theorem k361_1 : decode (gb 361) 1 = .ok (.bipush (-2), 2) := by decide +kernel
theorem k361_3 : decode (gb 361) 3 = .ok (.if_icmp .ne 64, 3) := by decide +kernel
theorem k361_6 : decode (gb 361) 6 = .ok (.iload_n 2, 1) := by decide +kernel
theorem k361_7 : decode (gb 361) 7 = .ok (.ifCond .lt 8, 3) := by decide +kernel
theorem k361_10 : decode (gb 361) 10 = .ok (.iload_n 2, 1) := by decide +kernel
theorem k361_11 : decode (gb 361) 11 = .ok (.iconst 5, 1) := by decide +kernel
theorem k361_12 : decode (gb 361) 12 = .ok (.if_icmp .le 7, 3) := by decide +kernel
theorem k361_15 : decode (gb 361) 15 = .ok (.iconst (-1), 1) := by decide +kernel
theorem k361_16 : decode (gb 361) 16 = .ok (.goto 50, 3) := by decide +kernel
theorem k361_19 : decode (gb 361) 19 = .ok (.iload_n 2, 1) := by decide +kernel
theorem k361_20 : decode (gb 361) 20 = .ok (.ifCond .ne 10, 3) := by decide +kernel
theorem k361_23 : decode (gb 361) 23 = .ok (.aload_n 0, 1) := by decide +kernel
theorem k361_24 : decode (gb 361) 24 = .ok (.getfield 402, 3) := by decide +kernel
theorem k361_27 : decode (gb 361) 27 = .ok (.goto 39, 3) := by decide +kernel
theorem k361_30 : decode (gb 361) 30 = .ok (.iload_n 2, 1) := by decide +kernel
theorem k361_31 : decode (gb 361) 31 = .ok (.iconst 1, 1) := by decide +kernel
theorem k361_32 : decode (gb 361) 32 = .ok (.if_icmp .ne 18, 3) := by decide +kernel
theorem k361_35 : decode (gb 361) 35 = .ok (.aload_n 0, 1) := by decide +kernel
theorem k361_36 : decode (gb 361) 36 = .ok (.getfield 652, 3) := by decide +kernel
theorem k361_39 : decode (gb 361) 39 = .ok (.ifCond .eq 7, 3) := by decide +kernel
theorem k361_42 : decode (gb 361) 42 = .ok (.iconst 1, 1) := by decide +kernel
theorem k361_43 : decode (gb 361) 43 = .ok (.goto 23, 3) := by decide +kernel
theorem k361_46 : decode (gb 361) 46 = .ok (.iconst 0, 1) := by decide +kernel
theorem k361_47 : decode (gb 361) 47 = .ok (.goto 19, 3) := by decide +kernel
theorem k361_50 : decode (gb 361) 50 = .ok (.aload_n 0, 1) := by decide +kernel
theorem k361_51 : decode (gb 361) 51 = .ok (.getfield 658, 3) := by decide +kernel
theorem k361_54 : decode (gb 361) 54 = .ok (.iload_n 2, 1) := by decide +kernel
theorem k361_55 : decode (gb 361) 55 = .ok (.iconst 2, 1) := by decide +kernel
theorem k361_56 : decode (gb 361) 56 = .ok (.isub, 1) := by decide +kernel
theorem k361_57 : decode (gb 361) 57 = .ok (.baload, 1) := by decide +kernel
theorem k361_58 : decode (gb 361) 58 = .ok (.ifCond .eq 7, 3) := by decide +kernel
theorem k361_61 : decode (gb 361) 61 = .ok (.iconst 0, 1) := by decide +kernel
theorem k361_62 : decode (gb 361) 62 = .ok (.goto 4, 3) := by decide +kernel
theorem k361_65 : decode (gb 361) 65 = .ok (.iconst 1, 1) := by decide +kernel
theorem k361_66 : decode (gb 361) 66 = .ok (.ireturn, 1) := by decide +kernel
theorem k361_67 : decode (gb 361) 67 = .ok (.iload_n 1, 1) := by decide +kernel
theorem k361_68 : decode (gb 361) 68 = .ok (.ifCond .lt 20, 3) := by decide +kernel
theorem k361_71 : decode (gb 361) 71 = .ok (.iload_n 1, 1) := by decide +kernel
theorem k361_72 : decode (gb 361) 72 = .ok (.aload_n 0, 1) := by decide +kernel
theorem k361_73 : decode (gb 361) 73 = .ok (.getfield 402, 3) := by decide +kernel
theorem k361_76 : decode (gb 361) 76 = .ok (.if_icmp .ge 12, 3) := by decide +kernel
theorem k361_79 : decode (gb 361) 79 = .ok (.iload_n 2, 1) := by decide +kernel
theorem k361_80 : decode (gb 361) 80 = .ok (.ifCond .lt 8, 3) := by decide +kernel
theorem k361_83 : decode (gb 361) 83 = .ok (.iload_n 2, 1) := by decide +kernel
theorem k361_84 : decode (gb 361) 84 = .ok (.iconst 2, 1) := by decide +kernel
theorem k361_85 : decode (gb 361) 85 = .ok (.if_icmp .le 5, 3) := by decide +kernel
theorem k361_88 : decode (gb 361) 88 = .ok (.iconst (-1), 1) := by decide +kernel
theorem k361_89 : decode (gb 361) 89 = .ok (.ireturn, 1) := by decide +kernel
theorem k361_90 : decode (gb 361) 90 = .ok (.iload_n 2, 1) := by decide +kernel
theorem k361_91 : decode (gb 361) 91 = .ok (.ifCond .ne 12, 3) := by decide +kernel
theorem k361_94 : decode (gb 361) 94 = .ok (.aload_n 0, 1) := by decide +kernel
theorem k361_95 : decode (gb 361) 95 = .ok (.getfield 554, 3) := by decide +kernel
theorem k361_98 : decode (gb 361) 98 = .ok (.iload_n 1, 1) := by decide +kernel
theorem k361_99 : decode (gb 361) 99 = .ok (.iaload, 1) := by decide +kernel
theorem k361_100 : decode (gb 361) 100 = .ok (.goto 23, 3) := by decide +kernel
theorem k361_103 : decode (gb 361) 103 = .ok (.iload_n 2, 1) := by decide +kernel
theorem k361_104 : decode (gb 361) 104 = .ok (.iconst 1, 1) := by decide +kernel
theorem k361_105 : decode (gb 361) 105 = .ok (.if_icmp .ne 12, 3) := by decide +kernel
theorem k361_108 : decode (gb 361) 108 = .ok (.aload_n 0, 1) := by decide +kernel
theorem k361_109 : decode (gb 361) 109 = .ok (.getfield 646, 3) := by decide +kernel
theorem k361_112 : decode (gb 361) 112 = .ok (.iload_n 1, 1) := by decide +kernel
theorem k361_113 : decode (gb 361) 113 = .ok (.iaload, 1) := by decide +kernel
theorem k361_114 : decode (gb 361) 114 = .ok (.goto 9, 3) := by decide +kernel
theorem k361_117 : decode (gb 361) 117 = .ok (.aload_n 0, 1) := by decide +kernel
theorem k361_118 : decode (gb 361) 118 = .ok (.getfield 649, 3) := by decide +kernel
theorem k361_121 : decode (gb 361) 121 = .ok (.iload_n 1, 1) := by decide +kernel
theorem k361_122 : decode (gb 361) 122 = .ok (.iaload, 1) := by decide +kernel
theorem k361_123 : decode (gb 361) 123 = .ok (.ireturn, 1) := by decide +kernel
def c361_15 (μ : Mem) : Option (Mem × Int32) :=
  some (μ, (-1 : Int32))
theorem c361_15_ok {L : Nat} (μ : Mem) (res : Mem × Int32) (h : c361_15 μ = some res) : Sx 361 15 [] [] 0 0 (mk L μ) (mk L res.1, some (.int res.2)) := by
  unfold c361_15 at h
  refine sx_iconst (v := -1) k361_15 (by decide) ?_
  refine sx_goto (tgt := 66) k361_16 (by decide) ?_
  exact cx_reti k361_66 rt_361 h
/-- CraftHouseModel.entry(II)I -/
def f361 (p1 : Int32) (p2 : Int32) (μ : Mem) : Option (Mem × Int32) :=
  if p1 = (-2 : Int32) then
    if p2 < 0 then
      c361_15 μ
    else
      if p2 ≤ (5 : Int32) then
        if p2 = 0 then
          some (μ, (μ.1 129 130))
        else
          if p2 = (1 : Int32) then
            if (μ.1 129 128) = 0 then
              some (μ, (0 : Int32))
            else
              some (μ, (1 : Int32))
          else
            (ldA 203 (p2 - (2 : Int32)) μ).bind fun x18 =>
            if x18 = 0 then
              some (μ, (1 : Int32))
            else
              some (μ, (0 : Int32))
      else
        c361_15 μ
  else
    if p1 < 0 then
      some (μ, (-1 : Int32))
    else
      if (μ.1 129 130) ≤ p1 then
        some (μ, (-1 : Int32))
      else
        if p2 < 0 then
          some (μ, (-1 : Int32))
        else
          if p2 ≤ (2 : Int32) then
            if p2 = 0 then
              (ldA 204 p1 μ).bind fun x12 =>
              some (μ, x12)
            else
              if p2 = (1 : Int32) then
                (ldA 205 p1 μ).bind fun x10 =>
                some (μ, x10)
              else
                (ldA 206 p1 μ).bind fun x8 =>
                some (μ, x8)
          else
            some (μ, (-1 : Int32))
theorem ok361 {L : Nat} (p1 : Int32) (p2 : Int32) (μ : Mem) (res : Mem × Int32) (h : f361 p1 p2 μ = some res) : Mx 361 [.ref 129, .int p1, .int p2] (mk L μ) (mk L res.1, some (.int res.2)) := by
  refine Mx_of ml_361 (by rw [mx_361]; exact Nat.le_of_ble_eq_true rfl) ?_
  show Sx 361 0 [(0, .ref 129), (1, .int p1), (2, .int p2)] [] 0 0 (mk L μ) _
  unfold f361 at h
  refine sx_iload_n (i := 1) k361_0 rfl rfl ?_
  refine sx_bipush (v := -2) k361_1 (by decide) ?_
  by_cases hb1 : p1 = (-2 : Int32)
  · rw [if_pos hb1] at h
    refine sx_icmp_ne (tgt := 67) k361_3 (by decide) (fun q => absurd hb1 q) (fun _ => ?_)
    refine sx_iload_n (i := 2) k361_6 rfl rfl ?_
    by_cases hb14 : p2 < 0
    · rw [if_pos hb14] at h
      refine sx_if_lt (tgt := 15) k361_7 (by decide) (fun _ => ?_) (fun q => absurd hb14 q)
      refine sx_pick (lo2 := []) [] rfl ?_
      exact c361_15_ok _ _ h
    · rw [if_neg hb14] at h
      refine sx_if_lt (tgt := 15) k361_7 (by decide) (fun q => absurd q hb14) (fun _ => ?_)
      refine sx_iload_n (i := 2) k361_10 rfl rfl ?_
      refine sx_iconst (v := 5) k361_11 (by decide) ?_
      by_cases hb15 : p2 ≤ (5 : Int32)
      · rw [if_pos hb15] at h
        refine sx_icmp_le (tgt := 19) k361_12 (by decide) (fun _ => ?_) (fun q => absurd hb15 q)
        refine sx_iload_n (i := 2) k361_19 rfl rfl ?_
        by_cases hb16 : p2 = 0
        · rw [if_pos hb16] at h
          refine sx_if_ne (tgt := 30) k361_20 (by decide) (fun q => absurd hb16 q) (fun _ => ?_)
          refine sx_aload_n (i := 0) k361_23 rfl rfl ?_
          refine cx_getI (k := 130) k361_24 ow_361 fl_12_402 (by decide) sk_129 ft_11_130 ?_
          refine sx_goto (tgt := 66) k361_27 (by decide) ?_
          exact cx_reti k361_66 rt_361 h
        · rw [if_neg hb16] at h
          refine sx_if_ne (tgt := 30) k361_20 (by decide) (fun _ => ?_) (fun q => absurd q hb16)
          refine sx_iload_n (i := 2) k361_30 rfl rfl ?_
          refine sx_iconst (v := 1) k361_31 (by decide) ?_
          by_cases hb17 : p2 = (1 : Int32)
          · rw [if_pos hb17] at h
            refine sx_icmp_ne (tgt := 50) k361_32 (by decide) (fun q => absurd hb17 q) (fun _ => ?_)
            refine sx_aload_n (i := 0) k361_35 rfl rfl ?_
            refine cx_getI (k := 128) k361_36 ow_361 fl_12_652 (by decide) sk_129 ft_11_128 ?_
            by_cases hb21 : (μ.1 129 128) = 0
            · rw [if_pos hb21] at h
              refine sx_if_eq (tgt := 46) k361_39 (by decide) (fun _ => ?_) (fun q => absurd hb21 q)
              refine sx_iconst (v := 0) k361_46 (by decide) ?_
              refine sx_goto (tgt := 66) k361_47 (by decide) ?_
              exact cx_reti k361_66 rt_361 h
            · rw [if_neg hb21] at h
              refine sx_if_eq (tgt := 46) k361_39 (by decide) (fun q => absurd q hb21) (fun _ => ?_)
              refine sx_iconst (v := 1) k361_42 (by decide) ?_
              refine sx_goto (tgt := 66) k361_43 (by decide) ?_
              exact cx_reti k361_66 rt_361 h
          · rw [if_neg hb17] at h
            refine sx_icmp_ne (tgt := 50) k361_32 (by decide) (fun _ => ?_) (fun q => absurd q hb17)
            refine sx_aload_n (i := 0) k361_50 rfl rfl ?_
            refine cx_getR (k := 129) k361_51 ow_361 fl_12_658 (by decide) sk_129 ft_11_129 sr_129_129 ?_
            refine sx_iload_n (i := 2) k361_54 rfl rfl ?_
            refine sx_iconst (v := 2) k361_55 (by decide) ?_
            refine sx_isub k361_56 ?_
            obtain ⟨x18, e19, h⟩ := Option.bind_eq_some_iff.mp h
            refine cx_bald k361_57 (Or.inr sk_203) e19 ?_
            by_cases hb20 : x18 = 0
            · rw [if_pos hb20] at h
              refine sx_if_eq (tgt := 65) k361_58 (by decide) (fun _ => ?_) (fun q => absurd hb20 q)
              refine sx_iconst (v := 1) k361_65 (by decide) ?_
              exact cx_reti k361_66 rt_361 h
            · rw [if_neg hb20] at h
              refine sx_if_eq (tgt := 65) k361_58 (by decide) (fun q => absurd q hb20) (fun _ => ?_)
              refine sx_iconst (v := 0) k361_61 (by decide) ?_
              refine sx_goto (tgt := 66) k361_62 (by decide) ?_
              exact cx_reti k361_66 rt_361 h
      · rw [if_neg hb15] at h
        refine sx_icmp_le (tgt := 19) k361_12 (by decide) (fun q => absurd q hb15) (fun _ => ?_)
        refine sx_pick (lo2 := []) [] rfl ?_
        exact c361_15_ok _ _ h
  · rw [if_neg hb1] at h
    refine sx_icmp_ne (tgt := 67) k361_3 (by decide) (fun _ => ?_) (fun q => absurd q hb1)
    refine sx_iload_n (i := 1) k361_67 rfl rfl ?_
    by_cases hb2 : p1 < 0
    · rw [if_pos hb2] at h
      refine sx_if_lt (tgt := 88) k361_68 (by decide) (fun _ => ?_) (fun q => absurd hb2 q)
      refine sx_iconst (v := -1) k361_88 (by decide) ?_
      exact cx_reti k361_89 rt_361 h
    · rw [if_neg hb2] at h
      refine sx_if_lt (tgt := 88) k361_68 (by decide) (fun q => absurd q hb2) (fun _ => ?_)
      refine sx_iload_n (i := 1) k361_71 rfl rfl ?_
      refine sx_aload_n (i := 0) k361_72 rfl rfl ?_
      refine cx_getI (k := 130) k361_73 ow_361 fl_12_402 (by decide) sk_129 ft_11_130 ?_
      by_cases hb3 : (μ.1 129 130) ≤ p1
      · rw [if_pos hb3] at h
        refine sx_icmp_ge (tgt := 88) k361_76 (by decide) (fun _ => ?_) (fun q => absurd hb3 q)
        refine sx_iconst (v := -1) k361_88 (by decide) ?_
        exact cx_reti k361_89 rt_361 h
      · rw [if_neg hb3] at h
        refine sx_icmp_ge (tgt := 88) k361_76 (by decide) (fun q => absurd q hb3) (fun _ => ?_)
        refine sx_iload_n (i := 2) k361_79 rfl rfl ?_
        by_cases hb4 : p2 < 0
        · rw [if_pos hb4] at h
          refine sx_if_lt (tgt := 88) k361_80 (by decide) (fun _ => ?_) (fun q => absurd hb4 q)
          refine sx_iconst (v := -1) k361_88 (by decide) ?_
          exact cx_reti k361_89 rt_361 h
        · rw [if_neg hb4] at h
          refine sx_if_lt (tgt := 88) k361_80 (by decide) (fun q => absurd q hb4) (fun _ => ?_)
          refine sx_iload_n (i := 2) k361_83 rfl rfl ?_
          refine sx_iconst (v := 2) k361_84 (by decide) ?_
          by_cases hb5 : p2 ≤ (2 : Int32)
          · rw [if_pos hb5] at h
            refine sx_icmp_le (tgt := 90) k361_85 (by decide) (fun _ => ?_) (fun q => absurd hb5 q)
            refine sx_iload_n (i := 2) k361_90 rfl rfl ?_
            by_cases hb6 : p2 = 0
            · rw [if_pos hb6] at h
              refine sx_if_ne (tgt := 103) k361_91 (by decide) (fun q => absurd hb6 q) (fun _ => ?_)
              refine sx_aload_n (i := 0) k361_94 rfl rfl ?_
              refine cx_getR (k := 131) k361_95 ow_361 fl_12_554 (by decide) sk_129 ft_11_131 sr_129_131 ?_
              refine sx_iload_n (i := 1) k361_98 rfl rfl ?_
              obtain ⟨x12, e13, h⟩ := Option.bind_eq_some_iff.mp h
              refine cx_iald k361_99 sk_204 e13 ?_
              refine sx_goto (tgt := 123) k361_100 (by decide) ?_
              exact cx_reti k361_123 rt_361 h
            · rw [if_neg hb6] at h
              refine sx_if_ne (tgt := 103) k361_91 (by decide) (fun _ => ?_) (fun q => absurd q hb6)
              refine sx_iload_n (i := 2) k361_103 rfl rfl ?_
              refine sx_iconst (v := 1) k361_104 (by decide) ?_
              by_cases hb7 : p2 = (1 : Int32)
              · rw [if_pos hb7] at h
                refine sx_icmp_ne (tgt := 117) k361_105 (by decide) (fun q => absurd hb7 q) (fun _ => ?_)
                refine sx_aload_n (i := 0) k361_108 rfl rfl ?_
                refine cx_getR (k := 132) k361_109 ow_361 fl_12_646 (by decide) sk_129 ft_11_132 sr_129_132 ?_
                refine sx_iload_n (i := 1) k361_112 rfl rfl ?_
                obtain ⟨x10, e11, h⟩ := Option.bind_eq_some_iff.mp h
                refine cx_iald k361_113 sk_205 e11 ?_
                refine sx_goto (tgt := 123) k361_114 (by decide) ?_
                exact cx_reti k361_123 rt_361 h
              · rw [if_neg hb7] at h
                refine sx_icmp_ne (tgt := 117) k361_105 (by decide) (fun _ => ?_) (fun q => absurd q hb7)
                refine sx_aload_n (i := 0) k361_117 rfl rfl ?_
                refine cx_getR (k := 133) k361_118 ow_361 fl_12_649 (by decide) sk_129 ft_11_133 sr_129_133 ?_
                refine sx_iload_n (i := 1) k361_121 rfl rfl ?_
                obtain ⟨x8, e9, h⟩ := Option.bind_eq_some_iff.mp h
                refine cx_iald k361_122 sk_206 e9 ?_
                exact cx_reti k361_123 rt_361 h
          · rw [if_neg hb5] at h
            refine sx_icmp_le (tgt := 90) k361_85 (by decide) (fun q => absurd q hb5) (fun _ => ?_)
            refine sx_iconst (v := -1) k361_88 (by decide) ?_
            exact cx_reti k361_89 rt_361 h
