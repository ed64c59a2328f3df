theorem k159_0 : decode (gb 159) 0 = .ok (.aload_n 0, 1) := by decide +kernel
theorem k159_1 : decode (gb 159) 1 = .ok (.getfield 32, 3) := by decide +kernel
theorem k159_4 : decode (gb 159) 4 = .ok (.aload_n 0, 1) := by decide +kernel
theorem k159_5 : decode (gb 159) 5 = .ok (.getfield 19, 3) := by decide +kernel
theorem k159_8 : decode (gb 159) 8 = .ok (.arraylength, 1) := by decide +kernel
theorem k159_9 : decode (gb 159) 9 = .ok (.if_icmp .ge 7, 3) := by decide +kernel
theorem k159_12 : decode (gb 159) 12 = .ok (.iconst 1, 1) := by decide +kernel
theorem k159_13 : decode (gb 159) 13 = .ok (.goto 4, 3) := by decide +kernel
theorem k159_16 : decode (gb 159) 16 = .ok (.iconst 0, 1) := by decide +kernel
theorem k159_17 : decode (gb 159) 17 = .ok (.ireturn, 1) := by decide +kernel
/-- Shelf.hasPlace()Z -/
def f159 (a0 : Nat) (μ : Mem) : Option (Mem × Int32) :=
  if (nI (gln (a0 + 2))) ≤ (μ.1 a0 5) then
    rtZ (0 : Int32) μ
  else
    rtZ (1 : Int32) μ
theorem ok159 {L : Nat} (a0 : Nat) (h0 : SK0 a0 = (0, 7)) (μ : Mem) (res : Mem × Int32) (h : f159 a0 μ = some res) : Mx 159 [.ref a0] (mk L μ) (mk L res.1, some (.int res.2)) := by
  refine Mx_of ml_159 (by rw [mx_159]; exact Nat.le_of_ble_eq_true rfl) ?_
  show Sx 159 0 [(0, .ref a0)] [] 0 0 (mk L μ) _
  unfold f159 at h
  refine sx_aload_n (i := 0) k159_0 rfl rfl ?_
  refine cx_getI (k := 5) k159_1 ow_159 fl_8_32 (by decide) h0 ft_7_5 ?_
  refine sx_aload_n (i := 0) k159_4 rfl rfl ?_
  refine cx_getR (k := 1) k159_5 ow_159 fl_8_19 (by decide) h0 ft_7_1 (kf_7_1 h0).1 ?_
  refine cx_alen (t := 0) k159_8 (by decide) (kf_7_1 h0).2 ?_
  by_cases hb1 : (nI (gln (a0 + 2))) ≤ (μ.1 a0 5)
  · rw [if_pos hb1] at h
    refine sx_icmp_ge (tgt := 16) k159_9 (by decide) (fun _ => ?_) (fun q => absurd hb1 q)
    refine sx_iconst (v := 0) k159_16 (by decide) ?_
    exact cx_retz k159_17 rt_159 h
  · rw [if_neg hb1] at h
    refine sx_icmp_ge (tgt := 16) k159_9 (by decide) (fun q => absurd q hb1) (fun _ => ?_)
    refine sx_iconst (v := 1) k159_12 (by decide) ?_
    refine sx_goto (tgt := 17) k159_13 (by decide) ?_
    exact cx_retz k159_17 rt_159 h
theorem k160_0 : decode (gb 160) 0 = .ok (.aload_n 0, 1) := by decide +kernel
theorem k160_1 : decode (gb 160) 1 = .ok (.getfield 32, 3) := by decide +kernel
theorem k160_4 : decode (gb 160) 4 = .ok (.aload_n 0, 1) := by decide +kernel
theorem k160_5 : decode (gb 160) 5 = .ok (.getfield 19, 3) := by decide +kernel
theorem k160_8 : decode (gb 160) 8 = .ok (.arraylength, 1) := by decide +kernel
theorem k160_9 : decode (gb 160) 9 = .ok (.if_icmp .ge 21, 3) := by decide +kernel
theorem k160_12 : decode (gb 160) 12 = .ok (.iload_n 1, 1) := by decide +kernel
theorem k160_13 : decode (gb 160) 13 = .ok (.aload_n 0, 1) := by decide +kernel
theorem k160_14 : decode (gb 160) 14 = .ok (.getfield 13, 3) := by decide +kernel
theorem k160_17 : decode (gb 160) 17 = .ok (.arraylength, 1) := by decide +kernel
theorem k160_18 : decode (gb 160) 18 = .ok (.aload_n 0, 1) := by decide +kernel
theorem k160_19 : decode (gb 160) 19 = .ok (.getfield 36, 3) := by decide +kernel
theorem k160_22 : decode (gb 160) 22 = .ok (.isub, 1) := by decide +kernel
theorem k160_23 : decode (gb 160) 23 = .ok (.if_icmp .gt 7, 3) := by decide +kernel
theorem k160_26 : decode (gb 160) 26 = .ok (.iconst 1, 1) := by decide +kernel
theorem k160_27 : decode (gb 160) 27 = .ok (.goto 4, 3) := by decide +kernel
theorem k160_30 : decode (gb 160) 30 = .ok (.iconst 0, 1) := by decide +kernel
theorem k160_31 : decode (gb 160) 31 = .ok (.ireturn, 1) := by decide +kernel
/-- Shelf.hasRoom(I)Z -/
def f160 (a0 : Nat) (p1 : Int32) (μ : Mem) : Option (Mem × Int32) :=
  if (nI (gln (a0 + 2))) ≤ (μ.1 a0 5) then
    rtZ (0 : Int32) μ
  else
    if ((nI (gln (a0 + 1))) - (μ.1 a0 6)) < p1 then
      rtZ (0 : Int32) μ
    else
      rtZ (1 : Int32) μ
theorem ok160 {L : Nat} (a0 : Nat) (p1 : Int32) (h0 : SK0 a0 = (0, 7)) (μ : Mem) (res : Mem × Int32) (h : f160 a0 p1 μ = some res) : Mx 160 [.ref a0, .int p1] (mk L μ) (mk L res.1, some (.int res.2)) := by
  refine Mx_of ml_160 (by rw [mx_160]; exact Nat.le_of_ble_eq_true rfl) ?_
  show Sx 160 0 [(0, .ref a0), (1, .int p1)] [] 0 0 (mk L μ) _
  unfold f160 at h
  refine sx_aload_n (i := 0) k160_0 rfl rfl ?_
  refine cx_getI (k := 5) k160_1 ow_160 fl_8_32 (by decide) h0 ft_7_5 ?_
  refine sx_aload_n (i := 0) k160_4 rfl rfl ?_
  refine cx_getR (k := 1) k160_5 ow_160 fl_8_19 (by decide) h0 ft_7_1 (kf_7_1 h0).1 ?_
  refine cx_alen (t := 0) k160_8 (by decide) (kf_7_1 h0).2 ?_
  by_cases hb1 : (nI (gln (a0 + 2))) ≤ (μ.1 a0 5)
  · rw [if_pos hb1] at h
    refine sx_icmp_ge (tgt := 30) k160_9 (by decide) (fun _ => ?_) (fun q => absurd hb1 q)
    refine sx_iconst (v := 0) k160_30 (by decide) ?_
    exact cx_retz k160_31 rt_160 h
  · rw [if_neg hb1] at h
    refine sx_icmp_ge (tgt := 30) k160_9 (by decide) (fun q => absurd q hb1) (fun _ => ?_)
    refine sx_iload_n (i := 1) k160_12 rfl rfl ?_
    refine sx_aload_n (i := 0) k160_13 rfl rfl ?_
    refine cx_getR (k := 0) k160_14 ow_160 fl_8_13 (by decide) h0 ft_7_0 (kf_7_0 h0).1 ?_
    refine cx_alen (t := 1) k160_17 (by decide) (kf_7_0 h0).2 ?_
    refine sx_aload_n (i := 0) k160_18 rfl rfl ?_
    refine cx_getI (k := 6) k160_19 ow_160 fl_8_36 (by decide) h0 ft_7_6 ?_
    refine sx_isub k160_22 ?_
    by_cases hb2 : ((nI (gln (a0 + 1))) - (μ.1 a0 6)) < p1
    · rw [if_pos hb2] at h
      refine sx_icmp_gt (tgt := 30) k160_23 (by decide) (fun _ => ?_) (fun q => absurd hb2 q)
      refine sx_iconst (v := 0) k160_30 (by decide) ?_
      exact cx_retz k160_31 rt_160 h
    · rw [if_neg hb2] at h
      refine sx_icmp_gt (tgt := 30) k160_23 (by decide) (fun q => absurd q hb2) (fun _ => ?_)
      refine sx_iconst (v := 1) k160_26 (by decide) ?_
      refine sx_goto (tgt := 31) k160_27 (by decide) ?_
      exact cx_retz k160_31 rt_160 h
theorem k158_0 : decode (gb 158) 0 = .ok (.iload_n 1, 1) := by decide +kernel
theorem k158_1 : decode (gb 158) 1 = .ok (.ifCond .lt 15, 3) := by decide +kernel
theorem k158_4 : decode (gb 158) 4 = .ok (.iload_n 1, 1) := by decide +kernel
theorem k158_5 : decode (gb 158) 5 = .ok (.aload_n 0, 1) := by decide +kernel
theorem k158_6 : decode (gb 158) 6 = .ok (.getfield 32, 3) := by decide +kernel
theorem k158_9 : decode (gb 158) 9 = .ok (.if_icmp .ge 7, 3) := by decide +kernel
theorem k158_12 : decode (gb 158) 12 = .ok (.iconst 1, 1) := by decide +kernel
theorem k158_13 : decode (gb 158) 13 = .ok (.goto 4, 3) := by decide +kernel
theorem k158_16 : decode (gb 158) 16 = .ok (.iconst 0, 1) := by decide +kernel
theorem k158_17 : decode (gb 158) 17 = .ok (.ireturn, 1) := by decide +kernel
/-- Shelf.has(I)Z -/
def f158 (a0 : Nat) (p1 : Int32) (μ : Mem) : Option (Mem × Int32) :=
  if p1 < 0 then
    rtZ (0 : Int32) μ
  else
    if (μ.1 a0 5) ≤ p1 then
      rtZ (0 : Int32) μ
    else
      rtZ (1 : Int32) μ
theorem ok158 {L : Nat} (a0 : Nat) (p1 : Int32) (h0 : SK0 a0 = (0, 7)) (μ : Mem) (res : Mem × Int32) (h : f158 a0 p1 μ = some res) : Mx 158 [.ref a0, .int p1] (mk L μ) (mk L res.1, some (.int res.2)) := by
  refine Mx_of ml_158 (by rw [mx_158]; exact Nat.le_of_ble_eq_true rfl) ?_
  show Sx 158 0 [(0, .ref a0), (1, .int p1)] [] 0 0 (mk L μ) _
  unfold f158 at h
  refine sx_iload_n (i := 1) k158_0 rfl rfl ?_
  by_cases hb1 : p1 < 0
  · rw [if_pos hb1] at h
    refine sx_if_lt (tgt := 16) k158_1 (by decide) (fun _ => ?_) (fun q => absurd hb1 q)
    refine sx_iconst (v := 0) k158_16 (by decide) ?_
    exact cx_retz k158_17 rt_158 h
  · rw [if_neg hb1] at h
    refine sx_if_lt (tgt := 16) k158_1 (by decide) (fun q => absurd q hb1) (fun _ => ?_)
    refine sx_iload_n (i := 1) k158_4 rfl rfl ?_
    refine sx_aload_n (i := 0) k158_5 rfl rfl ?_
    refine cx_getI (k := 5) k158_6 ow_158 fl_8_32 (by decide) h0 ft_7_5 ?_
    by_cases hb2 : (μ.1 a0 5) ≤ p1
    · rw [if_pos hb2] at h
      refine sx_icmp_ge (tgt := 16) k158_9 (by decide) (fun _ => ?_) (fun q => absurd hb2 q)
      refine sx_iconst (v := 0) k158_16 (by decide) ?_
      exact cx_retz k158_17 rt_158 h
    · rw [if_neg hb2] at h
      refine sx_icmp_ge (tgt := 16) k158_9 (by decide) (fun q => absurd q hb2) (fun _ => ?_)
      refine sx_iconst (v := 1) k158_12 (by decide) ?_
      refine sx_goto (tgt := 17) k158_13 (by decide) ?_
      exact cx_retz k158_17 rt_158 h
theorem k162_0 : decode (gb 162) 0 = .ok (.aload_n 0, 1) := by decide +kernel
theorem k162_1 : decode (gb 162) 1 = .ok (.iload_n 1, 1) := by decide +kernel
theorem k162_2 : decode (gb 162) 2 = .ok (.invokevirtual 54, 3) := by decide +kernel
theorem k162_5 : decode (gb 162) 5 = .ok (.ifCond .ne 4, 3) := by decide +kernel
theorem k162_8 : decode (gb 162) 8 = .ok (.return_, 1) := by decide +kernel
theorem k162_9 : decode (gb 162) 9 = .ok (.aload_n 0, 1) := by decide +kernel
theorem k162_10 : decode (gb 162) 10 = .ok (.getfield 23, 3) := by decide +kernel
theorem k162_13 : decode (gb 162) 13 = .ok (.iload_n 1, 1) := by decide +kernel
theorem k162_14 : decode (gb 162) 14 = .ok (.iaload, 1) := by decide +kernel
theorem k162_15 : decode (gb 162) 15 = .ok (.istore_n 2, 1) := by decide +kernel
theorem k162_16 : decode (gb 162) 16 = .ok (.aload_n 0, 1) := by decide +kernel
theorem k162_17 : decode (gb 162) 17 = .ok (.getfield 19, 3) := by decide +kernel
theorem k162_20 : decode (gb 162) 20 = .ok (.iload_n 1, 1) := by decide +kernel
theorem k162_21 : decode (gb 162) 21 = .ok (.iaload, 1) := by decide +kernel
theorem k162_22 : decode (gb 162) 22 = .ok (.iload_n 2, 1) := by decide +kernel
theorem k162_23 : decode (gb 162) 23 = .ok (.iadd, 1) := by decide +kernel
theorem k162_24 : decode (gb 162) 24 = .ok (.istore_n 3, 1) := by decide +kernel
theorem k162_25 : decode (gb 162) 25 = .ok (.aload_n 0, 1) := by decide +kernel
theorem k162_26 : decode (gb 162) 26 = .ok (.getfield 13, 3) := by decide +kernel
theorem k162_29 : decode (gb 162) 29 = .ok (.iload_n 3, 1) := by decide +kernel
theorem k162_30 : decode (gb 162) 30 = .ok (.aload_n 0, 1) := by decide +kernel
theorem k162_31 : decode (gb 162) 31 = .ok (.getfield 13, 3) := by decide +kernel
theorem k162_34 : decode (gb 162) 34 = .ok (.aload_n 0, 1) := by decide +kernel
theorem k162_35 : decode (gb 162) 35 = .ok (.getfield 19, 3) := by decide +kernel
theorem k162_38 : decode (gb 162) 38 = .ok (.iload_n 1, 1) := by decide +kernel
theorem k162_39 : decode (gb 162) 39 = .ok (.iaload, 1) := by decide +kernel
theorem k162_40 : decode (gb 162) 40 = .ok (.aload_n 0, 1) := by decide +kernel
theorem k162_41 : decode (gb 162) 41 = .ok (.getfield 36, 3) := by decide +kernel
theorem k162_44 : decode (gb 162) 44 = .ok (.iload_n 3, 1) := by decide +kernel
theorem k162_45 : decode (gb 162) 45 = .ok (.isub, 1) := by decide +kernel
theorem k162_46 : decode (gb 162) 46 = .ok (.invokestatic 48, 3) := by decide +kernel
theorem k162_49 : decode (gb 162) 49 = .ok (.aload_n 0, 1) := by decide +kernel
theorem k162_50 : decode (gb 162) 50 = .ok (.dup, 1) := by decide +kernel
theorem k162_51 : decode (gb 162) 51 = .ok (.getfield 36, 3) := by decide +kernel
theorem k162_54 : decode (gb 162) 54 = .ok (.iload_n 2, 1) := by decide +kernel
theorem k162_55 : decode (gb 162) 55 = .ok (.isub, 1) := by decide +kernel
theorem k162_56 : decode (gb 162) 56 = .ok (.putfield 36, 3) := by decide +kernel
theorem k162_59 : decode (gb 162) 59 = .ok (.aload_n 0, 1) := by decide +kernel
theorem k162_60 : decode (gb 162) 60 = .ok (.dup, 1) := by decide +kernel
theorem k162_61 : decode (gb 162) 61 = .ok (.getfield 32, 3) := by decide +kernel
theorem k162_64 : decode (gb 162) 64 = .ok (.iconst 1, 1) := by decide +kernel
theorem k162_65 : decode (gb 162) 65 = .ok (.isub, 1) := by decide +kernel
theorem k162_66 : decode (gb 162) 66 = .ok (.putfield 32, 3) := by decide +kernel
theorem k162_69 : decode (gb 162) 69 = .ok (.iload_n 1, 1) := by decide +kernel
theorem k162_70 : decode (gb 162) 70 = .ok (.istore 4, 2) := by decide +kernel
theorem k162_72 : decode (gb 162) 72 = .ok (.iload 4, 2) := by decide +kernel
theorem k162_74 : decode (gb 162) 74 = .ok (.aload_n 0, 1) := by decide +kernel
theorem k162_75 : decode (gb 162) 75 = .ok (.getfield 32, 3) := by decide +kernel
theorem k162_78 : decode (gb 162) 78 = .ok (.if_icmp .ge 75, 3) := by decide +kernel
theorem k162_81 : decode (gb 162) 81 = .ok (.aload_n 0, 1) := by decide +kernel
theorem k162_82 : decode (gb 162) 82 = .ok (.getfield 19, 3) := by decide +kernel
theorem k162_85 : decode (gb 162) 85 = .ok (.iload 4, 2) := by decide +kernel
theorem k162_87 : decode (gb 162) 87 = .ok (.aload_n 0, 1) := by decide +kernel
theorem k162_88 : decode (gb 162) 88 = .ok (.getfield 19, 3) := by decide +kernel
theorem k162_91 : decode (gb 162) 91 = .ok (.iload 4, 2) := by decide +kernel
theorem k162_93 : decode (gb 162) 93 = .ok (.iconst 1, 1) := by decide +kernel
theorem k162_94 : decode (gb 162) 94 = .ok (.iadd, 1) := by decide +kernel
theorem k162_95 : decode (gb 162) 95 = .ok (.iaload, 1) := by decide +kernel
theorem k162_96 : decode (gb 162) 96 = .ok (.iload_n 2, 1) := by decide +kernel
theorem k162_97 : decode (gb 162) 97 = .ok (.isub, 1) := by decide +kernel
theorem k162_98 : decode (gb 162) 98 = .ok (.iastore, 1) := by decide +kernel
theorem k162_99 : decode (gb 162) 99 = .ok (.aload_n 0, 1) := by decide +kernel
theorem k162_100 : decode (gb 162) 100 = .ok (.getfield 23, 3) := by decide +kernel
theorem k162_103 : decode (gb 162) 103 = .ok (.iload 4, 2) := by decide +kernel
theorem k162_105 : decode (gb 162) 105 = .ok (.aload_n 0, 1) := by decide +kernel
theorem k162_106 : decode (gb 162) 106 = .ok (.getfield 23, 3) := by decide +kernel
theorem k162_109 : decode (gb 162) 109 = .ok (.iload 4, 2) := by decide +kernel
theorem k162_111 : decode (gb 162) 111 = .ok (.iconst 1, 1) := by decide +kernel
theorem k162_112 : decode (gb 162) 112 = .ok (.iadd, 1) := by decide +kernel
theorem k162_113 : decode (gb 162) 113 = .ok (.iaload, 1) := by decide +kernel
theorem k162_114 : decode (gb 162) 114 = .ok (.iastore, 1) := by decide +kernel
theorem k162_115 : decode (gb 162) 115 = .ok (.aload_n 0, 1) := by decide +kernel
theorem k162_116 : decode (gb 162) 116 = .ok (.getfield 26, 3) := by decide +kernel
theorem k162_119 : decode (gb 162) 119 = .ok (.iload 4, 2) := by decide +kernel
theorem k162_121 : decode (gb 162) 121 = .ok (.aload_n 0, 1) := by decide +kernel
theorem k162_122 : decode (gb 162) 122 = .ok (.getfield 26, 3) := by decide +kernel
theorem k162_125 : decode (gb 162) 125 = .ok (.iload 4, 2) := by decide +kernel
theorem k162_127 : decode (gb 162) 127 = .ok (.iconst 1, 1) := by decide +kernel
theorem k162_128 : decode (gb 162) 128 = .ok (.iadd, 1) := by decide +kernel
theorem k162_129 : decode (gb 162) 129 = .ok (.iaload, 1) := by decide +kernel
theorem k162_130 : decode (gb 162) 130 = .ok (.iastore, 1) := by decide +kernel
theorem k162_131 : decode (gb 162) 131 = .ok (.aload_n 0, 1) := by decide +kernel
theorem k162_132 : decode (gb 162) 132 = .ok (.getfield 29, 3) := by decide +kernel
theorem k162_135 : decode (gb 162) 135 = .ok (.iload 4, 2) := by decide +kernel
theorem k162_137 : decode (gb 162) 137 = .ok (.aload_n 0, 1) := by decide +kernel
theorem k162_138 : decode (gb 162) 138 = .ok (.getfield 29, 3) := by decide +kernel
theorem k162_141 : decode (gb 162) 141 = .ok (.iload 4, 2) := by decide +kernel
theorem k162_143 : decode (gb 162) 143 = .ok (.iconst 1, 1) := by decide +kernel
theorem k162_144 : decode (gb 162) 144 = .ok (.iadd, 1) := by decide +kernel
theorem k162_145 : decode (gb 162) 145 = .ok (.iaload, 1) := by decide +kernel
theorem k162_146 : decode (gb 162) 146 = .ok (.iastore, 1) := by decide +kernel
theorem k162_147 : decode (gb 162) 147 = .ok (.iinc 4 1, 3) := by decide +kernel
theorem k162_150 : decode (gb 162) 150 = .ok (.goto (-78), 3) := by decide +kernel
theorem k162_153 : decode (gb 162) 153 = .ok (.return_, 1) := by decide +kernel
def b162_72 (a0 : Nat) (kl72 : Int32 → Int32 → Mem → Option (Mem)) (v2 : Int32) (v4 : Int32) (μ : Mem) : Option (Mem) :=
  if (μ.1 a0 5) ≤ v4 then
    some μ
  else
    (ldA (a0 + 2) (v4 + (1 : Int32)) μ).bind fun x2 =>
    (stA (a0 + 2) v4 (x2 - v2) μ).bind fun m4 =>
    (ldA (a0 + 3) (v4 + (1 : Int32)) m4).bind fun x6 =>
    (stA (a0 + 3) v4 x6 m4).bind fun m8 =>
    (ldA (a0 + 4) (v4 + (1 : Int32)) m8).bind fun x10 =>
    (stA (a0 + 4) v4 x10 m8).bind fun m12 =>
    (ldA (a0 + 5) (v4 + (1 : Int32)) m12).bind fun x14 =>
    (stA (a0 + 5) v4 x14 m12).bind fun m16 =>
    nm (v4 + (1 : Int32)) fun x18 =>
    kl72 v2 x18 m16
theorem b162_72_ok {L : Nat} (a0 : Nat) (h0 : SK0 a0 = (0, 7)) (kl72 : Int32 → Int32 → Mem → Option (Mem)) (hk72 : (∀ (v2 : Int32) (v4 : Int32) (μ : Mem) (res : Mem), kl72 v2 v4 μ = some res → Sx 162 72 [(0, .ref a0), (2, .int v2), (4, .int v4)] [] 0 0 (mk L μ) (mk L res, none))) (v2 : Int32) (v4 : Int32) (μ : Mem) (res : Mem) (h : b162_72 a0 kl72 v2 v4 μ = some res) : Sx 162 72 [(0, .ref a0), (2, .int v2), (4, .int v4)] [] 0 0 (mk L μ) (mk L res, none) := by
  unfold b162_72 at h
  refine sx_iload k162_72 rfl ?_
  refine sx_aload_n (i := 0) k162_74 rfl rfl ?_
  refine cx_getI (k := 5) k162_75 ow_162 fl_8_32 (by decide) h0 ft_7_5 ?_
  by_cases hb1 : (μ.1 a0 5) ≤ v4
  · rw [if_pos hb1] at h
    refine sx_icmp_ge (tgt := 153) k162_78 (by decide) (fun _ => ?_) (fun q => absurd hb1 q)
    exact cx_retv k162_153 rt_162 h
  · rw [if_neg hb1] at h
    refine sx_icmp_ge (tgt := 153) k162_78 (by decide) (fun q => absurd q hb1) (fun _ => ?_)
    refine sx_aload_n (i := 0) k162_81 rfl rfl ?_
    refine cx_getR (k := 1) k162_82 ow_162 fl_8_19 (by decide) h0 ft_7_1 (kf_7_1 h0).1 ?_
    refine sx_iload k162_85 rfl ?_
    refine sx_aload_n (i := 0) k162_87 rfl rfl ?_
    refine cx_getR (k := 1) k162_88 ow_162 fl_8_19 (by decide) h0 ft_7_1 (kf_7_1 h0).1 ?_
    refine sx_iload k162_91 rfl ?_
    refine sx_iconst (v := 1) k162_93 (by decide) ?_
    refine sx_iadd k162_94 ?_
    obtain ⟨x2, e3, h⟩ := Option.bind_eq_some_iff.mp h
    refine cx_iald k162_95 (kf_7_1 h0).2 e3 ?_
    refine sx_iload_n (i := 2) k162_96 rfl rfl ?_
    refine sx_isub k162_97 ?_
    obtain ⟨m4, e5, h⟩ := Option.bind_eq_some_iff.mp h
    refine cx_iast k162_98 (kf_7_1 h0).2 e5 ?_
    refine sx_aload_n (i := 0) k162_99 rfl rfl ?_
    refine cx_getR (k := 2) k162_100 ow_162 fl_8_23 (by decide) h0 ft_7_2 (kf_7_2 h0).1 ?_
    refine sx_iload k162_103 rfl ?_
    refine sx_aload_n (i := 0) k162_105 rfl rfl ?_
    refine cx_getR (k := 2) k162_106 ow_162 fl_8_23 (by decide) h0 ft_7_2 (kf_7_2 h0).1 ?_
    refine sx_iload k162_109 rfl ?_
    refine sx_iconst (v := 1) k162_111 (by decide) ?_
    refine sx_iadd k162_112 ?_
    obtain ⟨x6, e7, h⟩ := Option.bind_eq_some_iff.mp h
    refine cx_iald k162_113 (kf_7_2 h0).2 e7 ?_
    obtain ⟨m8, e9, h⟩ := Option.bind_eq_some_iff.mp h
    refine cx_iast k162_114 (kf_7_2 h0).2 e9 ?_
    refine sx_aload_n (i := 0) k162_115 rfl rfl ?_
    refine cx_getR (k := 3) k162_116 ow_162 fl_8_26 (by decide) h0 ft_7_3 (kf_7_3 h0).1 ?_
    refine sx_iload k162_119 rfl ?_
    refine sx_aload_n (i := 0) k162_121 rfl rfl ?_
    refine cx_getR (k := 3) k162_122 ow_162 fl_8_26 (by decide) h0 ft_7_3 (kf_7_3 h0).1 ?_
    refine sx_iload k162_125 rfl ?_
    refine sx_iconst (v := 1) k162_127 (by decide) ?_
    refine sx_iadd k162_128 ?_
    obtain ⟨x10, e11, h⟩ := Option.bind_eq_some_iff.mp h
    refine cx_iald k162_129 (kf_7_3 h0).2 e11 ?_
    obtain ⟨m12, e13, h⟩ := Option.bind_eq_some_iff.mp h
    refine cx_iast k162_130 (kf_7_3 h0).2 e13 ?_
    refine sx_aload_n (i := 0) k162_131 rfl rfl ?_
    refine cx_getR (k := 4) k162_132 ow_162 fl_8_29 (by decide) h0 ft_7_4 (kf_7_4 h0).1 ?_
    refine sx_iload k162_135 rfl ?_
    refine sx_aload_n (i := 0) k162_137 rfl rfl ?_
    refine cx_getR (k := 4) k162_138 ow_162 fl_8_29 (by decide) h0 ft_7_4 (kf_7_4 h0).1 ?_
    refine sx_iload k162_141 rfl ?_
    refine sx_iconst (v := 1) k162_143 (by decide) ?_
    refine sx_iadd k162_144 ?_
    obtain ⟨x14, e15, h⟩ := Option.bind_eq_some_iff.mp h
    refine cx_iald k162_145 (kf_7_4 h0).2 e15 ?_
    obtain ⟨m16, e17, h⟩ := Option.bind_eq_some_iff.mp h
    refine cx_iast k162_146 (kf_7_4 h0).2 e17 ?_
    refine cx_iinc (c := 1) (lo2 := fun x18 => [(4, .int x18), (0, .ref a0), (2, .int v2)]) k162_147 rfl (by decide) (by rw [mx_162]; decide) (fun _ => rfl) h (fun x18 h => ?_)
    refine sx_goto (tgt := 72) k162_150 (by decide) ?_
    refine sx_pick (lo2 := [(0, .ref a0), (2, .int v2), (4, .int x18)]) [1, 2, 0] rfl ?_
    exact hk72 v2 x18 _ _ h
def l162_72 (a0 : Nat) : Nat → Int32 × Int32 × Mem → Option (Mem) :=
  fixN (fun self x => b162_72 a0 (fun v2 v4 μ => self (v2, v4, μ)) (x.1) (x.2.1) (x.2.2))
theorem l162_72_ok {L : Nat} (a0 : Nat) (h0 : SK0 a0 = (0, 7)) (n : Nat) (v2 : Int32) (v4 : Int32) (μ : Mem) (res : Mem) (h : l162_72 a0 n (v2, v4, μ) = some res) : Sx 162 72 [(0, .ref a0), (2, .int v2), (4, .int v4)] [] 0 0 (mk L μ) (mk L res, none) := by
  have key := fixN_ind (P := fun x res => Sx 162 72 [(0, .ref a0), (2, .int (x.1)), (4, .int (x.2.1))] [] 0 0 (mk L (x.2.2)) (mk L res, none)) (F := fun self x => b162_72 a0 (fun v2 v4 μ => self (v2, v4, μ)) (x.1) (x.2.1) (x.2.2)) (fun self hself x res h => b162_72_ok a0 h0 (fun v2 v4 μ => self (v2, v4, μ)) (fun v2 v4 μ res hh => hself (v2, v4, μ) res hh) (x.1) (x.2.1) (x.2.2) res h) n (v2, v4, μ) res h
  exact key
/-- Shelf.remove(I)V -/
def f162 (a0 : Nat) (p1 : Int32) (μ : Mem) : Option (Mem) :=
  (f158 a0 p1 μ).bind fun r1 =>
  if r1.2 = 0 then
    some r1.1
  else
    (ldA (a0 + 3) p1 r1.1).bind fun x4 =>
    (ldA (a0 + 2) p1 r1.1).bind fun x6 =>
    nm (x6 + x4) fun x8 =>
    (ldA (a0 + 2) p1 r1.1).bind fun x9 =>
    (acp (a0 + 1) x8 (a0 + 1) x9 ((r1.1.1 a0 6) - x8) r1.1).bind fun m11 =>
    (pfI a0 6 ((m11.1 a0 6) - x4) m11).bind fun m13 =>
    (pfI a0 5 ((m13.1 a0 5) - (1 : Int32)) m13).bind fun m15 =>
    l162_72 a0 gF (x4, p1, m15)
theorem ok162 {L : Nat} (a0 : Nat) (p1 : Int32) (h0 : SK0 a0 = (0, 7)) (μ : Mem) (res : Mem) (h : f162 a0 p1 μ = some res) : Mx 162 [.ref a0, .int p1] (mk L μ) (mk L res, none) := by
  refine Mx_of ml_162 (by rw [mx_162]; exact Nat.le_of_ble_eq_true rfl) ?_
  show Sx 162 0 [(0, .ref a0), (1, .int p1)] [] 0 0 (mk L μ) _
  unfold f162 at h
  refine sx_aload_n (i := 0) k162_0 rfl rfl ?_
  refine sx_iload_n (i := 1) k162_1 rfl rfl ?_
  obtain ⟨r1, e2, h⟩ := Option.bind_eq_some_iff.mp h
  refine cx_V (sk := []) (vs := [.int p1]) st_162_158 k162_2 ow_162 cl_8_54 (by decide) rfl (Nat.le_of_ble_eq_true rfl) h0 (ok158 a0 p1 h0 _ _ e2) (sk3 := [.int r1.2]) rfl rfl ?_
  by_cases hb3 : r1.2 = 0
  · rw [if_pos hb3] at h
    refine sx_if_ne (tgt := 9) k162_5 (by decide) (fun q => absurd hb3 q) (fun _ => ?_)
    exact cx_retv k162_8 rt_162 h
  · rw [if_neg hb3] at h
    refine sx_if_ne (tgt := 9) k162_5 (by decide) (fun _ => ?_) (fun q => absurd q hb3)
    refine sx_aload_n (i := 0) k162_9 rfl rfl ?_
    refine cx_getR (k := 2) k162_10 ow_162 fl_8_23 (by decide) h0 ft_7_2 (kf_7_2 h0).1 ?_
    refine sx_iload_n (i := 1) k162_13 rfl rfl ?_
    obtain ⟨x4, e5, h⟩ := Option.bind_eq_some_iff.mp h
    refine cx_iald k162_14 (kf_7_2 h0).2 e5 ?_
    refine cx_istore_n (lo2 := [(2, .int x4), (0, .ref a0), (1, .int p1)]) k162_15 rfl (by rw [mx_162]; decide) rfl ?_
    refine sx_aload_n (i := 0) k162_16 rfl rfl ?_
    refine cx_getR (k := 1) k162_17 ow_162 fl_8_19 (by decide) h0 ft_7_1 (kf_7_1 h0).1 ?_
    refine sx_iload_n (i := 1) k162_20 rfl rfl ?_
    obtain ⟨x6, e7, h⟩ := Option.bind_eq_some_iff.mp h
    refine cx_iald k162_21 (kf_7_1 h0).2 e7 ?_
    refine sx_iload_n (i := 2) k162_22 rfl rfl ?_
    refine sx_iadd k162_23 ?_
    refine cx_nm h (fun x8 h => ?_)
    refine cx_istore_n (lo2 := [(3, .int x8), (2, .int x4), (0, .ref a0), (1, .int p1)]) k162_24 rfl (by rw [mx_162]; decide) rfl ?_
    refine sx_aload_n (i := 0) k162_25 rfl rfl ?_
    refine cx_getR (k := 0) k162_26 ow_162 fl_8_13 (by decide) h0 ft_7_0 (kf_7_0 h0).1 ?_
    refine sx_iload_n (i := 3) k162_29 rfl rfl ?_
    refine sx_aload_n (i := 0) k162_30 rfl rfl ?_
    refine cx_getR (k := 0) k162_31 ow_162 fl_8_13 (by decide) h0 ft_7_0 (kf_7_0 h0).1 ?_
    refine sx_aload_n (i := 0) k162_34 rfl rfl ?_
    refine cx_getR (k := 1) k162_35 ow_162 fl_8_19 (by decide) h0 ft_7_1 (kf_7_1 h0).1 ?_
    refine sx_iload_n (i := 1) k162_38 rfl rfl ?_
    obtain ⟨x9, e10, h⟩ := Option.bind_eq_some_iff.mp h
    refine cx_iald k162_39 (kf_7_1 h0).2 e10 ?_
    refine sx_aload_n (i := 0) k162_40 rfl rfl ?_
    refine cx_getI (k := 6) k162_41 ow_162 fl_8_36 (by decide) h0 ft_7_6 ?_
    refine sx_iload_n (i := 3) k162_44 rfl rfl ?_
    refine sx_isub k162_45 ?_
    obtain ⟨m11, e12, h⟩ := Option.bind_eq_some_iff.mp h
    refine cx_acopy k162_46 ow_162 pl_8_48 (by decide) (kf_7_0 h0).2 (kf_7_0 h0).2 e12 (by decide +kernel) (Nat.le_of_ble_eq_true rfl) ?_
    refine sx_aload_n (i := 0) k162_49 rfl rfl ?_
    refine sx_dup k162_50 rfl ?_
    refine cx_getI (k := 6) k162_51 ow_162 fl_8_36 (by decide) h0 ft_7_6 ?_
    refine sx_iload_n (i := 2) k162_54 rfl rfl ?_
    refine sx_isub k162_55 ?_
    obtain ⟨m13, e14, h⟩ := Option.bind_eq_some_iff.mp h
    refine cx_putI (k := 6) k162_56 ow_162 fl_8_36 (by decide) h0 nf_7_6 fu_7_6 e14 ?_
    refine sx_aload_n (i := 0) k162_59 rfl rfl ?_
    refine sx_dup k162_60 rfl ?_
    refine cx_getI (k := 5) k162_61 ow_162 fl_8_32 (by decide) h0 ft_7_5 ?_
    refine sx_iconst (v := 1) k162_64 (by decide) ?_
    refine sx_isub k162_65 ?_
    obtain ⟨m15, e16, h⟩ := Option.bind_eq_some_iff.mp h
    refine cx_putI (k := 5) k162_66 ow_162 fl_8_32 (by decide) h0 nf_7_5 fu_7_5 e16 ?_
    refine sx_iload_n (i := 1) k162_69 rfl rfl ?_
    refine cx_istore (lo2 := [(4, .int p1), (3, .int x8), (2, .int x4), (0, .ref a0), (1, .int p1)]) k162_70 (by rw [mx_162]; decide) rfl ?_
    refine sx_pick (lo2 := [(0, .ref a0), (2, .int x4), (4, .int p1)]) [3, 2, 0] rfl ?_
    exact l162_72_ok a0 h0 gF x4 p1 _ _ h
theorem k161_0 : decode (gb 161) 0 = .ok (.iload_n 3, 1) := by decide +kernel
theorem k161_1 : decode (gb 161) 1 = .ok (.ifCond .lt 25, 3) := by decide +kernel
theorem k161_4 : decode (gb 161) 4 = .ok (.iload_n 2, 1) := by decide +kernel
theorem k161_5 : decode (gb 161) 5 = .ok (.ifCond .lt 21, 3) := by decide +kernel
theorem k161_8 : decode (gb 161) 8 = .ok (.iload_n 2, 1) := by decide +kernel
theorem k161_9 : decode (gb 161) 9 = .ok (.aload_n 1, 1) := by decide +kernel
theorem k161_10 : decode (gb 161) 10 = .ok (.getfield 39, 3) := by decide +kernel
theorem k161_13 : decode (gb 161) 13 = .ok (.iload_n 3, 1) := by decide +kernel
theorem k161_14 : decode (gb 161) 14 = .ok (.isub, 1) := by decide +kernel
theorem k161_15 : decode (gb 161) 15 = .ok (.if_icmp .gt 11, 3) := by decide +kernel
theorem k161_18 : decode (gb 161) 18 = .ok (.aload_n 0, 1) := by decide +kernel
theorem k161_19 : decode (gb 161) 19 = .ok (.iload_n 3, 1) := by decide +kernel
theorem k161_20 : decode (gb 161) 20 = .ok (.invokevirtual 43, 3) := by decide +kernel
theorem k161_23 : decode (gb 161) 23 = .ok (.ifCond .ne 5, 3) := by decide +kernel
theorem k161_26 : decode (gb 161) 26 = .ok (.iconst 0, 1) := by decide +kernel
theorem k161_27 : decode (gb 161) 27 = .ok (.ireturn, 1) := by decide +kernel
theorem k161_28 : decode (gb 161) 28 = .ok (.aload_n 1, 1) := by decide +kernel
theorem k161_29 : decode (gb 161) 29 = .ok (.getfield 47, 3) := by decide +kernel
theorem k161_32 : decode (gb 161) 32 = .ok (.iload_n 2, 1) := by decide +kernel
theorem k161_33 : decode (gb 161) 33 = .ok (.aload_n 0, 1) := by decide +kernel
theorem k161_34 : decode (gb 161) 34 = .ok (.getfield 13, 3) := by decide +kernel
theorem k161_37 : decode (gb 161) 37 = .ok (.aload_n 0, 1) := by decide +kernel
theorem k161_38 : decode (gb 161) 38 = .ok (.getfield 36, 3) := by decide +kernel
theorem k161_41 : decode (gb 161) 41 = .ok (.iload_n 3, 1) := by decide +kernel
theorem k161_42 : decode (gb 161) 42 = .ok (.invokestatic 48, 3) := by decide +kernel
theorem k161_45 : decode (gb 161) 45 = .ok (.aload_n 0, 1) := by decide +kernel
theorem k161_46 : decode (gb 161) 46 = .ok (.getfield 19, 3) := by decide +kernel
theorem k161_49 : decode (gb 161) 49 = .ok (.aload_n 0, 1) := by decide +kernel
theorem k161_50 : decode (gb 161) 50 = .ok (.getfield 32, 3) := by decide +kernel
theorem k161_53 : decode (gb 161) 53 = .ok (.aload_n 0, 1) := by decide +kernel
theorem k161_54 : decode (gb 161) 54 = .ok (.getfield 36, 3) := by decide +kernel
theorem k161_57 : decode (gb 161) 57 = .ok (.iastore, 1) := by decide +kernel
theorem k161_58 : decode (gb 161) 58 = .ok (.aload_n 0, 1) := by decide +kernel
theorem k161_59 : decode (gb 161) 59 = .ok (.getfield 23, 3) := by decide +kernel
theorem k161_62 : decode (gb 161) 62 = .ok (.aload_n 0, 1) := by decide +kernel
theorem k161_63 : decode (gb 161) 63 = .ok (.getfield 32, 3) := by decide +kernel
theorem k161_66 : decode (gb 161) 66 = .ok (.iload_n 3, 1) := by decide +kernel
theorem k161_67 : decode (gb 161) 67 = .ok (.iastore, 1) := by decide +kernel
theorem k161_68 : decode (gb 161) 68 = .ok (.aload_n 0, 1) := by decide +kernel
theorem k161_69 : decode (gb 161) 69 = .ok (.getfield 26, 3) := by decide +kernel
theorem k161_72 : decode (gb 161) 72 = .ok (.aload_n 0, 1) := by decide +kernel
theorem k161_73 : decode (gb 161) 73 = .ok (.getfield 32, 3) := by decide +kernel
theorem k161_76 : decode (gb 161) 76 = .ok (.iload 4, 2) := by decide +kernel
theorem k161_78 : decode (gb 161) 78 = .ok (.iastore, 1) := by decide +kernel
theorem k161_79 : decode (gb 161) 79 = .ok (.aload_n 0, 1) := by decide +kernel
theorem k161_80 : decode (gb 161) 80 = .ok (.getfield 29, 3) := by decide +kernel
theorem k161_83 : decode (gb 161) 83 = .ok (.aload_n 0, 1) := by decide +kernel
theorem k161_84 : decode (gb 161) 84 = .ok (.getfield 32, 3) := by decide +kernel
theorem k161_87 : decode (gb 161) 87 = .ok (.iload 5, 2) := by decide +kernel
theorem k161_89 : decode (gb 161) 89 = .ok (.iastore, 1) := by decide +kernel
theorem k161_90 : decode (gb 161) 90 = .ok (.aload_n 0, 1) := by decide +kernel
theorem k161_91 : decode (gb 161) 91 = .ok (.dup, 1) := by decide +kernel
theorem k161_92 : decode (gb 161) 92 = .ok (.getfield 32, 3) := by decide +kernel
theorem k161_95 : decode (gb 161) 95 = .ok (.iconst 1, 1) := by decide +kernel
theorem k161_96 : decode (gb 161) 96 = .ok (.iadd, 1) := by decide +kernel
theorem k161_97 : decode (gb 161) 97 = .ok (.putfield 32, 3) := by decide +kernel
theorem k161_100 : decode (gb 161) 100 = .ok (.aload_n 0, 1) := by decide +kernel
theorem k161_101 : decode (gb 161) 101 = .ok (.dup, 1) := by decide +kernel
theorem k161_102 : decode (gb 161) 102 = .ok (.getfield 36, 3) := by decide +kernel
theorem k161_105 : decode (gb 161) 105 = .ok (.iload_n 3, 1) := by decide +kernel
theorem k161_106 : decode (gb 161) 106 = .ok (.iadd, 1) := by decide +kernel
theorem k161_107 : decode (gb 161) 107 = .ok (.putfield 36, 3) := by decide +kernel
theorem k161_110 : decode (gb 161) 110 = .ok (.iconst 1, 1) := by decide +kernel
theorem k161_111 : decode (gb 161) 111 = .ok (.ireturn, 1) := by decide +kernel
/-- Shelf.add(LCraftHouse$Bytes;IIII)Z -/
def f161 (a0 : Nat) (p1 : Nat) (p2 : Int32) (p3 : Int32) (p4 : Int32) (p5 : Int32) (μ : Mem) : Option (Mem × Int32) :=
  if p3 < 0 then
    rtZ (0 : Int32) μ
  else
    if p2 < 0 then
      rtZ (0 : Int32) μ
    else
      if ((μ.1 p1 1) - p3) < p2 then
        rtZ (0 : Int32) μ
      else
        (f160 a0 p3 μ).bind fun r4 =>
        if r4.2 = 0 then
          rtZ (0 : Int32) r4.1
        else
          (acp (p1 + 1) p2 (a0 + 1) (r4.1.1 a0 6) p3 r4.1).bind fun m7 =>
          (stA (a0 + 2) (m7.1 a0 5) (m7.1 a0 6) m7).bind fun m9 =>
          (stA (a0 + 3) (m9.1 a0 5) p3 m9).bind fun m11 =>
          (stA (a0 + 4) (m11.1 a0 5) p4 m11).bind fun m13 =>
          (stA (a0 + 5) (m13.1 a0 5) p5 m13).bind fun m15 =>
          (pfI a0 5 ((m15.1 a0 5) + (1 : Int32)) m15).bind fun m17 =>
          (pfI a0 6 ((m17.1 a0 6) + p3) m17).bind fun m19 =>
          rtZ (1 : Int32) m19
theorem ok161 {L : Nat} (a0 : Nat) (p1 : Nat) (p2 : Int32) (p3 : Int32) (p4 : Int32) (p5 : Int32) (h0 : SK0 a0 = (0, 7)) (h1 : SK0 p1 = (0, 1)) (μ : Mem) (res : Mem × Int32) (h : f161 a0 p1 p2 p3 p4 p5 μ = some res) : Mx 161 [.ref a0, .ref p1, .int p2, .int p3, .int p4, .int p5] (mk L μ) (mk L res.1, some (.int res.2)) := by
  refine Mx_of ml_161 (by rw [mx_161]; exact Nat.le_of_ble_eq_true rfl) ?_
  show Sx 161 0 [(0, .ref a0), (1, .ref p1), (2, .int p2), (3, .int p3), (4, .int p4), (5, .int p5)] [] 0 0 (mk L μ) _
  unfold f161 at h
  refine sx_iload_n (i := 3) k161_0 rfl rfl ?_
  by_cases hb1 : p3 < 0
  · rw [if_pos hb1] at h
    refine sx_if_lt (tgt := 26) k161_1 (by decide) (fun _ => ?_) (fun q => absurd hb1 q)
    refine sx_iconst (v := 0) k161_26 (by decide) ?_
    exact cx_retz k161_27 rt_161 h
  · rw [if_neg hb1] at h
    refine sx_if_lt (tgt := 26) k161_1 (by decide) (fun q => absurd q hb1) (fun _ => ?_)
    refine sx_iload_n (i := 2) k161_4 rfl rfl ?_
    by_cases hb2 : p2 < 0
    · rw [if_pos hb2] at h
      refine sx_if_lt (tgt := 26) k161_5 (by decide) (fun _ => ?_) (fun q => absurd hb2 q)
      refine sx_iconst (v := 0) k161_26 (by decide) ?_
      exact cx_retz k161_27 rt_161 h
    · rw [if_neg hb2] at h
      refine sx_if_lt (tgt := 26) k161_5 (by decide) (fun q => absurd q hb2) (fun _ => ?_)
      refine sx_iload_n (i := 2) k161_8 rfl rfl ?_
      refine sx_aload_n (i := 1) k161_9 rfl rfl ?_
      refine cx_getI (k := 1) k161_10 ow_161 fl_8_39 (by decide) h1 ft_1_1 ?_
      refine sx_iload_n (i := 3) k161_13 rfl rfl ?_
      refine sx_isub k161_14 ?_
      by_cases hb3 : ((μ.1 p1 1) - p3) < p2
      · rw [if_pos hb3] at h
        refine sx_icmp_gt (tgt := 26) k161_15 (by decide) (fun _ => ?_) (fun q => absurd hb3 q)
        refine sx_iconst (v := 0) k161_26 (by decide) ?_
        exact cx_retz k161_27 rt_161 h
      · rw [if_neg hb3] at h
        refine sx_icmp_gt (tgt := 26) k161_15 (by decide) (fun q => absurd q hb3) (fun _ => ?_)
        refine sx_aload_n (i := 0) k161_18 rfl rfl ?_
        refine sx_iload_n (i := 3) k161_19 rfl rfl ?_
        obtain ⟨r4, e5, h⟩ := Option.bind_eq_some_iff.mp h
        refine cx_V (sk := []) (vs := [.int p3]) st_161_160 k161_20 ow_161 cl_8_43 (by decide) rfl (Nat.le_of_ble_eq_true rfl) h0 (ok160 a0 p3 h0 _ _ e5) (sk3 := [.int r4.2]) rfl rfl ?_
        by_cases hb6 : r4.2 = 0
        · rw [if_pos hb6] at h
          refine sx_if_ne (tgt := 28) k161_23 (by decide) (fun q => absurd hb6 q) (fun _ => ?_)
          refine sx_iconst (v := 0) k161_26 (by decide) ?_
          exact cx_retz k161_27 rt_161 h
        · rw [if_neg hb6] at h
          refine sx_if_ne (tgt := 28) k161_23 (by decide) (fun _ => ?_) (fun q => absurd q hb6)
          refine sx_aload_n (i := 1) k161_28 rfl rfl ?_
          refine cx_getR (k := 0) k161_29 ow_161 fl_8_47 (by decide) h1 ft_1_0 (kf_1_0 h1).1 ?_
          refine sx_iload_n (i := 2) k161_32 rfl rfl ?_
          refine sx_aload_n (i := 0) k161_33 rfl rfl ?_
          refine cx_getR (k := 0) k161_34 ow_161 fl_8_13 (by decide) h0 ft_7_0 (kf_7_0 h0).1 ?_
          refine sx_aload_n (i := 0) k161_37 rfl rfl ?_
          refine cx_getI (k := 6) k161_38 ow_161 fl_8_36 (by decide) h0 ft_7_6 ?_
          refine sx_iload_n (i := 3) k161_41 rfl rfl ?_
          obtain ⟨m7, e8, h⟩ := Option.bind_eq_some_iff.mp h
          refine cx_acopy k161_42 ow_161 pl_8_48 (by decide) (kf_1_0 h1).2 (kf_7_0 h0).2 e8 (by decide +kernel) (Nat.le_of_ble_eq_true rfl) ?_
          refine sx_aload_n (i := 0) k161_45 rfl rfl ?_
          refine cx_getR (k := 1) k161_46 ow_161 fl_8_19 (by decide) h0 ft_7_1 (kf_7_1 h0).1 ?_
          refine sx_aload_n (i := 0) k161_49 rfl rfl ?_
          refine cx_getI (k := 5) k161_50 ow_161 fl_8_32 (by decide) h0 ft_7_5 ?_
          refine sx_aload_n (i := 0) k161_53 rfl rfl ?_
          refine cx_getI (k := 6) k161_54 ow_161 fl_8_36 (by decide) h0 ft_7_6 ?_
          obtain ⟨m9, e10, h⟩ := Option.bind_eq_some_iff.mp h
          refine cx_iast k161_57 (kf_7_1 h0).2 e10 ?_
          refine sx_aload_n (i := 0) k161_58 rfl rfl ?_
          refine cx_getR (k := 2) k161_59 ow_161 fl_8_23 (by decide) h0 ft_7_2 (kf_7_2 h0).1 ?_
          refine sx_aload_n (i := 0) k161_62 rfl rfl ?_
          refine cx_getI (k := 5) k161_63 ow_161 fl_8_32 (by decide) h0 ft_7_5 ?_
          refine sx_iload_n (i := 3) k161_66 rfl rfl ?_
          obtain ⟨m11, e12, h⟩ := Option.bind_eq_some_iff.mp h
          refine cx_iast k161_67 (kf_7_2 h0).2 e12 ?_
          refine sx_aload_n (i := 0) k161_68 rfl rfl ?_
          refine cx_getR (k := 3) k161_69 ow_161 fl_8_26 (by decide) h0 ft_7_3 (kf_7_3 h0).1 ?_
          refine sx_aload_n (i := 0) k161_72 rfl rfl ?_
          refine cx_getI (k := 5) k161_73 ow_161 fl_8_32 (by decide) h0 ft_7_5 ?_
          refine sx_iload k161_76 rfl ?_
          obtain ⟨m13, e14, h⟩ := Option.bind_eq_some_iff.mp h
          refine cx_iast k161_78 (kf_7_3 h0).2 e14 ?_
          refine sx_aload_n (i := 0) k161_79 rfl rfl ?_
          refine cx_getR (k := 4) k161_80 ow_161 fl_8_29 (by decide) h0 ft_7_4 (kf_7_4 h0).1 ?_
          refine sx_aload_n (i := 0) k161_83 rfl rfl ?_
          refine cx_getI (k := 5) k161_84 ow_161 fl_8_32 (by decide) h0 ft_7_5 ?_
          refine sx_iload k161_87 rfl ?_
          obtain ⟨m15, e16, h⟩ := Option.bind_eq_some_iff.mp h
          refine cx_iast k161_89 (kf_7_4 h0).2 e16 ?_
          refine sx_aload_n (i := 0) k161_90 rfl rfl ?_
          refine sx_dup k161_91 rfl ?_
          refine cx_getI (k := 5) k161_92 ow_161 fl_8_32 (by decide) h0 ft_7_5 ?_
          refine sx_iconst (v := 1) k161_95 (by decide) ?_
          refine sx_iadd k161_96 ?_
          obtain ⟨m17, e18, h⟩ := Option.bind_eq_some_iff.mp h
          refine cx_putI (k := 5) k161_97 ow_161 fl_8_32 (by decide) h0 nf_7_5 fu_7_5 e18 ?_
          refine sx_aload_n (i := 0) k161_100 rfl rfl ?_
          refine sx_dup k161_101 rfl ?_
          refine cx_getI (k := 6) k161_102 ow_161 fl_8_36 (by decide) h0 ft_7_6 ?_
          refine sx_iload_n (i := 3) k161_105 rfl rfl ?_
          refine sx_iadd k161_106 ?_
          obtain ⟨m19, e20, h⟩ := Option.bind_eq_some_iff.mp h
          refine cx_putI (k := 6) k161_107 ow_161 fl_8_36 (by decide) h0 nf_7_6 fu_7_6 e20 ?_
          refine sx_iconst (v := 1) k161_110 (by decide) ?_
          exact cx_retz k161_111 rt_161 h
theorem k167_0 : decode (gb 167) 0 = .ok (.aload_n 0, 1) := by decide +kernel
theorem k167_1 : decode (gb 167) 1 = .ok (.iload_n 1, 1) := by decide +kernel
theorem k167_2 : decode (gb 167) 2 = .ok (.invokevirtual 54, 3) := by decide +kernel
theorem k167_5 : decode (gb 167) 5 = .ok (.ifCond .eq 12, 3) := by decide +kernel
theorem k167_8 : decode (gb 167) 8 = .ok (.aload_n 0, 1) := by decide +kernel
theorem k167_9 : decode (gb 167) 9 = .ok (.getfield 26, 3) := by decide +kernel
theorem k167_12 : decode (gb 167) 12 = .ok (.iload_n 1, 1) := by decide +kernel
theorem k167_13 : decode (gb 167) 13 = .ok (.iaload, 1) := by decide +kernel
theorem k167_14 : decode (gb 167) 14 = .ok (.goto 4, 3) := by decide +kernel
theorem k167_17 : decode (gb 167) 17 = .ok (.iconst 0, 1) := by decide +kernel
theorem k167_18 : decode (gb 167) 18 = .ok (.ireturn, 1) := by decide +kernel
/-- Shelf.tagOf(I)I -/
def f167 (a0 : Nat) (p1 : Int32) (μ : Mem) : Option (Mem × Int32) :=
  (f158 a0 p1 μ).bind fun r1 =>
  if r1.2 = 0 then
    some (r1.1, (0 : Int32))
  else
    (ldA (a0 + 4) p1 r1.1).bind fun x4 =>
    some (r1.1, x4)
theorem ok167 {L : Nat} (a0 : Nat) (p1 : Int32) (h0 : SK0 a0 = (0, 7)) (μ : Mem) (res : Mem × Int32) (h : f167 a0 p1 μ = some res) : Mx 167 [.ref a0, .int p1] (mk L μ) (mk L res.1, some (.int res.2)) := by
  refine Mx_of ml_167 (by rw [mx_167]; exact Nat.le_of_ble_eq_true rfl) ?_
  show Sx 167 0 [(0, .ref a0), (1, .int p1)] [] 0 0 (mk L μ) _
  unfold f167 at h
  refine sx_aload_n (i := 0) k167_0 rfl rfl ?_
  refine sx_iload_n (i := 1) k167_1 rfl rfl ?_
  obtain ⟨r1, e2, h⟩ := Option.bind_eq_some_iff.mp h
  refine cx_V (sk := []) (vs := [.int p1]) st_167_158 k167_2 ow_167 cl_8_54 (by decide) rfl (Nat.le_of_ble_eq_true rfl) h0 (ok158 a0 p1 h0 _ _ e2) (sk3 := [.int r1.2]) rfl rfl ?_
  by_cases hb3 : r1.2 = 0
  · rw [if_pos hb3] at h
    refine sx_if_eq (tgt := 17) k167_5 (by decide) (fun _ => ?_) (fun q => absurd hb3 q)
    refine sx_iconst (v := 0) k167_17 (by decide) ?_
    exact cx_reti k167_18 rt_167 h
  · rw [if_neg hb3] at h
    refine sx_if_eq (tgt := 17) k167_5 (by decide) (fun q => absurd q hb3) (fun _ => ?_)
    refine sx_aload_n (i := 0) k167_8 rfl rfl ?_
    refine cx_getR (k := 3) k167_9 ow_167 fl_8_26 (by decide) h0 ft_7_3 (kf_7_3 h0).1 ?_
    refine sx_iload_n (i := 1) k167_12 rfl rfl ?_
    obtain ⟨x4, e5, h⟩ := Option.bind_eq_some_iff.mp h
    refine cx_iald k167_13 (kf_7_3 h0).2 e5 ?_
    refine sx_goto (tgt := 18) k167_14 (by decide) ?_
    exact cx_reti k167_18 rt_167 h
theorem k164_0 : decode (gb 164) 0 = .ok (.aload_n 2, 1) := by decide +kernel
theorem k164_1 : decode (gb 164) 1 = .ok (.invokevirtual 57, 3) := by decide +kernel
theorem k164_4 : decode (gb 164) 4 = .ok (.aload_n 0, 1) := by decide +kernel
theorem k164_5 : decode (gb 164) 5 = .ok (.iload_n 1, 1) := by decide +kernel
theorem k164_6 : decode (gb 164) 6 = .ok (.invokevirtual 54, 3) := by decide +kernel
theorem k164_9 : decode (gb 164) 9 = .ok (.ifCond .eq 23, 3) := by decide +kernel
theorem k164_12 : decode (gb 164) 12 = .ok (.aload_n 2, 1) := by decide +kernel
theorem k164_13 : decode (gb 164) 13 = .ok (.aload_n 0, 1) := by decide +kernel
theorem k164_14 : decode (gb 164) 14 = .ok (.getfield 13, 3) := by decide +kernel
theorem k164_17 : decode (gb 164) 17 = .ok (.aload_n 0, 1) := by decide +kernel
theorem k164_18 : decode (gb 164) 18 = .ok (.getfield 19, 3) := by decide +kernel
theorem k164_21 : decode (gb 164) 21 = .ok (.iload_n 1, 1) := by decide +kernel
theorem k164_22 : decode (gb 164) 22 = .ok (.iaload, 1) := by decide +kernel
theorem k164_23 : decode (gb 164) 23 = .ok (.aload_n 0, 1) := by decide +kernel
theorem k164_24 : decode (gb 164) 24 = .ok (.getfield 23, 3) := by decide +kernel
theorem k164_27 : decode (gb 164) 27 = .ok (.iload_n 1, 1) := by decide +kernel
theorem k164_28 : decode (gb 164) 28 = .ok (.iaload, 1) := by decide +kernel
theorem k164_29 : decode (gb 164) 29 = .ok (.invokevirtual 60, 3) := by decide +kernel
theorem k164_32 : decode (gb 164) 32 = .ok (.return_, 1) := by decide +kernel
/-- Shelf.copyOut(ILCraftHouse$Bytes;)V -/
def f164 (a0 : Nat) (p1 : Int32) (p2 : Nat) (μ : Mem) : Option (Mem) :=
  (f64 p2 μ).bind fun r1 =>
  (f158 a0 p1 r1).bind fun r3 =>
  if r3.2 = 0 then
    some r3.1
  else
    (ldA (a0 + 2) p1 r3.1).bind fun x6 =>
    (ldA (a0 + 3) p1 r3.1).bind fun x8 =>
    (f70 p2 (a0 + 1) x6 x8 r3.1).bind fun r10 =>
    some r10
theorem ok164 {L : Nat} (a0 : Nat) (p1 : Int32) (p2 : Nat) (h0 : SK0 a0 = (0, 7)) (h2 : SK0 p2 = (0, 1)) (μ : Mem) (res : Mem) (h : f164 a0 p1 p2 μ = some res) : Mx 164 [.ref a0, .int p1, .ref p2] (mk L μ) (mk L res, none) := by
  refine Mx_of ml_164 (by rw [mx_164]; exact Nat.le_of_ble_eq_true rfl) ?_
  show Sx 164 0 [(0, .ref a0), (1, .int p1), (2, .ref p2)] [] 0 0 (mk L μ) _
  unfold f164 at h
  refine sx_aload_n (i := 2) k164_0 rfl rfl ?_
  obtain ⟨r1, e2, h⟩ := Option.bind_eq_some_iff.mp h
  refine cx_V (sk := []) (vs := []) st_164_64 k164_1 ow_164 cl_8_57 (by decide) rfl (Nat.le_of_ble_eq_true rfl) h2 (ok64 p2 h2 _ _ e2) (sk3 := []) rfl rfl ?_
  refine sx_aload_n (i := 0) k164_4 rfl rfl ?_
  refine sx_iload_n (i := 1) k164_5 rfl rfl ?_
  obtain ⟨r3, e4, h⟩ := Option.bind_eq_some_iff.mp h
  refine cx_V (sk := []) (vs := [.int p1]) st_164_158 k164_6 ow_164 cl_8_54 (by decide) rfl (Nat.le_of_ble_eq_true rfl) h0 (ok158 a0 p1 h0 _ _ e4) (sk3 := [.int r3.2]) rfl rfl ?_
  by_cases hb5 : r3.2 = 0
  · rw [if_pos hb5] at h
    refine sx_if_eq (tgt := 32) k164_9 (by decide) (fun _ => ?_) (fun q => absurd hb5 q)
    exact cx_retv k164_32 rt_164 h
  · rw [if_neg hb5] at h
    refine sx_if_eq (tgt := 32) k164_9 (by decide) (fun q => absurd q hb5) (fun _ => ?_)
    refine sx_aload_n (i := 2) k164_12 rfl rfl ?_
    refine sx_aload_n (i := 0) k164_13 rfl rfl ?_
    refine cx_getR (k := 0) k164_14 ow_164 fl_8_13 (by decide) h0 ft_7_0 (kf_7_0 h0).1 ?_
    refine sx_aload_n (i := 0) k164_17 rfl rfl ?_
    refine cx_getR (k := 1) k164_18 ow_164 fl_8_19 (by decide) h0 ft_7_1 (kf_7_1 h0).1 ?_
    refine sx_iload_n (i := 1) k164_21 rfl rfl ?_
    obtain ⟨x6, e7, h⟩ := Option.bind_eq_some_iff.mp h
    refine cx_iald k164_22 (kf_7_1 h0).2 e7 ?_
    refine sx_aload_n (i := 0) k164_23 rfl rfl ?_
    refine cx_getR (k := 2) k164_24 ow_164 fl_8_23 (by decide) h0 ft_7_2 (kf_7_2 h0).1 ?_
    refine sx_iload_n (i := 1) k164_27 rfl rfl ?_
    obtain ⟨x8, e9, h⟩ := Option.bind_eq_some_iff.mp h
    refine cx_iald k164_28 (kf_7_2 h0).2 e9 ?_
    obtain ⟨r10, e11, h⟩ := Option.bind_eq_some_iff.mp h
    refine cx_V (sk := []) (vs := [.ref (a0 + 1), .int x6, .int x8]) st_164_70 k164_29 ow_164 cl_8_60 (by decide) rfl (Nat.le_of_ble_eq_true rfl) h2 (ok70 p2 (a0 + 1) x6 x8 h2 (kf_7_0 h0).2 _ _ e11) (sk3 := []) rfl rfl ?_
    exact cx_retv k164_32 rt_164 h
theorem k171_0 : decode (gb 171) 0 = .ok (.iload_n 1, 1) := by decide +kernel
theorem k171_1 : decode (gb 171) 1 = .ok (.ifCond .lt 45, 3) := by decide +kernel
theorem k171_4 : decode (gb 171) 4 = .ok (.iload_n 1, 1) := by decide +kernel
theorem k171_5 : decode (gb 171) 5 = .ok (.aload_n 0, 1) := by decide +kernel
theorem k171_6 : decode (gb 171) 6 = .ok (.getfield 32, 3) := by decide +kernel
theorem k171_9 : decode (gb 171) 9 = .ok (.if_icmp .ge 37, 3) := by decide +kernel
theorem k171_12 : decode (gb 171) 12 = .ok (.iload_n 2, 1) := by decide +kernel
theorem k171_13 : decode (gb 171) 13 = .ok (.ifCond .lt 33, 3) := by decide +kernel
theorem k171_16 : decode (gb 171) 16 = .ok (.iload_n 2, 1) := by decide +kernel
theorem k171_17 : decode (gb 171) 17 = .ok (.aload_n 0, 1) := by decide +kernel
theorem k171_18 : decode (gb 171) 18 = .ok (.getfield 23, 3) := by decide +kernel
theorem k171_21 : decode (gb 171) 21 = .ok (.iload_n 1, 1) := by decide +kernel
theorem k171_22 : decode (gb 171) 22 = .ok (.iaload, 1) := by decide +kernel
theorem k171_23 : decode (gb 171) 23 = .ok (.if_icmp .ge 23, 3) := by decide +kernel
theorem k171_26 : decode (gb 171) 26 = .ok (.aload_n 0, 1) := by decide +kernel
theorem k171_27 : decode (gb 171) 27 = .ok (.getfield 13, 3) := by decide +kernel
theorem k171_30 : decode (gb 171) 30 = .ok (.aload_n 0, 1) := by decide +kernel
theorem k171_31 : decode (gb 171) 31 = .ok (.getfield 19, 3) := by decide +kernel
theorem k171_34 : decode (gb 171) 34 = .ok (.iload_n 1, 1) := by decide +kernel
theorem k171_35 : decode (gb 171) 35 = .ok (.iaload, 1) := by decide +kernel
theorem k171_36 : decode (gb 171) 36 = .ok (.iload_n 2, 1) := by decide +kernel
theorem k171_37 : decode (gb 171) 37 = .ok (.iadd, 1) := by decide +kernel
theorem k171_38 : decode (gb 171) 38 = .ok (.baload, 1) := by decide +kernel
theorem k171_39 : decode (gb 171) 39 = .ok (.sipush 255, 3) := by decide +kernel
theorem k171_42 : decode (gb 171) 42 = .ok (.iand, 1) := by decide +kernel
theorem k171_43 : decode (gb 171) 43 = .ok (.goto 4, 3) := by decide +kernel
theorem k171_46 : decode (gb 171) 46 = .ok (.iconst 0, 1) := by decide +kernel
theorem k171_47 : decode (gb 171) 47 = .ok (.ireturn, 1) := by decide +kernel
/-- Shelf.byteOf(II)I -/
def f171 (a0 : Nat) (p1 : Int32) (p2 : Int32) (μ : Mem) : Option (Mem × Int32) :=
  if p1 < 0 then
    some (μ, (0 : Int32))
  else
    if (μ.1 a0 5) ≤ p1 then
      some (μ, (0 : Int32))
    else
      if p2 < 0 then
        some (μ, (0 : Int32))
      else
        (ldA (a0 + 3) p1 μ).bind fun x4 =>
        if x4 ≤ p2 then
          some (μ, (0 : Int32))
        else
          (ldA (a0 + 2) p1 μ).bind fun x7 =>
          (ldA (a0 + 1) (x7 + p2) μ).bind fun x9 =>
          some (μ, (x9 &&& (255 : Int32)))
theorem ok171 {L : Nat} (a0 : Nat) (p1 : Int32) (p2 : Int32) (h0 : SK0 a0 = (0, 7)) (μ : Mem) (res : Mem × Int32) (h : f171 a0 p1 p2 μ = some res) : Mx 171 [.ref a0, .int p1, .int p2] (mk L μ) (mk L res.1, some (.int res.2)) := by
  refine Mx_of ml_171 (by rw [mx_171]; exact Nat.le_of_ble_eq_true rfl) ?_
  show Sx 171 0 [(0, .ref a0), (1, .int p1), (2, .int p2)] [] 0 0 (mk L μ) _
  unfold f171 at h
  refine sx_iload_n (i := 1) k171_0 rfl rfl ?_
  by_cases hb1 : p1 < 0
  · rw [if_pos hb1] at h
    refine sx_if_lt (tgt := 46) k171_1 (by decide) (fun _ => ?_) (fun q => absurd hb1 q)
    refine sx_iconst (v := 0) k171_46 (by decide) ?_
    exact cx_reti k171_47 rt_171 h
  · rw [if_neg hb1] at h
    refine sx_if_lt (tgt := 46) k171_1 (by decide) (fun q => absurd q hb1) (fun _ => ?_)
    refine sx_iload_n (i := 1) k171_4 rfl rfl ?_
    refine sx_aload_n (i := 0) k171_5 rfl rfl ?_
    refine cx_getI (k := 5) k171_6 ow_171 fl_8_32 (by decide) h0 ft_7_5 ?_
    by_cases hb2 : (μ.1 a0 5) ≤ p1
    · rw [if_pos hb2] at h
      refine sx_icmp_ge (tgt := 46) k171_9 (by decide) (fun _ => ?_) (fun q => absurd hb2 q)
      refine sx_iconst (v := 0) k171_46 (by decide) ?_
      exact cx_reti k171_47 rt_171 h
    · rw [if_neg hb2] at h
      refine sx_icmp_ge (tgt := 46) k171_9 (by decide) (fun q => absurd q hb2) (fun _ => ?_)
      refine sx_iload_n (i := 2) k171_12 rfl rfl ?_
      by_cases hb3 : p2 < 0
      · rw [if_pos hb3] at h
        refine sx_if_lt (tgt := 46) k171_13 (by decide) (fun _ => ?_) (fun q => absurd hb3 q)
        refine sx_iconst (v := 0) k171_46 (by decide) ?_
        exact cx_reti k171_47 rt_171 h
      · rw [if_neg hb3] at h
        refine sx_if_lt (tgt := 46) k171_13 (by decide) (fun q => absurd q hb3) (fun _ => ?_)
        refine sx_iload_n (i := 2) k171_16 rfl rfl ?_
        refine sx_aload_n (i := 0) k171_17 rfl rfl ?_
        refine cx_getR (k := 2) k171_18 ow_171 fl_8_23 (by decide) h0 ft_7_2 (kf_7_2 h0).1 ?_
        refine sx_iload_n (i := 1) k171_21 rfl rfl ?_
        obtain ⟨x4, e5, h⟩ := Option.bind_eq_some_iff.mp h
        refine cx_iald k171_22 (kf_7_2 h0).2 e5 ?_
        by_cases hb6 : x4 ≤ p2
        · rw [if_pos hb6] at h
          refine sx_icmp_ge (tgt := 46) k171_23 (by decide) (fun _ => ?_) (fun q => absurd hb6 q)
          refine sx_iconst (v := 0) k171_46 (by decide) ?_
          exact cx_reti k171_47 rt_171 h
        · rw [if_neg hb6] at h
          refine sx_icmp_ge (tgt := 46) k171_23 (by decide) (fun q => absurd q hb6) (fun _ => ?_)
          refine sx_aload_n (i := 0) k171_26 rfl rfl ?_
          refine cx_getR (k := 0) k171_27 ow_171 fl_8_13 (by decide) h0 ft_7_0 (kf_7_0 h0).1 ?_
          refine sx_aload_n (i := 0) k171_30 rfl rfl ?_
          refine cx_getR (k := 1) k171_31 ow_171 fl_8_19 (by decide) h0 ft_7_1 (kf_7_1 h0).1 ?_
          refine sx_iload_n (i := 1) k171_34 rfl rfl ?_
          obtain ⟨x7, e8, h⟩ := Option.bind_eq_some_iff.mp h
          refine cx_iald k171_35 (kf_7_1 h0).2 e8 ?_
          refine sx_iload_n (i := 2) k171_36 rfl rfl ?_
          refine sx_iadd k171_37 ?_
          obtain ⟨x9, e10, h⟩ := Option.bind_eq_some_iff.mp h
          refine cx_bald k171_38 (Or.inl (kf_7_0 h0).2) e10 ?_
          refine sx_sipush (v := 255) k171_39 (by decide) ?_
          refine sx_iand k171_42 ?_
          refine sx_goto (tgt := 47) k171_43 (by decide) ?_
          exact cx_reti k171_47 rt_171 h
theorem k172_0 : decode (gb 172) 0 = .ok (.aload_n 0, 1) := by decide +kernel
theorem k172_1 : decode (gb 172) 1 = .ok (.iload_n 1, 1) := by decide +kernel
theorem k172_2 : decode (gb 172) 2 = .ok (.iload_n 2, 1) := by decide +kernel
theorem k172_3 : decode (gb 172) 3 = .ok (.invokevirtual 64, 3) := by decide +kernel
theorem k172_6 : decode (gb 172) 6 = .ok (.bipush 8, 2) := by decide +kernel
theorem k172_8 : decode (gb 172) 8 = .ok (.ishl, 1) := by decide +kernel
theorem k172_9 : decode (gb 172) 9 = .ok (.aload_n 0, 1) := by decide +kernel
theorem k172_10 : decode (gb 172) 10 = .ok (.iload_n 1, 1) := by decide +kernel
theorem k172_11 : decode (gb 172) 11 = .ok (.iload_n 2, 1) := by decide +kernel
theorem k172_12 : decode (gb 172) 12 = .ok (.iconst 1, 1) := by decide +kernel
theorem k172_13 : decode (gb 172) 13 = .ok (.iadd, 1) := by decide +kernel
theorem k172_14 : decode (gb 172) 14 = .ok (.invokevirtual 64, 3) := by decide +kernel
theorem k172_17 : decode (gb 172) 17 = .ok (.ior, 1) := by decide +kernel
theorem k172_18 : decode (gb 172) 18 = .ok (.ireturn, 1) := by decide +kernel
/-- Shelf.twoOf(II)I -/
def f172 (a0 : Nat) (p1 : Int32) (p2 : Int32) (μ : Mem) : Option (Mem × Int32) :=
  (f171 a0 p1 p2 μ).bind fun r1 =>
  (f171 a0 p1 (p2 + (1 : Int32)) r1.1).bind fun r3 =>
  some (r3.1, ((jshl r1.2 (8 : Int32)) ||| r3.2))
theorem ok172 {L : Nat} (a0 : Nat) (p1 : Int32) (p2 : Int32) (h0 : SK0 a0 = (0, 7)) (μ : Mem) (res : Mem × Int32) (h : f172 a0 p1 p2 μ = some res) : Mx 172 [.ref a0, .int p1, .int p2] (mk L μ) (mk L res.1, some (.int res.2)) := by
  refine Mx_of ml_172 (by rw [mx_172]; exact Nat.le_of_ble_eq_true rfl) ?_
  show Sx 172 0 [(0, .ref a0), (1, .int p1), (2, .int p2)] [] 0 0 (mk L μ) _
  unfold f172 at h
  refine sx_aload_n (i := 0) k172_0 rfl rfl ?_
  refine sx_iload_n (i := 1) k172_1 rfl rfl ?_
  refine sx_iload_n (i := 2) k172_2 rfl rfl ?_
  obtain ⟨r1, e2, h⟩ := Option.bind_eq_some_iff.mp h
  refine cx_V (sk := []) (vs := [.int p1, .int p2]) st_172_171 k172_3 ow_172 cl_8_64 (by decide) rfl (Nat.le_of_ble_eq_true rfl) h0 (ok171 a0 p1 p2 h0 _ _ e2) (sk3 := [.int r1.2]) rfl rfl ?_
  refine sx_bipush (v := 8) k172_6 (by decide) ?_
  refine sx_ishl k172_8 ?_
  refine sx_aload_n (i := 0) k172_9 rfl rfl ?_
  refine sx_iload_n (i := 1) k172_10 rfl rfl ?_
  refine sx_iload_n (i := 2) k172_11 rfl rfl ?_
  refine sx_iconst (v := 1) k172_12 (by decide) ?_
  refine sx_iadd k172_13 ?_
  obtain ⟨r3, e4, h⟩ := Option.bind_eq_some_iff.mp h
  refine cx_V (sk := [.int (jshl r1.2 (8 : Int32))]) (vs := [.int p1, .int (p2 + (1 : Int32))]) st_172_171 k172_14 ow_172 cl_8_64 (by decide) rfl (Nat.le_of_ble_eq_true rfl) h0 (ok171 a0 p1 (p2 + (1 : Int32)) h0 _ _ e4) (sk3 := [.int r3.2, .int (jshl r1.2 (8 : Int32))]) rfl rfl ?_
  refine sx_ior k172_17 ?_
  exact cx_reti k172_18 rt_172 h
theorem k165_0 : decode (gb 165) 0 = .ok (.iconst 0, 1) := by decide +kernel
theorem k165_1 : decode (gb 165) 1 = .ok (.istore_n 2, 1) := by decide +kernel
theorem k165_2 : decode (gb 165) 2 = .ok (.iload_n 2, 1) := by decide +kernel
theorem k165_3 : decode (gb 165) 3 = .ok (.aload_n 0, 1) := by decide +kernel
theorem k165_4 : decode (gb 165) 4 = .ok (.getfield 32, 3) := by decide +kernel
theorem k165_7 : decode (gb 165) 7 = .ok (.if_icmp .ge 21, 3) := by decide +kernel
theorem k165_10 : decode (gb 165) 10 = .ok (.aload_n 0, 1) := by decide +kernel
theorem k165_11 : decode (gb 165) 11 = .ok (.getfield 26, 3) := by decide +kernel
theorem k165_14 : decode (gb 165) 14 = .ok (.iload_n 2, 1) := by decide +kernel
theorem k165_15 : decode (gb 165) 15 = .ok (.iaload, 1) := by decide +kernel
theorem k165_16 : decode (gb 165) 16 = .ok (.iload_n 1, 1) := by decide +kernel
theorem k165_17 : decode (gb 165) 17 = .ok (.if_icmp .ne 5, 3) := by decide +kernel
theorem k165_20 : decode (gb 165) 20 = .ok (.iload_n 2, 1) := by decide +kernel
theorem k165_21 : decode (gb 165) 21 = .ok (.ireturn, 1) := by decide +kernel
theorem k165_22 : decode (gb 165) 22 = .ok (.iinc 2 1, 3) := by decide +kernel
theorem k165_25 : decode (gb 165) 25 = .ok (.goto (-23), 3) := by decide +kernel
theorem k165_28 : decode (gb 165) 28 = .ok (.iconst (-1), 1) := by decide +kernel
theorem k165_29 : decode (gb 165) 29 = .ok (.ireturn, 1) := by decide +kernel
def b165_2 (a0 : Nat) (kl2 : Int32 → Int32 → Mem → Option (Mem × Int32)) (v1 : Int32) (v2 : Int32) (μ : Mem) : Option (Mem × Int32) :=
  if (μ.1 a0 5) ≤ v2 then
    some (μ, (-1 : Int32))
  else
    (ldA (a0 + 4) v2 μ).bind fun x2 =>
    if x2 = v1 then
      some (μ, v2)
    else
      nm (v2 + (1 : Int32)) fun x5 =>
      kl2 v1 x5 μ
theorem b165_2_ok {L : Nat} (a0 : Nat) (h0 : SK0 a0 = (0, 7)) (kl2 : Int32 → Int32 → Mem → Option (Mem × Int32)) (hk2 : (∀ (v1 : Int32) (v2 : Int32) (μ : Mem) (res : Mem × Int32), kl2 v1 v2 μ = some res → Sx 165 2 [(0, .ref a0), (1, .int v1), (2, .int v2)] [] 0 0 (mk L μ) (mk L res.1, some (.int res.2)))) (v1 : Int32) (v2 : Int32) (μ : Mem) (res : Mem × Int32) (h : b165_2 a0 kl2 v1 v2 μ = some res) : Sx 165 2 [(0, .ref a0), (1, .int v1), (2, .int v2)] [] 0 0 (mk L μ) (mk L res.1, some (.int res.2)) := by
  unfold b165_2 at h
  refine sx_iload_n (i := 2) k165_2 rfl rfl ?_
  refine sx_aload_n (i := 0) k165_3 rfl rfl ?_
  refine cx_getI (k := 5) k165_4 ow_165 fl_8_32 (by decide) h0 ft_7_5 ?_
  by_cases hb1 : (μ.1 a0 5) ≤ v2
  · rw [if_pos hb1] at h
    refine sx_icmp_ge (tgt := 28) k165_7 (by decide) (fun _ => ?_) (fun q => absurd hb1 q)
    refine sx_iconst (v := -1) k165_28 (by decide) ?_
    exact cx_reti k165_29 rt_165 h
  · rw [if_neg hb1] at h
    refine sx_icmp_ge (tgt := 28) k165_7 (by decide) (fun q => absurd q hb1) (fun _ => ?_)
    refine sx_aload_n (i := 0) k165_10 rfl rfl ?_
    refine cx_getR (k := 3) k165_11 ow_165 fl_8_26 (by decide) h0 ft_7_3 (kf_7_3 h0).1 ?_
    refine sx_iload_n (i := 2) k165_14 rfl rfl ?_
    obtain ⟨x2, e3, h⟩ := Option.bind_eq_some_iff.mp h
    refine cx_iald k165_15 (kf_7_3 h0).2 e3 ?_
    refine sx_iload_n (i := 1) k165_16 rfl rfl ?_
    by_cases hb4 : x2 = v1
    · rw [if_pos hb4] at h
      refine sx_icmp_ne (tgt := 22) k165_17 (by decide) (fun q => absurd hb4 q) (fun _ => ?_)
      refine sx_iload_n (i := 2) k165_20 rfl rfl ?_
      exact cx_reti k165_21 rt_165 h
    · rw [if_neg hb4] at h
      refine sx_icmp_ne (tgt := 22) k165_17 (by decide) (fun _ => ?_) (fun q => absurd q hb4)
      refine cx_iinc (c := 1) (lo2 := fun x5 => [(2, .int x5), (0, .ref a0), (1, .int v1)]) k165_22 rfl (by decide) (by rw [mx_165]; decide) (fun _ => rfl) h (fun x5 h => ?_)
      refine sx_goto (tgt := 2) k165_25 (by decide) ?_
      refine sx_pick (lo2 := [(0, .ref a0), (1, .int v1), (2, .int x5)]) [1, 2, 0] rfl ?_
      exact hk2 v1 x5 _ _ h
def l165_2 (a0 : Nat) : Nat → Int32 × Int32 × Mem → Option (Mem × Int32) :=
  fixN (fun self x => b165_2 a0 (fun v1 v2 μ => self (v1, v2, μ)) (x.1) (x.2.1) (x.2.2))
theorem l165_2_ok {L : Nat} (a0 : Nat) (h0 : SK0 a0 = (0, 7)) (n : Nat) (v1 : Int32) (v2 : Int32) (μ : Mem) (res : Mem × Int32) (h : l165_2 a0 n (v1, v2, μ) = some res) : Sx 165 2 [(0, .ref a0), (1, .int v1), (2, .int v2)] [] 0 0 (mk L μ) (mk L res.1, some (.int res.2)) := by
  have key := fixN_ind (P := fun x res => Sx 165 2 [(0, .ref a0), (1, .int (x.1)), (2, .int (x.2.1))] [] 0 0 (mk L (x.2.2)) (mk L res.1, some (.int res.2))) (F := fun self x => b165_2 a0 (fun v1 v2 μ => self (v1, v2, μ)) (x.1) (x.2.1) (x.2.2)) (fun self hself x res h => b165_2_ok a0 h0 (fun v1 v2 μ => self (v1, v2, μ)) (fun v1 v2 μ res hh => hself (v1, v2, μ) res hh) (x.1) (x.2.1) (x.2.2) res h) n (v1, v2, μ) res h
  exact key
/-- Shelf.find(I)I -/
def f165 (a0 : Nat) (p1 : Int32) (μ : Mem) : Option (Mem × Int32) :=
  l165_2 a0 gF (p1, (0 : Int32), μ)
theorem ok165 {L : Nat} (a0 : Nat) (p1 : Int32) (h0 : SK0 a0 = (0, 7)) (μ : Mem) (res : Mem × Int32) (h : f165 a0 p1 μ = some res) : Mx 165 [.ref a0, .int p1] (mk L μ) (mk L res.1, some (.int res.2)) := by
  refine Mx_of ml_165 (by rw [mx_165]; exact Nat.le_of_ble_eq_true rfl) ?_
  show Sx 165 0 [(0, .ref a0), (1, .int p1)] [] 0 0 (mk L μ) _
  unfold f165 at h
  refine sx_iconst (v := 0) k165_0 (by decide) ?_
  refine cx_istore_n (lo2 := [(2, .int (0 : Int32)), (0, .ref a0), (1, .int p1)]) k165_1 rfl (by rw [mx_165]; decide) rfl ?_
  refine sx_pick (lo2 := [(0, .ref a0), (1, .int p1), (2, .int (0 : Int32))]) [1, 2, 0] rfl ?_
  exact l165_2_ok a0 h0 gF p1 (0 : Int32) _ _ h
theorem k163_0 : decode (gb 163) 0 = .ok (.aload_n 0, 1) := by decide +kernel
theorem k163_1 : decode (gb 163) 1 = .ok (.iconst 0, 1) := by decide +kernel
theorem k163_2 : decode (gb 163) 2 = .ok (.putfield 32, 3) := by decide +kernel
theorem k163_5 : decode (gb 163) 5 = .ok (.aload_n 0, 1) := by decide +kernel
theorem k163_6 : decode (gb 163) 6 = .ok (.iconst 0, 1) := by decide +kernel
theorem k163_7 : decode (gb 163) 7 = .ok (.putfield 36, 3) := by decide +kernel
theorem k163_10 : decode (gb 163) 10 = .ok (.return_, 1) := by decide +kernel
/-- Shelf.clear()V -/
def f163 (a0 : Nat) (μ : Mem) : Option (Mem) :=
  (pfI a0 5 (0 : Int32) μ).bind fun m1 =>
  (pfI a0 6 (0 : Int32) m1).bind fun m3 =>
  some m3
theorem ok163 {L : Nat} (a0 : Nat) (h0 : SK0 a0 = (0, 7)) (μ : Mem) (res : Mem) (h : f163 a0 μ = some res) : Mx 163 [.ref a0] (mk L μ) (mk L res, none) := by
  refine Mx_of ml_163 (by rw [mx_163]; exact Nat.le_of_ble_eq_true rfl) ?_
  show Sx 163 0 [(0, .ref a0)] [] 0 0 (mk L μ) _
  unfold f163 at h
  refine sx_aload_n (i := 0) k163_0 rfl rfl ?_
  refine sx_iconst (v := 0) k163_1 (by decide) ?_
  obtain ⟨m1, e2, h⟩ := Option.bind_eq_some_iff.mp h
  refine cx_putI (k := 5) k163_2 ow_163 fl_8_32 (by decide) h0 nf_7_5 fu_7_5 e2 ?_
  refine sx_aload_n (i := 0) k163_5 rfl rfl ?_
  refine sx_iconst (v := 0) k163_6 (by decide) ?_
  obtain ⟨m3, e4, h⟩ := Option.bind_eq_some_iff.mp h
  refine cx_putI (k := 6) k163_7 ow_163 fl_8_36 (by decide) h0 nf_7_6 fu_7_6 e4 ?_
  exact cx_retv k163_10 rt_163 h
theorem k169_0 : decode (gb 169) 0 = .ok (.aload_n 0, 1) := by decide +kernel
theorem k169_1 : decode (gb 169) 1 = .ok (.iload_n 1, 1) := by decide +kernel
theorem k169_2 : decode (gb 169) 2 = .ok (.invokevirtual 54, 3) := by decide +kernel
theorem k169_5 : decode (gb 169) 5 = .ok (.ifCond .eq 10, 3) := by decide +kernel
theorem k169_8 : decode (gb 169) 8 = .ok (.aload_n 0, 1) := by decide +kernel
theorem k169_9 : decode (gb 169) 9 = .ok (.getfield 26, 3) := by decide +kernel
theorem k169_12 : decode (gb 169) 12 = .ok (.iload_n 1, 1) := by decide +kernel
theorem k169_13 : decode (gb 169) 13 = .ok (.iload_n 2, 1) := by decide +kernel
theorem k169_14 : decode (gb 169) 14 = .ok (.iastore, 1) := by decide +kernel
theorem k169_15 : decode (gb 169) 15 = .ok (.return_, 1) := by decide +kernel
/-- Shelf.setTag(II)V -/
def f169 (a0 : Nat) (p1 : Int32) (p2 : Int32) (μ : Mem) : Option (Mem) :=
  (f158 a0 p1 μ).bind fun r1 =>
  if r1.2 = 0 then
    some r1.1
  else
    (stA (a0 + 4) p1 p2 r1.1).bind fun m4 =>
    some m4
theorem ok169 {L : Nat} (a0 : Nat) (p1 : Int32) (p2 : Int32) (h0 : SK0 a0 = (0, 7)) (μ : Mem) (res : Mem) (h : f169 a0 p1 p2 μ = some res) : Mx 169 [.ref a0, .int p1, .int p2] (mk L μ) (mk L res, none) := by
  refine Mx_of ml_169 (by rw [mx_169]; exact Nat.le_of_ble_eq_true rfl) ?_
  show Sx 169 0 [(0, .ref a0), (1, .int p1), (2, .int p2)] [] 0 0 (mk L μ) _
  unfold f169 at h
  refine sx_aload_n (i := 0) k169_0 rfl rfl ?_
  refine sx_iload_n (i := 1) k169_1 rfl rfl ?_
  obtain ⟨r1, e2, h⟩ := Option.bind_eq_some_iff.mp h
  refine cx_V (sk := []) (vs := [.int p1]) st_169_158 k169_2 ow_169 cl_8_54 (by decide) rfl (Nat.le_of_ble_eq_true rfl) h0 (ok158 a0 p1 h0 _ _ e2) (sk3 := [.int r1.2]) rfl rfl ?_
  by_cases hb3 : r1.2 = 0
  · rw [if_pos hb3] at h
    refine sx_if_eq (tgt := 15) k169_5 (by decide) (fun _ => ?_) (fun q => absurd hb3 q)
    exact cx_retv k169_15 rt_169 h
  · rw [if_neg hb3] at h
    refine sx_if_eq (tgt := 15) k169_5 (by decide) (fun q => absurd q hb3) (fun _ => ?_)
    refine sx_aload_n (i := 0) k169_8 rfl rfl ?_
    refine cx_getR (k := 3) k169_9 ow_169 fl_8_26 (by decide) h0 ft_7_3 (kf_7_3 h0).1 ?_
    refine sx_iload_n (i := 1) k169_12 rfl rfl ?_
    refine sx_iload_n (i := 2) k169_13 rfl rfl ?_
    obtain ⟨m4, e5, h⟩ := Option.bind_eq_some_iff.mp h
    refine cx_iast k169_14 (kf_7_3 h0).2 e5 ?_
    exact cx_retv k169_15 rt_169 h
theorem k170_0 : decode (gb 170) 0 = .ok (.aload_n 0, 1) := by decide +kernel
theorem k170_1 : decode (gb 170) 1 = .ok (.iload_n 1, 1) := by decide +kernel
theorem k170_2 : decode (gb 170) 2 = .ok (.invokevirtual 54, 3) := by decide +kernel
theorem k170_5 : decode (gb 170) 5 = .ok (.ifCond .eq 10, 3) := by decide +kernel
theorem k170_8 : decode (gb 170) 8 = .ok (.aload_n 0, 1) := by decide +kernel
theorem k170_9 : decode (gb 170) 9 = .ok (.getfield 29, 3) := by decide +kernel
theorem k170_12 : decode (gb 170) 12 = .ok (.iload_n 1, 1) := by decide +kernel
theorem k170_13 : decode (gb 170) 13 = .ok (.iload_n 2, 1) := by decide +kernel
theorem k170_14 : decode (gb 170) 14 = .ok (.iastore, 1) := by decide +kernel
theorem k170_15 : decode (gb 170) 15 = .ok (.return_, 1) := by decide +kernel
/-- Shelf.setMark(II)V -/
def f170 (a0 : Nat) (p1 : Int32) (p2 : Int32) (μ : Mem) : Option (Mem) :=
  (f158 a0 p1 μ).bind fun r1 =>
  if r1.2 = 0 then
    some r1.1
  else
    (stA (a0 + 5) p1 p2 r1.1).bind fun m4 =>
    some m4
theorem ok170 {L : Nat} (a0 : Nat) (p1 : Int32) (p2 : Int32) (h0 : SK0 a0 = (0, 7)) (μ : Mem) (res : Mem) (h : f170 a0 p1 p2 μ = some res) : Mx 170 [.ref a0, .int p1, .int p2] (mk L μ) (mk L res, none) := by
  refine Mx_of ml_170 (by rw [mx_170]; exact Nat.le_of_ble_eq_true rfl) ?_
  show Sx 170 0 [(0, .ref a0), (1, .int p1), (2, .int p2)] [] 0 0 (mk L μ) _
  unfold f170 at h
  refine sx_aload_n (i := 0) k170_0 rfl rfl ?_
  refine sx_iload_n (i := 1) k170_1 rfl rfl ?_
  obtain ⟨r1, e2, h⟩ := Option.bind_eq_some_iff.mp h
  refine cx_V (sk := []) (vs := [.int p1]) st_170_158 k170_2 ow_170 cl_8_54 (by decide) rfl (Nat.le_of_ble_eq_true rfl) h0 (ok158 a0 p1 h0 _ _ e2) (sk3 := [.int r1.2]) rfl rfl ?_
  by_cases hb3 : r1.2 = 0
  · rw [if_pos hb3] at h
    refine sx_if_eq (tgt := 15) k170_5 (by decide) (fun _ => ?_) (fun q => absurd hb3 q)
    exact cx_retv k170_15 rt_170 h
  · rw [if_neg hb3] at h
    refine sx_if_eq (tgt := 15) k170_5 (by decide) (fun q => absurd q hb3) (fun _ => ?_)
    refine sx_aload_n (i := 0) k170_8 rfl rfl ?_
    refine cx_getR (k := 4) k170_9 ow_170 fl_8_29 (by decide) h0 ft_7_4 (kf_7_4 h0).1 ?_
    refine sx_iload_n (i := 1) k170_12 rfl rfl ?_
    refine sx_iload_n (i := 2) k170_13 rfl rfl ?_
    obtain ⟨m4, e5, h⟩ := Option.bind_eq_some_iff.mp h
    refine cx_iast k170_14 (kf_7_4 h0).2 e5 ?_
    exact cx_retv k170_15 rt_170 h
theorem k168_0 : decode (gb 168) 0 = .ok (.aload_n 0, 1) := by decide +kernel
theorem k168_1 : decode (gb 168) 1 = .ok (.iload_n 1, 1) := by decide +kernel
theorem k168_2 : decode (gb 168) 2 = .ok (.invokevirtual 54, 3) := by decide +kernel
theorem k168_5 : decode (gb 168) 5 = .ok (.ifCond .eq 12, 3) := by decide +kernel
theorem k168_8 : decode (gb 168) 8 = .ok (.aload_n 0, 1) := by decide +kernel
theorem k168_9 : decode (gb 168) 9 = .ok (.getfield 29, 3) := by decide +kernel
theorem k168_12 : decode (gb 168) 12 = .ok (.iload_n 1, 1) := by decide +kernel
theorem k168_13 : decode (gb 168) 13 = .ok (.iaload, 1) := by decide +kernel
theorem k168_14 : decode (gb 168) 14 = .ok (.goto 4, 3) := by decide +kernel
theorem k168_17 : decode (gb 168) 17 = .ok (.iconst 0, 1) := by decide +kernel
theorem k168_18 : decode (gb 168) 18 = .ok (.ireturn, 1) := by decide +kernel
/-- Shelf.markOf(I)I -/
def f168 (a0 : Nat) (p1 : Int32) (μ : Mem) : Option (Mem × Int32) :=
  (f158 a0 p1 μ).bind fun r1 =>
  if r1.2 = 0 then
    some (r1.1, (0 : Int32))
  else
    (ldA (a0 + 5) p1 r1.1).bind fun x4 =>
    some (r1.1, x4)
theorem ok168 {L : Nat} (a0 : Nat) (p1 : Int32) (h0 : SK0 a0 = (0, 7)) (μ : Mem) (res : Mem × Int32) (h : f168 a0 p1 μ = some res) : Mx 168 [.ref a0, .int p1] (mk L μ) (mk L res.1, some (.int res.2)) := by
  refine Mx_of ml_168 (by rw [mx_168]; exact Nat.le_of_ble_eq_true rfl) ?_
  show Sx 168 0 [(0, .ref a0), (1, .int p1)] [] 0 0 (mk L μ) _
  unfold f168 at h
  refine sx_aload_n (i := 0) k168_0 rfl rfl ?_
  refine sx_iload_n (i := 1) k168_1 rfl rfl ?_
  obtain ⟨r1, e2, h⟩ := Option.bind_eq_some_iff.mp h
  refine cx_V (sk := []) (vs := [.int p1]) st_168_158 k168_2 ow_168 cl_8_54 (by decide) rfl (Nat.le_of_ble_eq_true rfl) h0 (ok158 a0 p1 h0 _ _ e2) (sk3 := [.int r1.2]) rfl rfl ?_
  by_cases hb3 : r1.2 = 0
  · rw [if_pos hb3] at h
    refine sx_if_eq (tgt := 17) k168_5 (by decide) (fun _ => ?_) (fun q => absurd hb3 q)
    refine sx_iconst (v := 0) k168_17 (by decide) ?_
    exact cx_reti k168_18 rt_168 h
  · rw [if_neg hb3] at h
    refine sx_if_eq (tgt := 17) k168_5 (by decide) (fun q => absurd q hb3) (fun _ => ?_)
    refine sx_aload_n (i := 0) k168_8 rfl rfl ?_
    refine cx_getR (k := 4) k168_9 ow_168 fl_8_29 (by decide) h0 ft_7_4 (kf_7_4 h0).1 ?_
    refine sx_iload_n (i := 1) k168_12 rfl rfl ?_
    obtain ⟨x4, e5, h⟩ := Option.bind_eq_some_iff.mp h
    refine cx_iald k168_13 (kf_7_4 h0).2 e5 ?_
    refine sx_goto (tgt := 18) k168_14 (by decide) ?_
    exact cx_reti k168_18 rt_168 h
theorem k166_0 : decode (gb 166) 0 = .ok (.aload_n 0, 1) := by decide +kernel
theorem k166_1 : decode (gb 166) 1 = .ok (.iload_n 1, 1) := by decide +kernel
theorem k166_2 : decode (gb 166) 2 = .ok (.invokevirtual 54, 3) := by decide +kernel
theorem k166_5 : decode (gb 166) 5 = .ok (.ifCond .eq 12, 3) := by decide +kernel
theorem k166_8 : decode (gb 166) 8 = .ok (.aload_n 0, 1) := by decide +kernel
theorem k166_9 : decode (gb 166) 9 = .ok (.getfield 23, 3) := by decide +kernel
theorem k166_12 : decode (gb 166) 12 = .ok (.iload_n 1, 1) := by decide +kernel
theorem k166_13 : decode (gb 166) 13 = .ok (.iaload, 1) := by decide +kernel
theorem k166_14 : decode (gb 166) 14 = .ok (.goto 4, 3) := by decide +kernel
theorem k166_17 : decode (gb 166) 17 = .ok (.iconst 0, 1) := by decide +kernel
theorem k166_18 : decode (gb 166) 18 = .ok (.ireturn, 1) := by decide +kernel
/-- Shelf.sizeOf(I)I -/
def f166 (a0 : Nat) (p1 : Int32) (μ : Mem) : Option (Mem × Int32) :=
  (f158 a0 p1 μ).bind fun r1 =>
  if r1.2 = 0 then
    some (r1.1, (0 : Int32))
  else
    (ldA (a0 + 3) p1 r1.1).bind fun x4 =>
    some (r1.1, x4)
theorem ok166 {L : Nat} (a0 : Nat) (p1 : Int32) (h0 : SK0 a0 = (0, 7)) (μ : Mem) (res : Mem × Int32) (h : f166 a0 p1 μ = some res) : Mx 166 [.ref a0, .int p1] (mk L μ) (mk L res.1, some (.int res.2)) := by
  refine Mx_of ml_166 (by rw [mx_166]; exact Nat.le_of_ble_eq_true rfl) ?_
  show Sx 166 0 [(0, .ref a0), (1, .int p1)] [] 0 0 (mk L μ) _
  unfold f166 at h
  refine sx_aload_n (i := 0) k166_0 rfl rfl ?_
  refine sx_iload_n (i := 1) k166_1 rfl rfl ?_
  obtain ⟨r1, e2, h⟩ := Option.bind_eq_some_iff.mp h
  refine cx_V (sk := []) (vs := [.int p1]) st_166_158 k166_2 ow_166 cl_8_54 (by decide) rfl (Nat.le_of_ble_eq_true rfl) h0 (ok158 a0 p1 h0 _ _ e2) (sk3 := [.int r1.2]) rfl rfl ?_
  by_cases hb3 : r1.2 = 0
  · rw [if_pos hb3] at h
    refine sx_if_eq (tgt := 17) k166_5 (by decide) (fun _ => ?_) (fun q => absurd hb3 q)
    refine sx_iconst (v := 0) k166_17 (by decide) ?_
    exact cx_reti k166_18 rt_166 h
  · rw [if_neg hb3] at h
    refine sx_if_eq (tgt := 17) k166_5 (by decide) (fun q => absurd q hb3) (fun _ => ?_)
    refine sx_aload_n (i := 0) k166_8 rfl rfl ?_
    refine cx_getR (k := 2) k166_9 ow_166 fl_8_23 (by decide) h0 ft_7_2 (kf_7_2 h0).1 ?_
    refine sx_iload_n (i := 1) k166_12 rfl rfl ?_
    obtain ⟨x4, e5, h⟩ := Option.bind_eq_some_iff.mp h
    refine cx_iald k166_13 (kf_7_2 h0).2 e5 ?_
    refine sx_goto (tgt := 18) k166_14 (by decide) ?_
    exact cx_reti k166_18 rt_166 h
