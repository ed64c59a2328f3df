theorem k241_0 : decode (gb 241) 0 = .ok (.iload_n 2, 1) := by decide +kernel
theorem k241_1 : decode (gb 241) 1 = .ok (.iconst 1, 1) := by decide +kernel
theorem k241_2 : decode (gb 241) 2 = .ok (.if_icmp .lt 8, 3) := by decide +kernel
theorem k241_5 : decode (gb 241) 5 = .ok (.iload_n 2, 1) := by decide +kernel
theorem k241_6 : decode (gb 241) 6 = .ok (.iconst 4, 1) := by decide +kernel
theorem k241_7 : decode (gb 241) 7 = .ok (.if_icmp .le 5, 3) := by decide +kernel
theorem k241_10 : decode (gb 241) 10 = .ok (.iconst (-1), 1) := by decide +kernel
theorem k241_11 : decode (gb 241) 11 = .ok (.ireturn, 1) := by decide +kernel
theorem k241_12 : decode (gb 241) 12 = .ok (.aload_n 0, 1) := by decide +kernel
theorem k241_13 : decode (gb 241) 13 = .ok (.getfield 3, 3) := by decide +kernel
theorem k241_16 : decode (gb 241) 16 = .ok (.iload_n 2, 1) := by decide +kernel
theorem k241_17 : decode (gb 241) 17 = .ok (.iadd, 1) := by decide +kernel
theorem k241_18 : decode (gb 241) 18 = .ok (.sipush 256, 3) := by decide +kernel
theorem k241_21 : decode (gb 241) 21 = .ok (.if_icmp .le 6, 3) := by decide +kernel
theorem k241_24 : decode (gb 241) 24 = .ok (.bipush (-3), 2) := by decide +kernel
theorem k241_26 : decode (gb 241) 26 = .ok (.ireturn, 1) := by decide +kernel
theorem k241_27 : decode (gb 241) 27 = .ok (.iload_n 2, 1) := by decide +kernel
theorem k241_28 : decode (gb 241) 28 = .ok (.iconst 1, 1) := by decide +kernel
theorem k241_29 : decode (gb 241) 29 = .ok (.isub, 1) := by decide +kernel
theorem k241_30 : decode (gb 241) 30 = .ok (.istore_n 3, 1) := by decide +kernel
theorem k241_31 : decode (gb 241) 31 = .ok (.iload_n 3, 1) := by decide +kernel
theorem k241_32 : decode (gb 241) 32 = .ok (.ifCond .lt 38, 3) := by decide +kernel
theorem k241_35 : decode (gb 241) 35 = .ok (.aload_n 0, 1) := by decide +kernel
theorem k241_36 : decode (gb 241) 36 = .ok (.getfield 7, 3) := by decide +kernel
theorem k241_39 : decode (gb 241) 39 = .ok (.aload_n 0, 1) := by decide +kernel
theorem k241_40 : decode (gb 241) 40 = .ok (.getfield 3, 3) := by decide +kernel
theorem k241_43 : decode (gb 241) 43 = .ok (.iload_n 1, 1) := by decide +kernel
theorem k241_44 : decode (gb 241) 44 = .ok (.bipush 8, 2) := by decide +kernel
theorem k241_46 : decode (gb 241) 46 = .ok (.iload_n 3, 1) := by decide +kernel
theorem k241_47 : decode (gb 241) 47 = .ok (.imul, 1) := by decide +kernel
theorem k241_48 : decode (gb 241) 48 = .ok (.iushr, 1) := by decide +kernel
theorem k241_49 : decode (gb 241) 49 = .ok (.sipush 255, 3) := by decide +kernel
theorem k241_52 : decode (gb 241) 52 = .ok (.iand, 1) := by decide +kernel
theorem k241_53 : decode (gb 241) 53 = .ok (.iastore, 1) := by decide +kernel
theorem k241_54 : decode (gb 241) 54 = .ok (.aload_n 0, 1) := by decide +kernel
theorem k241_55 : decode (gb 241) 55 = .ok (.dup, 1) := by decide +kernel
theorem k241_56 : decode (gb 241) 56 = .ok (.getfield 3, 3) := by decide +kernel
theorem k241_59 : decode (gb 241) 59 = .ok (.iconst 1, 1) := by decide +kernel
theorem k241_60 : decode (gb 241) 60 = .ok (.iadd, 1) := by decide +kernel
theorem k241_61 : decode (gb 241) 61 = .ok (.putfield 3, 3) := by decide +kernel
theorem k241_64 : decode (gb 241) 64 = .ok (.iinc 3 (-1), 3) := by decide +kernel
theorem k241_67 : decode (gb 241) 67 = .ok (.goto (-36), 3) := by decide +kernel
theorem k241_70 : decode (gb 241) 70 = .ok (.aload_n 0, 1) := by decide +kernel
theorem k241_71 : decode (gb 241) 71 = .ok (.getfield 3, 3) := by decide +kernel
theorem k241_74 : decode (gb 241) 74 = .ok (.ireturn, 1) := by decide +kernel
def b241_31 (kl31 : Int32 → Int32 → Mem → Option (Mem × Int32)) (v1 : Int32) (v3 : Int32) (μ : Mem) : Option (Mem × Int32) :=
  if v3 < 0 then
    some (μ, (μ.1 129 1))
  else
    (stA 130 (μ.1 129 1) ((jushr v1 ((8 : Int32) * v3)) &&& (255 : Int32)) μ).bind fun m2 =>
    (pfI 129 1 ((m2.1 129 1) + (1 : Int32)) m2).bind fun m4 =>
    nm (v3 + (-1 : Int32)) fun x6 =>
    kl31 v1 x6 m4
theorem b241_31_ok {L : Nat} (kl31 : Int32 → Int32 → Mem → Option (Mem × Int32)) (hk31 : (∀ (v1 : Int32) (v3 : Int32) (μ : Mem) (res : Mem × Int32), kl31 v1 v3 μ = some res → Sx 241 31 [(0, .ref 129), (1, .int v1), (3, .int v3)] [] 0 0 (mk L μ) (mk L res.1, some (.int res.2)))) (v1 : Int32) (v3 : Int32) (μ : Mem) (res : Mem × Int32) (h : b241_31 kl31 v1 v3 μ = some res) : Sx 241 31 [(0, .ref 129), (1, .int v1), (3, .int v3)] [] 0 0 (mk L μ) (mk L res.1, some (.int res.2)) := by
  unfold b241_31 at h
  refine sx_iload_n (i := 3) k241_31 rfl rfl ?_
  by_cases hb1 : v3 < 0
  · rw [if_pos hb1] at h
    refine sx_if_lt (tgt := 70) k241_32 (by decide) (fun _ => ?_) (fun q => absurd hb1 q)
    refine sx_aload_n (i := 0) k241_70 rfl rfl ?_
    refine cx_getI (k := 1) k241_71 ow_241 fl_12_3 (by decide) sk_129 ft_11_1 ?_
    exact cx_reti k241_74 rt_241 h
  · rw [if_neg hb1] at h
    refine sx_if_lt (tgt := 70) k241_32 (by decide) (fun q => absurd q hb1) (fun _ => ?_)
    refine sx_aload_n (i := 0) k241_35 rfl rfl ?_
    refine cx_getR (k := 0) k241_36 ow_241 fl_12_7 (by decide) sk_129 ft_11_0 sr_129_0 ?_
    refine sx_aload_n (i := 0) k241_39 rfl rfl ?_
    refine cx_getI (k := 1) k241_40 ow_241 fl_12_3 (by decide) sk_129 ft_11_1 ?_
    refine sx_iload_n (i := 1) k241_43 rfl rfl ?_
    refine sx_bipush (v := 8) k241_44 (by decide) ?_
    refine sx_iload_n (i := 3) k241_46 rfl rfl ?_
    refine sx_imul k241_47 ?_
    refine sx_iushr k241_48 ?_
    refine sx_sipush (v := 255) k241_49 (by decide) ?_
    refine sx_iand k241_52 ?_
    obtain ⟨m2, e3, h⟩ := Option.bind_eq_some_iff.mp h
    refine cx_iast k241_53 sk_130 e3 ?_
    refine sx_aload_n (i := 0) k241_54 rfl rfl ?_
    refine sx_dup k241_55 rfl ?_
    refine cx_getI (k := 1) k241_56 ow_241 fl_12_3 (by decide) sk_129 ft_11_1 ?_
    refine sx_iconst (v := 1) k241_59 (by decide) ?_
    refine sx_iadd k241_60 ?_
    obtain ⟨m4, e5, h⟩ := Option.bind_eq_some_iff.mp h
    refine cx_putI (k := 1) k241_61 ow_241 fl_12_3 (by decide) sk_129 nf_11_1 fu_11_1 e5 ?_
    refine cx_iinc (c := -1) (lo2 := fun x6 => [(3, .int x6), (0, .ref 129), (1, .int v1)]) k241_64 rfl (by decide) (by rw [mx_241]; decide) (fun _ => rfl) h (fun x6 h => ?_)
    refine sx_goto (tgt := 31) k241_67 (by decide) ?_
    refine sx_pick (lo2 := [(0, .ref 129), (1, .int v1), (3, .int x6)]) [1, 2, 0] rfl ?_
    exact hk31 v1 x6 _ _ h
def l241_31 : Nat → Int32 × Int32 × Mem → Option (Mem × Int32) :=
  fixN (fun self x => b241_31 (fun v1 v3 μ => self (v1, v3, μ)) (x.1) (x.2.1) (x.2.2))
theorem l241_31_ok {L : Nat} (n : Nat) (v1 : Int32) (v3 : Int32) (μ : Mem) (res : Mem × Int32) (h : l241_31 n (v1, v3, μ) = some res) : Sx 241 31 [(0, .ref 129), (1, .int v1), (3, .int v3)] [] 0 0 (mk L μ) (mk L res.1, some (.int res.2)) := by
  have key := fixN_ind (P := fun x res => Sx 241 31 [(0, .ref 129), (1, .int (x.1)), (3, .int (x.2.1))] [] 0 0 (mk L (x.2.2)) (mk L res.1, some (.int res.2))) (F := fun self x => b241_31 (fun v1 v3 μ => self (v1, v3, μ)) (x.1) (x.2.1) (x.2.2)) (fun self hself x res h => b241_31_ok (fun v1 v3 μ => self (v1, v3, μ)) (fun v1 v3 μ res hh => hself (v1, v3, μ) res hh) (x.1) (x.2.1) (x.2.2) res h) n (v1, v3, μ) res h
  exact key
/-- CraftHouseModel.feed(II)I -/
def f241 (p1 : Int32) (p2 : Int32) (μ : Mem) : Option (Mem × Int32) :=
  if p2 < (1 : Int32) then
    some (μ, (-1 : Int32))
  else
    if p2 ≤ (4 : Int32) then
      if ((μ.1 129 1) + p2) ≤ (256 : Int32) then
        nm (p2 - (1 : Int32)) fun x4 =>
        l241_31 gF (p1, x4, μ)
      else
        some (μ, (-3 : Int32))
    else
      some (μ, (-1 : Int32))
theorem ok241 {L : Nat} (p1 : Int32) (p2 : Int32) (μ : Mem) (res : Mem × Int32) (h : f241 p1 p2 μ = some res) : Mx 241 [.ref 129, .int p1, .int p2] (mk L μ) (mk L res.1, some (.int res.2)) := by
  refine Mx_of ml_241 (by rw [mx_241]; exact Nat.le_of_ble_eq_true rfl) ?_
  show Sx 241 0 [(0, .ref 129), (1, .int p1), (2, .int p2)] [] 0 0 (mk L μ) _
  unfold f241 at h
  refine sx_iload_n (i := 2) k241_0 rfl rfl ?_
  refine sx_iconst (v := 1) k241_1 (by decide) ?_
  by_cases hb1 : p2 < (1 : Int32)
  · rw [if_pos hb1] at h
    refine sx_icmp_lt (tgt := 10) k241_2 (by decide) (fun _ => ?_) (fun q => absurd hb1 q)
    refine sx_iconst (v := -1) k241_10 (by decide) ?_
    exact cx_reti k241_11 rt_241 h
  · rw [if_neg hb1] at h
    refine sx_icmp_lt (tgt := 10) k241_2 (by decide) (fun q => absurd q hb1) (fun _ => ?_)
    refine sx_iload_n (i := 2) k241_5 rfl rfl ?_
    refine sx_iconst (v := 4) k241_6 (by decide) ?_
    by_cases hb2 : p2 ≤ (4 : Int32)
    · rw [if_pos hb2] at h
      refine sx_icmp_le (tgt := 12) k241_7 (by decide) (fun _ => ?_) (fun q => absurd hb2 q)
      refine sx_aload_n (i := 0) k241_12 rfl rfl ?_
      refine cx_getI (k := 1) k241_13 ow_241 fl_12_3 (by decide) sk_129 ft_11_1 ?_
      refine sx_iload_n (i := 2) k241_16 rfl rfl ?_
      refine sx_iadd k241_17 ?_
      refine sx_sipush (v := 256) k241_18 (by decide) ?_
      by_cases hb3 : ((μ.1 129 1) + p2) ≤ (256 : Int32)
      · rw [if_pos hb3] at h
        refine sx_icmp_le (tgt := 27) k241_21 (by decide) (fun _ => ?_) (fun q => absurd hb3 q)
        refine sx_iload_n (i := 2) k241_27 rfl rfl ?_
        refine sx_iconst (v := 1) k241_28 (by decide) ?_
        refine sx_isub k241_29 ?_
        refine cx_nm h (fun x4 h => ?_)
        refine cx_istore_n (lo2 := [(3, .int x4), (0, .ref 129), (1, .int p1), (2, .int p2)]) k241_30 rfl (by rw [mx_241]; decide) rfl ?_
        refine sx_pick (lo2 := [(0, .ref 129), (1, .int p1), (3, .int x4)]) [1, 2, 0] rfl ?_
        exact l241_31_ok gF p1 x4 _ _ h
      · rw [if_neg hb3] at h
        refine sx_icmp_le (tgt := 27) k241_21 (by decide) (fun q => absurd q hb3) (fun _ => ?_)
        refine sx_bipush (v := -3) k241_24 (by decide) ?_
        exact cx_reti k241_26 rt_241 h
    · rw [if_neg hb2] at h
      refine sx_icmp_le (tgt := 12) k241_7 (by decide) (fun q => absurd q hb2) (fun _ => ?_)
      refine sx_iconst (v := -1) k241_10 (by decide) ?_
      exact cx_reti k241_11 rt_241 h
theorem k242_0 : decode (gb 242) 0 = .ok (.iload_n 1, 1) := by decide +kernel
theorem k242_1 : decode (gb 242) 1 = .ok (.ifCond .lt 11, 3) := by decide +kernel
theorem k242_4 : decode (gb 242) 4 = .ok (.iload_n 1, 1) := by decide +kernel
theorem k242_5 : decode (gb 242) 5 = .ok (.aload_n 0, 1) := by decide +kernel
theorem k242_6 : decode (gb 242) 6 = .ok (.getfield 3, 3) := by decide +kernel
theorem k242_9 : decode (gb 242) 9 = .ok (.if_icmp .lt 7, 3) := by decide +kernel
theorem k242_12 : decode (gb 242) 12 = .ok (.iconst (-1), 1) := by decide +kernel
theorem k242_13 : decode (gb 242) 13 = .ok (.goto 9, 3) := by decide +kernel
theorem k242_16 : decode (gb 242) 16 = .ok (.aload_n 0, 1) := by decide +kernel
theorem k242_17 : decode (gb 242) 17 = .ok (.getfield 7, 3) := by decide +kernel
theorem k242_20 : decode (gb 242) 20 = .ok (.iload_n 1, 1) := by decide +kernel
theorem k242_21 : decode (gb 242) 21 = .ok (.iaload, 1) := by decide +kernel
theorem k242_22 : decode (gb 242) 22 = .ok (.ireturn, 1) := by decide +kernel
def c242_12 (μ : Mem) : Option (Mem × Int32) :=
  some (μ, (-1 : Int32))
theorem c242_12_ok {L : Nat} (μ : Mem) (res : Mem × Int32) (h : c242_12 μ = some res) : Sx 242 12 [] [] 0 0 (mk L μ) (mk L res.1, some (.int res.2)) := by
  unfold c242_12 at h
  refine sx_iconst (v := -1) k242_12 (by decide) ?_
  refine sx_goto (tgt := 22) k242_13 (by decide) ?_
  exact cx_reti k242_22 rt_242 h
/-- CraftHouseModel.taped(I)I -/
def f242 (p1 : Int32) (μ : Mem) : Option (Mem × Int32) :=
  if p1 < 0 then
    c242_12 μ
  else
    if p1 < (μ.1 129 1) then
      (ldA 130 p1 μ).bind fun x3 =>
      some (μ, x3)
    else
      c242_12 μ
theorem ok242 {L : Nat} (p1 : Int32) (μ : Mem) (res : Mem × Int32) (h : f242 p1 μ = some res) : Mx 242 [.ref 129, .int p1] (mk L μ) (mk L res.1, some (.int res.2)) := by
  refine Mx_of ml_242 (by rw [mx_242]; exact Nat.le_of_ble_eq_true rfl) ?_
  show Sx 242 0 [(0, .ref 129), (1, .int p1)] [] 0 0 (mk L μ) _
  unfold f242 at h
  refine sx_iload_n (i := 1) k242_0 rfl rfl ?_
  by_cases hb1 : p1 < 0
  · rw [if_pos hb1] at h
    refine sx_if_lt (tgt := 12) k242_1 (by decide) (fun _ => ?_) (fun q => absurd hb1 q)
    refine sx_pick (lo2 := []) [] rfl ?_
    exact c242_12_ok _ _ h
  · rw [if_neg hb1] at h
    refine sx_if_lt (tgt := 12) k242_1 (by decide) (fun q => absurd q hb1) (fun _ => ?_)
    refine sx_iload_n (i := 1) k242_4 rfl rfl ?_
    refine sx_aload_n (i := 0) k242_5 rfl rfl ?_
    refine cx_getI (k := 1) k242_6 ow_242 fl_12_3 (by decide) sk_129 ft_11_1 ?_
    by_cases hb2 : p1 < (μ.1 129 1)
    · rw [if_pos hb2] at h
      refine sx_icmp_lt (tgt := 16) k242_9 (by decide) (fun _ => ?_) (fun q => absurd hb2 q)
      refine sx_aload_n (i := 0) k242_16 rfl rfl ?_
      refine cx_getR (k := 0) k242_17 ow_242 fl_12_7 (by decide) sk_129 ft_11_0 sr_129_0 ?_
      refine sx_iload_n (i := 1) k242_20 rfl rfl ?_
      obtain ⟨x3, e4, h⟩ := Option.bind_eq_some_iff.mp h
      refine cx_iald k242_21 sk_130 e4 ?_
      exact cx_reti k242_22 rt_242 h
    · rw [if_neg hb2] at h
      refine sx_icmp_lt (tgt := 16) k242_9 (by decide) (fun q => absurd q hb2) (fun _ => ?_)
      refine sx_pick (lo2 := []) [] rfl ?_
      exact c242_12_ok _ _ h
theorem k243_0 : decode (gb 243) 0 = .ok (.aload_n 0, 1) := by decide +kernel
theorem k243_1 : decode (gb 243) 1 = .ok (.getfield 3, 3) := by decide +kernel
theorem k243_4 : decode (gb 243) 4 = .ok (.istore_n 1, 1) := by decide +kernel
theorem k243_5 : decode (gb 243) 5 = .ok (.aload_n 0, 1) := by decide +kernel
theorem k243_6 : decode (gb 243) 6 = .ok (.iconst 0, 1) := by decide +kernel
theorem k243_7 : decode (gb 243) 7 = .ok (.putfield 3, 3) := by decide +kernel
theorem k243_10 : decode (gb 243) 10 = .ok (.iload_n 1, 1) := by decide +kernel
theorem k243_11 : decode (gb 243) 11 = .ok (.ireturn, 1) := by decide +kernel
/-- CraftHouseModel.wipe()I -/
def f243 (μ : Mem) : Option (Mem × Int32) :=
  (pfI 129 1 (0 : Int32) μ).bind fun m1 =>
  some (m1, (μ.1 129 1))
theorem ok243 {L : Nat} (μ : Mem) (res : Mem × Int32) (h : f243 μ = some res) : Mx 243 [.ref 129] (mk L μ) (mk L res.1, some (.int res.2)) := by
  refine Mx_of ml_243 (by rw [mx_243]; exact Nat.le_of_ble_eq_true rfl) ?_
  show Sx 243 0 [(0, .ref 129)] [] 0 0 (mk L μ) _
  unfold f243 at h
  refine sx_aload_n (i := 0) k243_0 rfl rfl ?_
  refine cx_getI (k := 1) k243_1 ow_243 fl_12_3 (by decide) sk_129 ft_11_1 ?_
  refine cx_istore_n (lo2 := [(1, .int (μ.1 129 1)), (0, .ref 129)]) k243_4 rfl (by rw [mx_243]; decide) rfl ?_
  refine sx_aload_n (i := 0) k243_5 rfl rfl ?_
  refine sx_iconst (v := 0) k243_6 (by decide) ?_
  obtain ⟨m1, e2, h⟩ := Option.bind_eq_some_iff.mp h
  refine cx_putI (k := 1) k243_7 ow_243 fl_12_3 (by decide) sk_129 nf_11_1 fu_11_1 e2 ?_
  refine sx_iload_n (i := 1) k243_10 rfl rfl ?_
  exact cx_reti k243_11 rt_243 h
theorem k245_0 : decode (gb 245) 0 = .ok (.ldc 15, 2) := by decide +kernel
theorem k245_2 : decode (gb 245) 2 = .ok (.istore_n 3, 1) := by decide +kernel
theorem k245_3 : decode (gb 245) 3 = .ok (.iconst 0, 1) := by decide +kernel
theorem k245_4 : decode (gb 245) 4 = .ok (.istore 4, 2) := by decide +kernel
theorem k245_6 : decode (gb 245) 6 = .ok (.iload 4, 2) := by decide +kernel
theorem k245_8 : decode (gb 245) 8 = .ok (.iload_n 2, 1) := by decide +kernel
theorem k245_9 : decode (gb 245) 9 = .ok (.if_icmp .ge 71, 3) := by decide +kernel
theorem k245_12 : decode (gb 245) 12 = .ok (.bipush 7, 2) := by decide +kernel
theorem k245_14 : decode (gb 245) 14 = .ok (.istore 5, 2) := by decide +kernel
theorem k245_16 : decode (gb 245) 16 = .ok (.iload 5, 2) := by decide +kernel
theorem k245_18 : decode (gb 245) 18 = .ok (.ifCond .lt 56, 3) := by decide +kernel
theorem k245_21 : decode (gb 245) 21 = .ok (.iload_n 3, 1) := by decide +kernel
theorem k245_22 : decode (gb 245) 22 = .ok (.bipush 15, 2) := by decide +kernel
theorem k245_24 : decode (gb 245) 24 = .ok (.ishr, 1) := by decide +kernel
theorem k245_25 : decode (gb 245) 25 = .ok (.iconst 1, 1) := by decide +kernel
theorem k245_26 : decode (gb 245) 26 = .ok (.iand, 1) := by decide +kernel
theorem k245_27 : decode (gb 245) 27 = .ok (.aload_n 0, 1) := by decide +kernel
theorem k245_28 : decode (gb 245) 28 = .ok (.iload_n 1, 1) := by decide +kernel
theorem k245_29 : decode (gb 245) 29 = .ok (.iload 4, 2) := by decide +kernel
theorem k245_31 : decode (gb 245) 31 = .ok (.iadd, 1) := by decide +kernel
theorem k245_32 : decode (gb 245) 32 = .ok (.iaload, 1) := by decide +kernel
theorem k245_33 : decode (gb 245) 33 = .ok (.iload 5, 2) := by decide +kernel
theorem k245_35 : decode (gb 245) 35 = .ok (.ishr, 1) := by decide +kernel
theorem k245_36 : decode (gb 245) 36 = .ok (.iconst 1, 1) := by decide +kernel
theorem k245_37 : decode (gb 245) 37 = .ok (.iand, 1) := by decide +kernel
theorem k245_38 : decode (gb 245) 38 = .ok (.if_icmp .eq 7, 3) := by decide +kernel
theorem k245_41 : decode (gb 245) 41 = .ok (.iconst 1, 1) := by decide +kernel
theorem k245_42 : decode (gb 245) 42 = .ok (.goto 4, 3) := by decide +kernel
theorem k245_45 : decode (gb 245) 45 = .ok (.iconst 0, 1) := by decide +kernel
theorem k245_46 : decode (gb 245) 46 = .ok (.istore 6, 2) := by decide +kernel
theorem k245_48 : decode (gb 245) 48 = .ok (.iconst 2, 1) := by decide +kernel
theorem k245_49 : decode (gb 245) 49 = .ok (.iload_n 3, 1) := by decide +kernel
theorem k245_50 : decode (gb 245) 50 = .ok (.imul, 1) := by decide +kernel
theorem k245_51 : decode (gb 245) 51 = .ok (.iload 6, 2) := by decide +kernel
theorem k245_53 : decode (gb 245) 53 = .ok (.ifCond .eq 9, 3) := by decide +kernel
theorem k245_56 : decode (gb 245) 56 = .ok (.sipush 4129, 3) := by decide +kernel
theorem k245_59 : decode (gb 245) 59 = .ok (.goto 4, 3) := by decide +kernel
theorem k245_62 : decode (gb 245) 62 = .ok (.iconst 0, 1) := by decide +kernel
theorem k245_63 : decode (gb 245) 63 = .ok (.ixor, 1) := by decide +kernel
theorem k245_64 : decode (gb 245) 64 = .ok (.ldc 15, 2) := by decide +kernel
theorem k245_66 : decode (gb 245) 66 = .ok (.iand, 1) := by decide +kernel
theorem k245_67 : decode (gb 245) 67 = .ok (.istore_n 3, 1) := by decide +kernel
theorem k245_68 : decode (gb 245) 68 = .ok (.iinc 5 (-1), 3) := by decide +kernel
theorem k245_71 : decode (gb 245) 71 = .ok (.goto (-55), 3) := by decide +kernel
theorem k245_74 : decode (gb 245) 74 = .ok (.iinc 4 1, 3) := by decide +kernel
theorem k245_77 : decode (gb 245) 77 = .ok (.goto (-71), 3) := by decide +kernel
theorem k245_80 : decode (gb 245) 80 = .ok (.iload_n 3, 1) := by decide +kernel
theorem k245_81 : decode (gb 245) 81 = .ok (.ireturn, 1) := by decide +kernel
def c245_63 (p1 : Nat) (kl6 : Int32 → Int32 → Int32 → Int32 → Mem → Option (Mem × Int32)) (kl16 : Int32 → Int32 → Int32 → Int32 → Int32 → Mem → Option (Mem × Int32)) (v1 : Int32) (v2 : Int32) (v4 : Int32) (v5 : Int32) (s0 : Int32) (s1 : Int32) (μ : Mem) : Option (Mem × Int32) :=
  nm ((s0 ^^^ s1) &&& (65535 : Int32)) fun x1 =>
  nm (v5 + (-1 : Int32)) fun x2 =>
  kl16 v1 v2 x1 v4 x2 μ
theorem c245_63_ok {L : Nat} (p1 : Nat) (h1 : SK0 p1 = (1, gln p1)) (kl6 : Int32 → Int32 → Int32 → Int32 → Mem → Option (Mem × Int32)) (kl16 : Int32 → Int32 → Int32 → Int32 → Int32 → Mem → Option (Mem × Int32)) (hk6 : (∀ (v1 : Int32) (v2 : Int32) (v3 : Int32) (v4 : Int32) (μ : Mem) (res : Mem × Int32), kl6 v1 v2 v3 v4 μ = some res → Sx 245 6 [(0, .ref p1), (1, .int v1), (2, .int v2), (3, .int v3), (4, .int v4)] [] 0 0 (mk L μ) (mk L res.1, some (.int res.2)))) (hk16 : (∀ (v1 : Int32) (v2 : Int32) (v3 : Int32) (v4 : Int32) (v5 : Int32) (μ : Mem) (res : Mem × Int32), kl16 v1 v2 v3 v4 v5 μ = some res → Sx 245 16 [(0, .ref p1), (1, .int v1), (2, .int v2), (3, .int v3), (4, .int v4), (5, .int v5)] [] 0 0 (mk L μ) (mk L res.1, some (.int res.2)))) (v1 : Int32) (v2 : Int32) (v4 : Int32) (v5 : Int32) (s0 : Int32) (s1 : Int32) (μ : Mem) (res : Mem × Int32) (h : c245_63 p1 kl6 kl16 v1 v2 v4 v5 s0 s1 μ = some res) : Sx 245 63 [(0, .ref p1), (1, .int v1), (2, .int v2), (4, .int v4), (5, .int v5)] [.int s1, .int s0] 0 0 (mk L μ) (mk L res.1, some (.int res.2)) := by
  unfold c245_63 at h
  refine sx_ixor k245_63 ?_
  refine cx_ldc (v := 65535) k245_64 ow_245 kl_12_15 (by decide) ?_
  refine sx_iand k245_66 ?_
  refine cx_nm h (fun x1 h => ?_)
  refine cx_istore_n (lo2 := [(3, .int x1), (0, .ref p1), (1, .int v1), (2, .int v2), (4, .int v4), (5, .int v5)]) k245_67 rfl (by rw [mx_245]; decide) rfl ?_
  refine cx_iinc (c := -1) (lo2 := fun x2 => [(5, .int x2), (3, .int x1), (0, .ref p1), (1, .int v1), (2, .int v2), (4, .int v4)]) k245_68 rfl (by decide) (by rw [mx_245]; decide) (fun _ => rfl) h (fun x2 h => ?_)
  refine sx_goto (tgt := 16) k245_71 (by decide) ?_
  refine sx_pick (lo2 := [(0, .ref p1), (1, .int v1), (2, .int v2), (3, .int x1), (4, .int v4), (5, .int x2)]) [2, 3, 4, 1, 5, 0] rfl ?_
  exact hk16 v1 v2 x1 v4 x2 _ _ h
def c245_46 (p1 : Nat) (kl6 : Int32 → Int32 → Int32 → Int32 → Mem → Option (Mem × Int32)) (kl16 : Int32 → Int32 → Int32 → Int32 → Int32 → Mem → Option (Mem × Int32)) (v1 : Int32) (v2 : Int32) (v3 : Int32) (v4 : Int32) (v5 : Int32) (s0 : Int32) (μ : Mem) : Option (Mem × Int32) :=
  if s0 = 0 then
    c245_63 p1 kl6 kl16 v1 v2 v4 v5 ((2 : Int32) * v3) (0 : Int32) μ
  else
    c245_63 p1 kl6 kl16 v1 v2 v4 v5 ((2 : Int32) * v3) (4129 : Int32) μ
theorem c245_46_ok {L : Nat} (p1 : Nat) (h1 : SK0 p1 = (1, gln p1)) (kl6 : Int32 → Int32 → Int32 → Int32 → Mem → Option (Mem × Int32)) (kl16 : Int32 → Int32 → Int32 → Int32 → Int32 → Mem → Option (Mem × Int32)) (hk6 : (∀ (v1 : Int32) (v2 : Int32) (v3 : Int32) (v4 : Int32) (μ : Mem) (res : Mem × Int32), kl6 v1 v2 v3 v4 μ = some res → Sx 245 6 [(0, .ref p1), (1, .int v1), (2, .int v2), (3, .int v3), (4, .int v4)] [] 0 0 (mk L μ) (mk L res.1, some (.int res.2)))) (hk16 : (∀ (v1 : Int32) (v2 : Int32) (v3 : Int32) (v4 : Int32) (v5 : Int32) (μ : Mem) (res : Mem × Int32), kl16 v1 v2 v3 v4 v5 μ = some res → Sx 245 16 [(0, .ref p1), (1, .int v1), (2, .int v2), (3, .int v3), (4, .int v4), (5, .int v5)] [] 0 0 (mk L μ) (mk L res.1, some (.int res.2)))) (v1 : Int32) (v2 : Int32) (v3 : Int32) (v4 : Int32) (v5 : Int32) (s0 : Int32) (μ : Mem) (res : Mem × Int32) (h : c245_46 p1 kl6 kl16 v1 v2 v3 v4 v5 s0 μ = some res) : Sx 245 46 [(0, .ref p1), (1, .int v1), (2, .int v2), (3, .int v3), (4, .int v4), (5, .int v5)] [.int s0] 0 0 (mk L μ) (mk L res.1, some (.int res.2)) := by
  unfold c245_46 at h
  refine cx_istore (lo2 := [(6, .int s0), (0, .ref p1), (1, .int v1), (2, .int v2), (3, .int v3), (4, .int v4), (5, .int v5)]) k245_46 (by rw [mx_245]; decide) rfl ?_
  refine sx_iconst (v := 2) k245_48 (by decide) ?_
  refine sx_iload_n (i := 3) k245_49 rfl rfl ?_
  refine sx_imul k245_50 ?_
  refine sx_iload k245_51 rfl ?_
  by_cases hb1 : s0 = 0
  · rw [if_pos hb1] at h
    refine sx_if_eq (tgt := 62) k245_53 (by decide) (fun _ => ?_) (fun q => absurd hb1 q)
    refine sx_iconst (v := 0) k245_62 (by decide) ?_
    refine sx_pick (lo2 := [(0, .ref p1), (1, .int v1), (2, .int v2), (4, .int v4), (5, .int v5)]) [1, 2, 3, 5, 6] rfl ?_
    exact c245_63_ok p1 h1 kl6 kl16 hk6 hk16 v1 v2 v4 v5 ((2 : Int32) * v3) (0 : Int32) _ _ h
  · rw [if_neg hb1] at h
    refine sx_if_eq (tgt := 62) k245_53 (by decide) (fun q => absurd q hb1) (fun _ => ?_)
    refine sx_sipush (v := 4129) k245_56 (by decide) ?_
    refine sx_goto (tgt := 63) k245_59 (by decide) ?_
    refine sx_pick (lo2 := [(0, .ref p1), (1, .int v1), (2, .int v2), (4, .int v4), (5, .int v5)]) [1, 2, 3, 5, 6] rfl ?_
    exact c245_63_ok p1 h1 kl6 kl16 hk6 hk16 v1 v2 v4 v5 ((2 : Int32) * v3) (4129 : Int32) _ _ h
def b245_16 (p1 : Nat) (kl6 : Int32 → Int32 → Int32 → Int32 → Mem → Option (Mem × Int32)) (kl16 : Int32 → Int32 → Int32 → Int32 → Int32 → Mem → Option (Mem × Int32)) (v1 : Int32) (v2 : Int32) (v3 : Int32) (v4 : Int32) (v5 : Int32) (μ : Mem) : Option (Mem × Int32) :=
  if v5 < 0 then
    nm (v4 + (1 : Int32)) fun x2 =>
    kl6 v1 v2 v3 x2 μ
  else
    (ldA p1 (v1 + v4) μ).bind fun x3 =>
    if ((jshr v3 (15 : Int32)) &&& (1 : Int32)) = ((jshr x3 v5) &&& (1 : Int32)) then
      c245_46 p1 kl6 kl16 v1 v2 v3 v4 v5 (0 : Int32) μ
    else
      c245_46 p1 kl6 kl16 v1 v2 v3 v4 v5 (1 : Int32) μ
theorem b245_16_ok {L : Nat} (p1 : Nat) (h1 : SK0 p1 = (1, gln p1)) (kl6 : Int32 → Int32 → Int32 → Int32 → Mem → Option (Mem × Int32)) (kl16 : Int32 → Int32 → Int32 → Int32 → Int32 → Mem → Option (Mem × Int32)) (hk6 : (∀ (v1 : Int32) (v2 : Int32) (v3 : Int32) (v4 : Int32) (μ : Mem) (res : Mem × Int32), kl6 v1 v2 v3 v4 μ = some res → Sx 245 6 [(0, .ref p1), (1, .int v1), (2, .int v2), (3, .int v3), (4, .int v4)] [] 0 0 (mk L μ) (mk L res.1, some (.int res.2)))) (hk16 : (∀ (v1 : Int32) (v2 : Int32) (v3 : Int32) (v4 : Int32) (v5 : Int32) (μ : Mem) (res : Mem × Int32), kl16 v1 v2 v3 v4 v5 μ = some res → Sx 245 16 [(0, .ref p1), (1, .int v1), (2, .int v2), (3, .int v3), (4, .int v4), (5, .int v5)] [] 0 0 (mk L μ) (mk L res.1, some (.int res.2)))) (v1 : Int32) (v2 : Int32) (v3 : Int32) (v4 : Int32) (v5 : Int32) (μ : Mem) (res : Mem × Int32) (h : b245_16 p1 kl6 kl16 v1 v2 v3 v4 v5 μ = some res) : Sx 245 16 [(0, .ref p1), (1, .int v1), (2, .int v2), (3, .int v3), (4, .int v4), (5, .int v5)] [] 0 0 (mk L μ) (mk L res.1, some (.int res.2)) := by
  unfold b245_16 at h
  refine sx_iload k245_16 rfl ?_
  by_cases hb1 : v5 < 0
  · rw [if_pos hb1] at h
    refine sx_if_lt (tgt := 74) k245_18 (by decide) (fun _ => ?_) (fun q => absurd hb1 q)
    refine cx_iinc (c := 1) (lo2 := fun x2 => [(4, .int x2), (0, .ref p1), (1, .int v1), (2, .int v2), (3, .int v3), (5, .int v5)]) k245_74 rfl (by decide) (by rw [mx_245]; decide) (fun _ => rfl) h (fun x2 h => ?_)
    refine sx_goto (tgt := 6) k245_77 (by decide) ?_
    refine sx_pick (lo2 := [(0, .ref p1), (1, .int v1), (2, .int v2), (3, .int v3), (4, .int x2)]) [1, 2, 3, 4, 0] rfl ?_
    exact hk6 v1 v2 v3 x2 _ _ h
  · rw [if_neg hb1] at h
    refine sx_if_lt (tgt := 74) k245_18 (by decide) (fun q => absurd q hb1) (fun _ => ?_)
    refine sx_iload_n (i := 3) k245_21 rfl rfl ?_
    refine sx_bipush (v := 15) k245_22 (by decide) ?_
    refine sx_ishr k245_24 ?_
    refine sx_iconst (v := 1) k245_25 (by decide) ?_
    refine sx_iand k245_26 ?_
    refine sx_aload_n (i := 0) k245_27 rfl rfl ?_
    refine sx_iload_n (i := 1) k245_28 rfl rfl ?_
    refine sx_iload k245_29 rfl ?_
    refine sx_iadd k245_31 ?_
    obtain ⟨x3, e4, h⟩ := Option.bind_eq_some_iff.mp h
    refine cx_iald k245_32 h1 e4 ?_
    refine sx_iload k245_33 rfl ?_
    refine sx_ishr k245_35 ?_
    refine sx_iconst (v := 1) k245_36 (by decide) ?_
    refine sx_iand k245_37 ?_
    by_cases hb5 : ((jshr v3 (15 : Int32)) &&& (1 : Int32)) = ((jshr x3 v5) &&& (1 : Int32))
    · rw [if_pos hb5] at h
      refine sx_icmp_eq (tgt := 45) k245_38 (by decide) (fun _ => ?_) (fun q => absurd hb5 q)
      refine sx_iconst (v := 0) k245_45 (by decide) ?_
      refine sx_pick (lo2 := [(0, .ref p1), (1, .int v1), (2, .int v2), (3, .int v3), (4, .int v4), (5, .int v5)]) [0, 1, 2, 3, 4, 5] rfl ?_
      exact c245_46_ok p1 h1 kl6 kl16 hk6 hk16 v1 v2 v3 v4 v5 (0 : Int32) _ _ h
    · rw [if_neg hb5] at h
      refine sx_icmp_eq (tgt := 45) k245_38 (by decide) (fun q => absurd q hb5) (fun _ => ?_)
      refine sx_iconst (v := 1) k245_41 (by decide) ?_
      refine sx_goto (tgt := 46) k245_42 (by decide) ?_
      refine sx_pick (lo2 := [(0, .ref p1), (1, .int v1), (2, .int v2), (3, .int v3), (4, .int v4), (5, .int v5)]) [0, 1, 2, 3, 4, 5] rfl ?_
      exact c245_46_ok p1 h1 kl6 kl16 hk6 hk16 v1 v2 v3 v4 v5 (1 : Int32) _ _ h
def l245_16 (p1 : Nat) (kl6 : Int32 → Int32 → Int32 → Int32 → Mem → Option (Mem × Int32)) : Nat → Int32 × Int32 × Int32 × Int32 × Int32 × Mem → Option (Mem × Int32) :=
  fixN (fun self x => b245_16 p1 kl6 (fun v1 v2 v3 v4 v5 μ => self (v1, v2, v3, v4, v5, μ)) (x.1) (x.2.1) (x.2.2.1) (x.2.2.2.1) (x.2.2.2.2.1) (x.2.2.2.2.2))
theorem l245_16_ok {L : Nat} (p1 : Nat) (h1 : SK0 p1 = (1, gln p1)) (kl6 : Int32 → Int32 → Int32 → Int32 → Mem → Option (Mem × Int32)) (hk6 : (∀ (v1 : Int32) (v2 : Int32) (v3 : Int32) (v4 : Int32) (μ : Mem) (res : Mem × Int32), kl6 v1 v2 v3 v4 μ = some res → Sx 245 6 [(0, .ref p1), (1, .int v1), (2, .int v2), (3, .int v3), (4, .int v4)] [] 0 0 (mk L μ) (mk L res.1, some (.int res.2)))) (n : Nat) (v1 : Int32) (v2 : Int32) (v3 : Int32) (v4 : Int32) (v5 : Int32) (μ : Mem) (res : Mem × Int32) (h : l245_16 p1 kl6 n (v1, v2, v3, v4, v5, μ) = some res) : Sx 245 16 [(0, .ref p1), (1, .int v1), (2, .int v2), (3, .int v3), (4, .int v4), (5, .int v5)] [] 0 0 (mk L μ) (mk L res.1, some (.int res.2)) := by
  have key := fixN_ind (P := fun x res => Sx 245 16 [(0, .ref p1), (1, .int (x.1)), (2, .int (x.2.1)), (3, .int (x.2.2.1)), (4, .int (x.2.2.2.1)), (5, .int (x.2.2.2.2.1))] [] 0 0 (mk L (x.2.2.2.2.2)) (mk L res.1, some (.int res.2))) (F := fun self x => b245_16 p1 kl6 (fun v1 v2 v3 v4 v5 μ => self (v1, v2, v3, v4, v5, μ)) (x.1) (x.2.1) (x.2.2.1) (x.2.2.2.1) (x.2.2.2.2.1) (x.2.2.2.2.2)) (fun self hself x res h => b245_16_ok p1 h1 kl6 (fun v1 v2 v3 v4 v5 μ => self (v1, v2, v3, v4, v5, μ)) hk6 (fun v1 v2 v3 v4 v5 μ res hh => hself (v1, v2, v3, v4, v5, μ) res hh) (x.1) (x.2.1) (x.2.2.1) (x.2.2.2.1) (x.2.2.2.2.1) (x.2.2.2.2.2) res h) n (v1, v2, v3, v4, v5, μ) res h
  exact key
def b245_6 (p1 : Nat) (kl6 : Int32 → Int32 → Int32 → Int32 → Mem → Option (Mem × Int32)) (v1 : Int32) (v2 : Int32) (v3 : Int32) (v4 : Int32) (μ : Mem) : Option (Mem × Int32) :=
  if v2 ≤ v4 then
    some (μ, v3)
  else
    l245_16 p1 kl6 gF (v1, v2, v3, v4, (7 : Int32), μ)
theorem b245_6_ok {L : Nat} (p1 : Nat) (h1 : SK0 p1 = (1, gln p1)) (kl6 : Int32 → Int32 → Int32 → Int32 → Mem → Option (Mem × Int32)) (hk6 : (∀ (v1 : Int32) (v2 : Int32) (v3 : Int32) (v4 : Int32) (μ : Mem) (res : Mem × Int32), kl6 v1 v2 v3 v4 μ = some res → Sx 245 6 [(0, .ref p1), (1, .int v1), (2, .int v2), (3, .int v3), (4, .int v4)] [] 0 0 (mk L μ) (mk L res.1, some (.int res.2)))) (v1 : Int32) (v2 : Int32) (v3 : Int32) (v4 : Int32) (μ : Mem) (res : Mem × Int32) (h : b245_6 p1 kl6 v1 v2 v3 v4 μ = some res) : Sx 245 6 [(0, .ref p1), (1, .int v1), (2, .int v2), (3, .int v3), (4, .int v4)] [] 0 0 (mk L μ) (mk L res.1, some (.int res.2)) := by
  unfold b245_6 at h
  refine sx_iload k245_6 rfl ?_
  refine sx_iload_n (i := 2) k245_8 rfl rfl ?_
  by_cases hb1 : v2 ≤ v4
  · rw [if_pos hb1] at h
    refine sx_icmp_ge (tgt := 80) k245_9 (by decide) (fun _ => ?_) (fun q => absurd hb1 q)
    refine sx_iload_n (i := 3) k245_80 rfl rfl ?_
    exact cx_reti k245_81 rt_245 h
  · rw [if_neg hb1] at h
    refine sx_icmp_ge (tgt := 80) k245_9 (by decide) (fun q => absurd q hb1) (fun _ => ?_)
    refine sx_bipush (v := 7) k245_12 (by decide) ?_
    refine cx_istore (lo2 := [(5, .int (7 : Int32)), (0, .ref p1), (1, .int v1), (2, .int v2), (3, .int v3), (4, .int v4)]) k245_14 (by rw [mx_245]; decide) rfl ?_
    refine sx_pick (lo2 := [(0, .ref p1), (1, .int v1), (2, .int v2), (3, .int v3), (4, .int v4), (5, .int (7 : Int32))]) [1, 2, 3, 4, 5, 0] rfl ?_
    exact l245_16_ok p1 h1 kl6 hk6 gF v1 v2 v3 v4 (7 : Int32) _ _ h
def l245_6 (p1 : Nat) : Nat → Int32 × Int32 × Int32 × Int32 × Mem → Option (Mem × Int32) :=
  fixN (fun self x => b245_6 p1 (fun v1 v2 v3 v4 μ => self (v1, v2, v3, v4, μ)) (x.1) (x.2.1) (x.2.2.1) (x.2.2.2.1) (x.2.2.2.2))
theorem l245_6_ok {L : Nat} (p1 : Nat) (h1 : SK0 p1 = (1, gln p1)) (n : Nat) (v1 : Int32) (v2 : Int32) (v3 : Int32) (v4 : Int32) (μ : Mem) (res : Mem × Int32) (h : l245_6 p1 n (v1, v2, v3, v4, μ) = some res) : Sx 245 6 [(0, .ref p1), (1, .int v1), (2, .int v2), (3, .int v3), (4, .int v4)] [] 0 0 (mk L μ) (mk L res.1, some (.int res.2)) := by
  have key := fixN_ind (P := fun x res => Sx 245 6 [(0, .ref p1), (1, .int (x.1)), (2, .int (x.2.1)), (3, .int (x.2.2.1)), (4, .int (x.2.2.2.1))] [] 0 0 (mk L (x.2.2.2.2)) (mk L res.1, some (.int res.2))) (F := fun self x => b245_6 p1 (fun v1 v2 v3 v4 μ => self (v1, v2, v3, v4, μ)) (x.1) (x.2.1) (x.2.2.1) (x.2.2.2.1) (x.2.2.2.2)) (fun self hself x res h => b245_6_ok p1 h1 (fun v1 v2 v3 v4 μ => self (v1, v2, v3, v4, μ)) (fun v1 v2 v3 v4 μ res hh => hself (v1, v2, v3, v4, μ) res hh) (x.1) (x.2.1) (x.2.2.1) (x.2.2.2.1) (x.2.2.2.2) res h) n (v1, v2, v3, v4, μ) res h
  exact key
/-- CraftHouseModel.checkOf([III)I -/
def f245 (p1 : Nat) (p2 : Int32) (p3 : Int32) (μ : Mem) : Option (Mem × Int32) :=
  l245_6 p1 gF (p2, p3, (65535 : Int32), (0 : Int32), μ)
theorem ok245 {L : Nat} (p1 : Nat) (p2 : Int32) (p3 : Int32) (h1 : SK0 p1 = (1, gln p1)) (μ : Mem) (res : Mem × Int32) (h : f245 p1 p2 p3 μ = some res) : Mx 245 [.ref p1, .int p2, .int p3] (mk L μ) (mk L res.1, some (.int res.2)) := by
  refine Mx_of ml_245 (by rw [mx_245]; exact Nat.le_of_ble_eq_true rfl) ?_
  show Sx 245 0 [(0, .ref p1), (1, .int p2), (2, .int p3)] [] 0 0 (mk L μ) _
  unfold f245 at h
  refine cx_ldc (v := 65535) k245_0 ow_245 kl_12_15 (by decide) ?_
  refine cx_istore_n (lo2 := [(3, .int (65535 : Int32)), (0, .ref p1), (1, .int p2), (2, .int p3)]) k245_2 rfl (by rw [mx_245]; decide) rfl ?_
  refine sx_iconst (v := 0) k245_3 (by decide) ?_
  refine cx_istore (lo2 := [(4, .int (0 : Int32)), (3, .int (65535 : Int32)), (0, .ref p1), (1, .int p2), (2, .int p3)]) k245_4 (by rw [mx_245]; decide) rfl ?_
  refine sx_pick (lo2 := [(0, .ref p1), (1, .int p2), (2, .int p3), (3, .int (65535 : Int32)), (4, .int (0 : Int32))]) [2, 3, 4, 1, 0] rfl ?_
  exact l245_6_ok p1 h1 gF p2 p3 (65535 : Int32) (0 : Int32) _ _ h
theorem k244_0 : decode (gb 244) 0 = .ok (.aload_n 0, 1) := by decide +kernel
theorem k244_1 : decode (gb 244) 1 = .ok (.getfield 7, 3) := by decide +kernel
theorem k244_4 : decode (gb 244) 4 = .ok (.iconst 0, 1) := by decide +kernel
theorem k244_5 : decode (gb 244) 5 = .ok (.aload_n 0, 1) := by decide +kernel
theorem k244_6 : decode (gb 244) 6 = .ok (.getfield 3, 3) := by decide +kernel
theorem k244_9 : decode (gb 244) 9 = .ok (.invokestatic 11, 3) := by decide +kernel
theorem k244_12 : decode (gb 244) 12 = .ok (.ireturn, 1) := by decide +kernel
/-- CraftHouseModel.check()I -/
def f244 (μ : Mem) : Option (Mem × Int32) :=
  (f245 130 (0 : Int32) (μ.1 129 1) μ).bind fun r1 =>
  some (r1.1, r1.2)
theorem ok244 {L : Nat} (μ : Mem) (res : Mem × Int32) (h : f244 μ = some res) : Mx 244 [.ref 129] (mk L μ) (mk L res.1, some (.int res.2)) := by
  refine Mx_of ml_244 (by rw [mx_244]; exact Nat.le_of_ble_eq_true rfl) ?_
  show Sx 244 0 [(0, .ref 129)] [] 0 0 (mk L μ) _
  unfold f244 at h
  refine sx_aload_n (i := 0) k244_0 rfl rfl ?_
  refine cx_getR (k := 0) k244_1 ow_244 fl_12_7 (by decide) sk_129 ft_11_0 sr_129_0 ?_
  refine sx_iconst (v := 0) k244_4 (by decide) ?_
  refine sx_aload_n (i := 0) k244_5 rfl rfl ?_
  refine cx_getI (k := 1) k244_6 ow_244 fl_12_3 (by decide) sk_129 ft_11_1 ?_
  obtain ⟨r1, e2, h⟩ := Option.bind_eq_some_iff.mp h
  refine cx_S (sk := []) (vs := [.ref 130, .int (0 : Int32), .int (μ.1 129 1)]) st_244_245 k244_9 ow_244 cl_12_11 (by decide) rfl (Nat.le_of_ble_eq_true rfl) (ok245 130 (0 : Int32) (μ.1 129 1) sk_130 _ _ e2) (sk3 := [.int r1.2]) rfl rfl ?_
  exact cx_reti k244_12 rt_244 h
theorem k246_0 : decode (gb 246) 0 = .ok (.iconst 0, 1) := by decide +kernel
theorem k246_1 : decode (gb 246) 1 = .ok (.istore 5, 2) := by decide +kernel
theorem k246_3 : decode (gb 246) 3 = .ok (.iconst 0, 1) := by decide +kernel
theorem k246_4 : decode (gb 246) 4 = .ok (.istore 6, 2) := by decide +kernel
theorem k246_6 : decode (gb 246) 6 = .ok (.iload 6, 2) := by decide +kernel
theorem k246_8 : decode (gb 246) 8 = .ok (.iload_n 2, 1) := by decide +kernel
theorem k246_9 : decode (gb 246) 9 = .ok (.iload_n 3, 1) := by decide +kernel
theorem k246_10 : decode (gb 246) 10 = .ok (.iadd, 1) := by decide +kernel
theorem k246_11 : decode (gb 246) 11 = .ok (.if_icmp .ge 89, 3) := by decide +kernel
theorem k246_14 : decode (gb 246) 14 = .ok (.iload 6, 2) := by decide +kernel
theorem k246_16 : decode (gb 246) 16 = .ok (.iload_n 2, 1) := by decide +kernel
theorem k246_17 : decode (gb 246) 17 = .ok (.if_icmp .ge 26, 3) := by decide +kernel
theorem k246_20 : decode (gb 246) 20 = .ok (.aload_n 0, 1) := by decide +kernel
theorem k246_21 : decode (gb 246) 21 = .ok (.iload_n 1, 1) := by decide +kernel
theorem k246_22 : decode (gb 246) 22 = .ok (.iload 6, 2) := by decide +kernel
theorem k246_24 : decode (gb 246) 24 = .ok (.bipush 8, 2) := by decide +kernel
theorem k246_26 : decode (gb 246) 26 = .ok (.idiv, 1) := by decide +kernel
theorem k246_27 : decode (gb 246) 27 = .ok (.iadd, 1) := by decide +kernel
theorem k246_28 : decode (gb 246) 28 = .ok (.iaload, 1) := by decide +kernel
theorem k246_29 : decode (gb 246) 29 = .ok (.bipush 7, 2) := by decide +kernel
theorem k246_31 : decode (gb 246) 31 = .ok (.iload 6, 2) := by decide +kernel
theorem k246_33 : decode (gb 246) 33 = .ok (.bipush 8, 2) := by decide +kernel
theorem k246_35 : decode (gb 246) 35 = .ok (.irem, 1) := by decide +kernel
theorem k246_36 : decode (gb 246) 36 = .ok (.isub, 1) := by decide +kernel
theorem k246_37 : decode (gb 246) 37 = .ok (.ishr, 1) := by decide +kernel
theorem k246_38 : decode (gb 246) 38 = .ok (.iconst 1, 1) := by decide +kernel
theorem k246_39 : decode (gb 246) 39 = .ok (.iand, 1) := by decide +kernel
theorem k246_40 : decode (gb 246) 40 = .ok (.goto 4, 3) := by decide +kernel
theorem k246_43 : decode (gb 246) 43 = .ok (.iconst 0, 1) := by decide +kernel
theorem k246_44 : decode (gb 246) 44 = .ok (.istore 7, 2) := by decide +kernel
theorem k246_46 : decode (gb 246) 46 = .ok (.iload 7, 2) := by decide +kernel
theorem k246_48 : decode (gb 246) 48 = .ok (.iload 4, 2) := by decide +kernel
theorem k246_50 : decode (gb 246) 50 = .ok (.ifCond .le 14, 3) := by decide +kernel
theorem k246_53 : decode (gb 246) 53 = .ok (.iload 6, 2) := by decide +kernel
theorem k246_55 : decode (gb 246) 55 = .ok (.bipush 56, 2) := by decide +kernel
theorem k246_57 : decode (gb 246) 57 = .ok (.if_icmp .lt 7, 3) := by decide +kernel
theorem k246_60 : decode (gb 246) 60 = .ok (.iconst 1, 1) := by decide +kernel
theorem k246_61 : decode (gb 246) 61 = .ok (.goto 4, 3) := by decide +kernel
theorem k246_64 : decode (gb 246) 64 = .ok (.iconst 0, 1) := by decide +kernel
theorem k246_65 : decode (gb 246) 65 = .ok (.ixor, 1) := by decide +kernel
theorem k246_66 : decode (gb 246) 66 = .ok (.istore 7, 2) := by decide +kernel
theorem k246_68 : decode (gb 246) 68 = .ok (.iload 5, 2) := by decide +kernel
theorem k246_70 : decode (gb 246) 70 = .ok (.iconst 1, 1) := by decide +kernel
theorem k246_71 : decode (gb 246) 71 = .ok (.ishl, 1) := by decide +kernel
theorem k246_72 : decode (gb 246) 72 = .ok (.iload 7, 2) := by decide +kernel
theorem k246_74 : decode (gb 246) 74 = .ok (.ior, 1) := by decide +kernel
theorem k246_75 : decode (gb 246) 75 = .ok (.istore 5, 2) := by decide +kernel
theorem k246_77 : decode (gb 246) 77 = .ok (.iload 5, 2) := by decide +kernel
theorem k246_79 : decode (gb 246) 79 = .ok (.sipush 128, 3) := by decide +kernel
theorem k246_82 : decode (gb 246) 82 = .ok (.iand, 1) := by decide +kernel
theorem k246_83 : decode (gb 246) 83 = .ok (.ifCond .eq 11, 3) := by decide +kernel
theorem k246_86 : decode (gb 246) 86 = .ok (.iload 5, 2) := by decide +kernel
theorem k246_88 : decode (gb 246) 88 = .ok (.sipush 197, 3) := by decide +kernel
theorem k246_91 : decode (gb 246) 91 = .ok (.ixor, 1) := by decide +kernel
theorem k246_92 : decode (gb 246) 92 = .ok (.istore 5, 2) := by decide +kernel
theorem k246_94 : decode (gb 246) 94 = .ok (.iinc 6 1, 3) := by decide +kernel
theorem k246_97 : decode (gb 246) 97 = .ok (.goto (-91), 3) := by decide +kernel
theorem k246_100 : decode (gb 246) 100 = .ok (.iload 5, 2) := by decide +kernel
theorem k246_102 : decode (gb 246) 102 = .ok (.ireturn, 1) := by decide +kernel
def c246_94 (p1 : Nat) (kl6 : Int32 → Int32 → Int32 → Int32 → Int32 → Int32 → Mem → Option (Mem × Int32)) (v1 : Int32) (v2 : Int32) (v3 : Int32) (v4 : Int32) (v5 : Int32) (v6 : Int32) (μ : Mem) : Option (Mem × Int32) :=
  nm (v6 + (1 : Int32)) fun x1 =>
  kl6 v1 v2 v3 v4 v5 x1 μ
theorem c246_94_ok {L : Nat} (p1 : Nat) (h1 : SK0 p1 = (1, gln p1)) (kl6 : Int32 → Int32 → Int32 → Int32 → Int32 → Int32 → Mem → Option (Mem × Int32)) (hk6 : (∀ (v1 : Int32) (v2 : Int32) (v3 : Int32) (v4 : Int32) (v5 : Int32) (v6 : Int32) (μ : Mem) (res : Mem × Int32), kl6 v1 v2 v3 v4 v5 v6 μ = some res → Sx 246 6 [(0, .ref p1), (1, .int v1), (2, .int v2), (3, .int v3), (4, .int v4), (5, .int v5), (6, .int v6)] [] 0 0 (mk L μ) (mk L res.1, some (.int res.2)))) (v1 : Int32) (v2 : Int32) (v3 : Int32) (v4 : Int32) (v5 : Int32) (v6 : Int32) (μ : Mem) (res : Mem × Int32) (h : c246_94 p1 kl6 v1 v2 v3 v4 v5 v6 μ = some res) : Sx 246 94 [(0, .ref p1), (1, .int v1), (2, .int v2), (3, .int v3), (4, .int v4), (5, .int v5), (6, .int v6)] [] 0 0 (mk L μ) (mk L res.1, some (.int res.2)) := by
  unfold c246_94 at h
  refine cx_iinc (c := 1) (lo2 := fun x1 => [(6, .int x1), (0, .ref p1), (1, .int v1), (2, .int v2), (3, .int v3), (4, .int v4), (5, .int v5)]) k246_94 rfl (by decide) (by rw [mx_246]; decide) (fun _ => rfl) h (fun x1 h => ?_)
  refine sx_goto (tgt := 6) k246_97 (by decide) ?_
  refine sx_pick (lo2 := [(0, .ref p1), (1, .int v1), (2, .int v2), (3, .int v3), (4, .int v4), (5, .int v5), (6, .int x1)]) [1, 2, 3, 4, 5, 6, 0] rfl ?_
  exact hk6 v1 v2 v3 v4 v5 x1 _ _ h
def c246_65 (p1 : Nat) (kl6 : Int32 → Int32 → Int32 → Int32 → Int32 → Int32 → Mem → Option (Mem × Int32)) (v1 : Int32) (v2 : Int32) (v3 : Int32) (v4 : Int32) (v5 : Int32) (v6 : Int32) (s0 : Int32) (s1 : Int32) (μ : Mem) : Option (Mem × Int32) :=
  nm (s0 ^^^ s1) fun x1 =>
  nm ((jshl v5 (1 : Int32)) ||| x1) fun x2 =>
  if (x2 &&& (128 : Int32)) = 0 then
    c246_94 p1 kl6 v1 v2 v3 v4 x2 v6 μ
  else
    nm (x2 ^^^ (197 : Int32)) fun x4 =>
    c246_94 p1 kl6 v1 v2 v3 v4 x4 v6 μ
theorem c246_65_ok {L : Nat} (p1 : Nat) (h1 : SK0 p1 = (1, gln p1)) (kl6 : Int32 → Int32 → Int32 → Int32 → Int32 → Int32 → Mem → Option (Mem × Int32)) (hk6 : (∀ (v1 : Int32) (v2 : Int32) (v3 : Int32) (v4 : Int32) (v5 : Int32) (v6 : Int32) (μ : Mem) (res : Mem × Int32), kl6 v1 v2 v3 v4 v5 v6 μ = some res → Sx 246 6 [(0, .ref p1), (1, .int v1), (2, .int v2), (3, .int v3), (4, .int v4), (5, .int v5), (6, .int v6)] [] 0 0 (mk L μ) (mk L res.1, some (.int res.2)))) (v1 : Int32) (v2 : Int32) (v3 : Int32) (v4 : Int32) (v5 : Int32) (v6 : Int32) (s0 : Int32) (s1 : Int32) (μ : Mem) (res : Mem × Int32) (h : c246_65 p1 kl6 v1 v2 v3 v4 v5 v6 s0 s1 μ = some res) : Sx 246 65 [(0, .ref p1), (1, .int v1), (2, .int v2), (3, .int v3), (4, .int v4), (5, .int v5), (6, .int v6)] [.int s1, .int s0] 0 0 (mk L μ) (mk L res.1, some (.int res.2)) := by
  unfold c246_65 at h
  refine sx_ixor k246_65 ?_
  refine cx_nm h (fun x1 h => ?_)
  refine cx_istore (lo2 := [(7, .int x1), (0, .ref p1), (1, .int v1), (2, .int v2), (3, .int v3), (4, .int v4), (5, .int v5), (6, .int v6)]) k246_66 (by rw [mx_246]; decide) rfl ?_
  refine sx_iload k246_68 rfl ?_
  refine sx_iconst (v := 1) k246_70 (by decide) ?_
  refine sx_ishl k246_71 ?_
  refine sx_iload k246_72 rfl ?_
  refine sx_ior k246_74 ?_
  refine cx_nm h (fun x2 h => ?_)
  refine cx_istore (lo2 := [(5, .int x2), (7, .int x1), (0, .ref p1), (1, .int v1), (2, .int v2), (3, .int v3), (4, .int v4), (6, .int v6)]) k246_75 (by rw [mx_246]; decide) rfl ?_
  refine sx_iload k246_77 rfl ?_
  refine sx_sipush (v := 128) k246_79 (by decide) ?_
  refine sx_iand k246_82 ?_
  by_cases hb3 : (x2 &&& (128 : Int32)) = 0
  · rw [if_pos hb3] at h
    refine sx_if_eq (tgt := 94) k246_83 (by decide) (fun _ => ?_) (fun q => absurd hb3 q)
    refine sx_pick (lo2 := [(0, .ref p1), (1, .int v1), (2, .int v2), (3, .int v3), (4, .int v4), (5, .int x2), (6, .int v6)]) [2, 3, 4, 5, 6, 0, 7] rfl ?_
    exact c246_94_ok p1 h1 kl6 hk6 v1 v2 v3 v4 x2 v6 _ _ h
  · rw [if_neg hb3] at h
    refine sx_if_eq (tgt := 94) k246_83 (by decide) (fun q => absurd q hb3) (fun _ => ?_)
    refine sx_iload k246_86 rfl ?_
    refine sx_sipush (v := 197) k246_88 (by decide) ?_
    refine sx_ixor k246_91 ?_
    refine cx_nm h (fun x4 h => ?_)
    refine cx_istore (lo2 := [(5, .int x4), (7, .int x1), (0, .ref p1), (1, .int v1), (2, .int v2), (3, .int v3), (4, .int v4), (6, .int v6)]) k246_92 (by rw [mx_246]; decide) rfl ?_
    refine sx_pick (lo2 := [(0, .ref p1), (1, .int v1), (2, .int v2), (3, .int v3), (4, .int v4), (5, .int x4), (6, .int v6)]) [2, 3, 4, 5, 6, 0, 7] rfl ?_
    exact c246_94_ok p1 h1 kl6 hk6 v1 v2 v3 v4 x4 v6 _ _ h
def c246_64 (p1 : Nat) (kl6 : Int32 → Int32 → Int32 → Int32 → Int32 → Int32 → Mem → Option (Mem × Int32)) (v1 : Int32) (v2 : Int32) (v3 : Int32) (v4 : Int32) (v5 : Int32) (v6 : Int32) (s0 : Int32) (μ : Mem) : Option (Mem × Int32) :=
  c246_65 p1 kl6 v1 v2 v3 v4 v5 v6 s0 (0 : Int32) μ
theorem c246_64_ok {L : Nat} (p1 : Nat) (h1 : SK0 p1 = (1, gln p1)) (kl6 : Int32 → Int32 → Int32 → Int32 → Int32 → Int32 → Mem → Option (Mem × Int32)) (hk6 : (∀ (v1 : Int32) (v2 : Int32) (v3 : Int32) (v4 : Int32) (v5 : Int32) (v6 : Int32) (μ : Mem) (res : Mem × Int32), kl6 v1 v2 v3 v4 v5 v6 μ = some res → Sx 246 6 [(0, .ref p1), (1, .int v1), (2, .int v2), (3, .int v3), (4, .int v4), (5, .int v5), (6, .int v6)] [] 0 0 (mk L μ) (mk L res.1, some (.int res.2)))) (v1 : Int32) (v2 : Int32) (v3 : Int32) (v4 : Int32) (v5 : Int32) (v6 : Int32) (s0 : Int32) (μ : Mem) (res : Mem × Int32) (h : c246_64 p1 kl6 v1 v2 v3 v4 v5 v6 s0 μ = some res) : Sx 246 64 [(0, .ref p1), (1, .int v1), (2, .int v2), (3, .int v3), (4, .int v4), (5, .int v5), (6, .int v6)] [.int s0] 0 0 (mk L μ) (mk L res.1, some (.int res.2)) := by
  unfold c246_64 at h
  refine sx_iconst (v := 0) k246_64 (by decide) ?_
  refine sx_pick (lo2 := [(0, .ref p1), (1, .int v1), (2, .int v2), (3, .int v3), (4, .int v4), (5, .int v5), (6, .int v6)]) [0, 1, 2, 3, 4, 5, 6] rfl ?_
  exact c246_65_ok p1 h1 kl6 hk6 v1 v2 v3 v4 v5 v6 s0 (0 : Int32) _ _ h
def c246_44 (p1 : Nat) (kl6 : Int32 → Int32 → Int32 → Int32 → Int32 → Int32 → Mem → Option (Mem × Int32)) (v1 : Int32) (v2 : Int32) (v3 : Int32) (v4 : Int32) (v5 : Int32) (v6 : Int32) (s0 : Int32) (μ : Mem) : Option (Mem × Int32) :=
  if v4 ≤ 0 then
    c246_64 p1 kl6 v1 v2 v3 v4 v5 v6 s0 μ
  else
    if v6 < (56 : Int32) then
      c246_64 p1 kl6 v1 v2 v3 v4 v5 v6 s0 μ
    else
      c246_65 p1 kl6 v1 v2 v3 v4 v5 v6 s0 (1 : Int32) μ
theorem c246_44_ok {L : Nat} (p1 : Nat) (h1 : SK0 p1 = (1, gln p1)) (kl6 : Int32 → Int32 → Int32 → Int32 → Int32 → Int32 → Mem → Option (Mem × Int32)) (hk6 : (∀ (v1 : Int32) (v2 : Int32) (v3 : Int32) (v4 : Int32) (v5 : Int32) (v6 : Int32) (μ : Mem) (res : Mem × Int32), kl6 v1 v2 v3 v4 v5 v6 μ = some res → Sx 246 6 [(0, .ref p1), (1, .int v1), (2, .int v2), (3, .int v3), (4, .int v4), (5, .int v5), (6, .int v6)] [] 0 0 (mk L μ) (mk L res.1, some (.int res.2)))) (v1 : Int32) (v2 : Int32) (v3 : Int32) (v4 : Int32) (v5 : Int32) (v6 : Int32) (s0 : Int32) (μ : Mem) (res : Mem × Int32) (h : c246_44 p1 kl6 v1 v2 v3 v4 v5 v6 s0 μ = some res) : Sx 246 44 [(0, .ref p1), (1, .int v1), (2, .int v2), (3, .int v3), (4, .int v4), (5, .int v5), (6, .int v6)] [.int s0] 0 0 (mk L μ) (mk L res.1, some (.int res.2)) := by
  unfold c246_44 at h
  refine cx_istore (lo2 := [(7, .int s0), (0, .ref p1), (1, .int v1), (2, .int v2), (3, .int v3), (4, .int v4), (5, .int v5), (6, .int v6)]) k246_44 (by rw [mx_246]; decide) rfl ?_
  refine sx_iload k246_46 rfl ?_
  refine sx_iload k246_48 rfl ?_
  by_cases hb1 : v4 ≤ 0
  · rw [if_pos hb1] at h
    refine sx_if_le (tgt := 64) k246_50 (by decide) (fun _ => ?_) (fun q => absurd hb1 q)
    refine sx_pick (lo2 := [(0, .ref p1), (1, .int v1), (2, .int v2), (3, .int v3), (4, .int v4), (5, .int v5), (6, .int v6)]) [1, 2, 3, 4, 5, 6, 7] rfl ?_
    exact c246_64_ok p1 h1 kl6 hk6 v1 v2 v3 v4 v5 v6 s0 _ _ h
  · rw [if_neg hb1] at h
    refine sx_if_le (tgt := 64) k246_50 (by decide) (fun q => absurd q hb1) (fun _ => ?_)
    refine sx_iload k246_53 rfl ?_
    refine sx_bipush (v := 56) k246_55 (by decide) ?_
    by_cases hb2 : v6 < (56 : Int32)
    · rw [if_pos hb2] at h
      refine sx_icmp_lt (tgt := 64) k246_57 (by decide) (fun _ => ?_) (fun q => absurd hb2 q)
      refine sx_pick (lo2 := [(0, .ref p1), (1, .int v1), (2, .int v2), (3, .int v3), (4, .int v4), (5, .int v5), (6, .int v6)]) [1, 2, 3, 4, 5, 6, 7] rfl ?_
      exact c246_64_ok p1 h1 kl6 hk6 v1 v2 v3 v4 v5 v6 s0 _ _ h
    · rw [if_neg hb2] at h
      refine sx_icmp_lt (tgt := 64) k246_57 (by decide) (fun q => absurd q hb2) (fun _ => ?_)
      refine sx_iconst (v := 1) k246_60 (by decide) ?_
      refine sx_goto (tgt := 65) k246_61 (by decide) ?_
      refine sx_pick (lo2 := [(0, .ref p1), (1, .int v1), (2, .int v2), (3, .int v3), (4, .int v4), (5, .int v5), (6, .int v6)]) [1, 2, 3, 4, 5, 6, 7] rfl ?_
      exact c246_65_ok p1 h1 kl6 hk6 v1 v2 v3 v4 v5 v6 s0 (1 : Int32) _ _ h
def b246_6 (p1 : Nat) (kl6 : Int32 → Int32 → Int32 → Int32 → Int32 → Int32 → Mem → Option (Mem × Int32)) (v1 : Int32) (v2 : Int32) (v3 : Int32) (v4 : Int32) (v5 : Int32) (v6 : Int32) (μ : Mem) : Option (Mem × Int32) :=
  if (v2 + v3) ≤ v6 then
    some (μ, v5)
  else
    if v2 ≤ v6 then
      c246_44 p1 kl6 v1 v2 v3 v4 v5 v6 (0 : Int32) μ
    else
      (ldA p1 (v1 + (v6 / (8 : Int32))) μ).bind fun x3 =>
      c246_44 p1 kl6 v1 v2 v3 v4 v5 v6 ((jshr x3 ((7 : Int32) - (jrem v6 (8 : Int32)))) &&& (1 : Int32)) μ
theorem b246_6_ok {L : Nat} (p1 : Nat) (h1 : SK0 p1 = (1, gln p1)) (kl6 : Int32 → Int32 → Int32 → Int32 → Int32 → Int32 → Mem → Option (Mem × Int32)) (hk6 : (∀ (v1 : Int32) (v2 : Int32) (v3 : Int32) (v4 : Int32) (v5 : Int32) (v6 : Int32) (μ : Mem) (res : Mem × Int32), kl6 v1 v2 v3 v4 v5 v6 μ = some res → Sx 246 6 [(0, .ref p1), (1, .int v1), (2, .int v2), (3, .int v3), (4, .int v4), (5, .int v5), (6, .int v6)] [] 0 0 (mk L μ) (mk L res.1, some (.int res.2)))) (v1 : Int32) (v2 : Int32) (v3 : Int32) (v4 : Int32) (v5 : Int32) (v6 : Int32) (μ : Mem) (res : Mem × Int32) (h : b246_6 p1 kl6 v1 v2 v3 v4 v5 v6 μ = some res) : Sx 246 6 [(0, .ref p1), (1, .int v1), (2, .int v2), (3, .int v3), (4, .int v4), (5, .int v5), (6, .int v6)] [] 0 0 (mk L μ) (mk L res.1, some (.int res.2)) := by
  unfold b246_6 at h
  refine sx_iload k246_6 rfl ?_
  refine sx_iload_n (i := 2) k246_8 rfl rfl ?_
  refine sx_iload_n (i := 3) k246_9 rfl rfl ?_
  refine sx_iadd k246_10 ?_
  by_cases hb1 : (v2 + v3) ≤ v6
  · rw [if_pos hb1] at h
    refine sx_icmp_ge (tgt := 100) k246_11 (by decide) (fun _ => ?_) (fun q => absurd hb1 q)
    refine sx_iload k246_100 rfl ?_
    exact cx_reti k246_102 rt_246 h
  · rw [if_neg hb1] at h
    refine sx_icmp_ge (tgt := 100) k246_11 (by decide) (fun q => absurd q hb1) (fun _ => ?_)
    refine sx_iload k246_14 rfl ?_
    refine sx_iload_n (i := 2) k246_16 rfl rfl ?_
    by_cases hb2 : v2 ≤ v6
    · rw [if_pos hb2] at h
      refine sx_icmp_ge (tgt := 43) k246_17 (by decide) (fun _ => ?_) (fun q => absurd hb2 q)
      refine sx_iconst (v := 0) k246_43 (by decide) ?_
      refine sx_pick (lo2 := [(0, .ref p1), (1, .int v1), (2, .int v2), (3, .int v3), (4, .int v4), (5, .int v5), (6, .int v6)]) [0, 1, 2, 3, 4, 5, 6] rfl ?_
      exact c246_44_ok p1 h1 kl6 hk6 v1 v2 v3 v4 v5 v6 (0 : Int32) _ _ h
    · rw [if_neg hb2] at h
      refine sx_icmp_ge (tgt := 43) k246_17 (by decide) (fun q => absurd q hb2) (fun _ => ?_)
      refine sx_aload_n (i := 0) k246_20 rfl rfl ?_
      refine sx_iload_n (i := 1) k246_21 rfl rfl ?_
      refine sx_iload k246_22 rfl ?_
      refine sx_bipush (v := 8) k246_24 (by decide) ?_
      refine sx_idiv k246_26 (by decide) ?_
      refine sx_iadd k246_27 ?_
      obtain ⟨x3, e4, h⟩ := Option.bind_eq_some_iff.mp h
      refine cx_iald k246_28 h1 e4 ?_
      refine sx_bipush (v := 7) k246_29 (by decide) ?_
      refine sx_iload k246_31 rfl ?_
      refine sx_bipush (v := 8) k246_33 (by decide) ?_
      refine sx_irem k246_35 (by decide) ?_
      refine sx_isub k246_36 ?_
      refine sx_ishr k246_37 ?_
      refine sx_iconst (v := 1) k246_38 (by decide) ?_
      refine sx_iand k246_39 ?_
      refine sx_goto (tgt := 44) k246_40 (by decide) ?_
      refine sx_pick (lo2 := [(0, .ref p1), (1, .int v1), (2, .int v2), (3, .int v3), (4, .int v4), (5, .int v5), (6, .int v6)]) [0, 1, 2, 3, 4, 5, 6] rfl ?_
      exact c246_44_ok p1 h1 kl6 hk6 v1 v2 v3 v4 v5 v6 ((jshr x3 ((7 : Int32) - (jrem v6 (8 : Int32)))) &&& (1 : Int32)) _ _ h
def l246_6 (p1 : Nat) : Nat → Int32 × Int32 × Int32 × Int32 × Int32 × Int32 × Mem → Option (Mem × Int32) :=
  fixN (fun self x => b246_6 p1 (fun v1 v2 v3 v4 v5 v6 μ => self (v1, v2, v3, v4, v5, v6, μ)) (x.1) (x.2.1) (x.2.2.1) (x.2.2.2.1) (x.2.2.2.2.1) (x.2.2.2.2.2.1) (x.2.2.2.2.2.2))
theorem l246_6_ok {L : Nat} (p1 : Nat) (h1 : SK0 p1 = (1, gln p1)) (n : Nat) (v1 : Int32) (v2 : Int32) (v3 : Int32) (v4 : Int32) (v5 : Int32) (v6 : Int32) (μ : Mem) (res : Mem × Int32) (h : l246_6 p1 n (v1, v2, v3, v4, v5, v6, μ) = some res) : Sx 246 6 [(0, .ref p1), (1, .int v1), (2, .int v2), (3, .int v3), (4, .int v4), (5, .int v5), (6, .int v6)] [] 0 0 (mk L μ) (mk L res.1, some (.int res.2)) := by
  have key := fixN_ind (P := fun x res => Sx 246 6 [(0, .ref p1), (1, .int (x.1)), (2, .int (x.2.1)), (3, .int (x.2.2.1)), (4, .int (x.2.2.2.1)), (5, .int (x.2.2.2.2.1)), (6, .int (x.2.2.2.2.2.1))] [] 0 0 (mk L (x.2.2.2.2.2.2)) (mk L res.1, some (.int res.2))) (F := fun self x => b246_6 p1 (fun v1 v2 v3 v4 v5 v6 μ => self (v1, v2, v3, v4, v5, v6, μ)) (x.1) (x.2.1) (x.2.2.1) (x.2.2.2.1) (x.2.2.2.2.1) (x.2.2.2.2.2.1) (x.2.2.2.2.2.2)) (fun self hself x res h => b246_6_ok p1 h1 (fun v1 v2 v3 v4 v5 v6 μ => self (v1, v2, v3, v4, v5, v6, μ)) (fun v1 v2 v3 v4 v5 v6 μ res hh => hself (v1, v2, v3, v4, v5, v6, μ) res hh) (x.1) (x.2.1) (x.2.2.1) (x.2.2.2.1) (x.2.2.2.2.1) (x.2.2.2.2.2.1) (x.2.2.2.2.2.2) res h) n (v1, v2, v3, v4, v5, v6, μ) res h
  exact key
/-- CraftHouseModel.remainder([IIIII)I -/
def f246 (p1 : Nat) (p2 : Int32) (p3 : Int32) (p4 : Int32) (p5 : Int32) (μ : Mem) : Option (Mem × Int32) :=
  l246_6 p1 gF (p2, p3, p4, p5, (0 : Int32), (0 : Int32), μ)
theorem ok246 {L : Nat} (p1 : Nat) (p2 : Int32) (p3 : Int32) (p4 : Int32) (p5 : Int32) (h1 : SK0 p1 = (1, gln p1)) (μ : Mem) (res : Mem × Int32) (h : f246 p1 p2 p3 p4 p5 μ = some res) : Mx 246 [.ref p1, .int p2, .int p3, .int p4, .int p5] (mk L μ) (mk L res.1, some (.int res.2)) := by
  refine Mx_of ml_246 (by rw [mx_246]; exact Nat.le_of_ble_eq_true rfl) ?_
  show Sx 246 0 [(0, .ref p1), (1, .int p2), (2, .int p3), (3, .int p4), (4, .int p5)] [] 0 0 (mk L μ) _
  unfold f246 at h
  refine sx_iconst (v := 0) k246_0 (by decide) ?_
  refine cx_istore (lo2 := [(5, .int (0 : Int32)), (0, .ref p1), (1, .int p2), (2, .int p3), (3, .int p4), (4, .int p5)]) k246_1 (by rw [mx_246]; decide) rfl ?_
  refine sx_iconst (v := 0) k246_3 (by decide) ?_
  refine cx_istore (lo2 := [(6, .int (0 : Int32)), (5, .int (0 : Int32)), (0, .ref p1), (1, .int p2), (2, .int p3), (3, .int p4), (4, .int p5)]) k246_4 (by rw [mx_246]; decide) rfl ?_
  refine sx_pick (lo2 := [(0, .ref p1), (1, .int p2), (2, .int p3), (3, .int p4), (4, .int p5), (5, .int (0 : Int32)), (6, .int (0 : Int32))]) [2, 3, 4, 5, 6, 1, 0] rfl ?_
  exact l246_6_ok p1 h1 gF p2 p3 p4 p5 (0 : Int32) (0 : Int32) _ _ h
theorem k247_0 : decode (gb 247) 0 = .ok (.aload_n 0, 1) := by decide +kernel
theorem k247_1 : decode (gb 247) 1 = .ok (.iload_n 1, 1) := by decide +kernel
theorem k247_2 : decode (gb 247) 2 = .ok (.bipush 56, 2) := by decide +kernel
theorem k247_4 : decode (gb 247) 4 = .ok (.bipush 7, 2) := by decide +kernel
theorem k247_6 : decode (gb 247) 6 = .ok (.iconst 0, 1) := by decide +kernel
theorem k247_7 : decode (gb 247) 7 = .ok (.invokestatic 16, 3) := by decide +kernel
theorem k247_10 : decode (gb 247) 10 = .ok (.bipush 127, 2) := by decide +kernel
theorem k247_12 : decode (gb 247) 12 = .ok (.ixor, 1) := by decide +kernel
theorem k247_13 : decode (gb 247) 13 = .ok (.iconst 1, 1) := by decide +kernel
theorem k247_14 : decode (gb 247) 14 = .ok (.ishl, 1) := by decide +kernel
theorem k247_15 : decode (gb 247) 15 = .ok (.ireturn, 1) := by decide +kernel
/-- CraftHouseModel.eighth([II)I -/
def f247 (p1 : Nat) (p2 : Int32) (μ : Mem) : Option (Mem × Int32) :=
  (f246 p1 p2 (56 : Int32) (7 : Int32) (0 : Int32) μ).bind fun r1 =>
  some (r1.1, (jshl (r1.2 ^^^ (127 : Int32)) (1 : Int32)))
theorem ok247 {L : Nat} (p1 : Nat) (p2 : Int32) (h1 : SK0 p1 = (1, gln p1)) (μ : Mem) (res : Mem × Int32) (h : f247 p1 p2 μ = some res) : Mx 247 [.ref p1, .int p2] (mk L μ) (mk L res.1, some (.int res.2)) := by
  refine Mx_of ml_247 (by rw [mx_247]; exact Nat.le_of_ble_eq_true rfl) ?_
  show Sx 247 0 [(0, .ref p1), (1, .int p2)] [] 0 0 (mk L μ) _
  unfold f247 at h
  refine sx_aload_n (i := 0) k247_0 rfl rfl ?_
  refine sx_iload_n (i := 1) k247_1 rfl rfl ?_
  refine sx_bipush (v := 56) k247_2 (by decide) ?_
  refine sx_bipush (v := 7) k247_4 (by decide) ?_
  refine sx_iconst (v := 0) k247_6 (by decide) ?_
  obtain ⟨r1, e2, h⟩ := Option.bind_eq_some_iff.mp h
  refine cx_S (sk := []) (vs := [.ref p1, .int p2, .int (56 : Int32), .int (7 : Int32), .int (0 : Int32)]) st_247_246 k247_7 ow_247 cl_12_16 (by decide) rfl (Nat.le_of_ble_eq_true rfl) (ok246 p1 p2 (56 : Int32) (7 : Int32) (0 : Int32) h1 _ _ e2) (sk3 := [.int r1.2]) rfl rfl ?_
  refine sx_bipush (v := 127) k247_10 (by decide) ?_
  refine sx_ixor k247_12 ?_
  refine sx_iconst (v := 1) k247_13 (by decide) ?_
  refine sx_ishl k247_14 ?_
  exact cx_reti k247_15 rt_247 h
theorem k248_0 : decode (gb 248) 0 = .ok (.aload_n 0, 1) := by decide +kernel
theorem k248_1 : decode (gb 248) 1 = .ok (.iload_n 1, 1) := by decide +kernel
theorem k248_2 : decode (gb 248) 2 = .ok (.iload_n 2, 1) := by decide +kernel
theorem k248_3 : decode (gb 248) 3 = .ok (.bipush 8, 2) := by decide +kernel
theorem k248_5 : decode (gb 248) 5 = .ok (.idiv, 1) := by decide +kernel
theorem k248_6 : decode (gb 248) 6 = .ok (.iadd, 1) := by decide +kernel
theorem k248_7 : decode (gb 248) 7 = .ok (.dup2, 1) := by decide +kernel
theorem k248_8 : decode (gb 248) 8 = .ok (.iaload, 1) := by decide +kernel
theorem k248_9 : decode (gb 248) 9 = .ok (.iconst 1, 1) := by decide +kernel
theorem k248_10 : decode (gb 248) 10 = .ok (.bipush 7, 2) := by decide +kernel
theorem k248_12 : decode (gb 248) 12 = .ok (.iload_n 2, 1) := by decide +kernel
theorem k248_13 : decode (gb 248) 13 = .ok (.bipush 8, 2) := by decide +kernel
theorem k248_15 : decode (gb 248) 15 = .ok (.irem, 1) := by decide +kernel
theorem k248_16 : decode (gb 248) 16 = .ok (.isub, 1) := by decide +kernel
theorem k248_17 : decode (gb 248) 17 = .ok (.ishl, 1) := by decide +kernel
theorem k248_18 : decode (gb 248) 18 = .ok (.ixor, 1) := by decide +kernel
theorem k248_19 : decode (gb 248) 19 = .ok (.iastore, 1) := by decide +kernel
theorem k248_20 : decode (gb 248) 20 = .ok (.return_, 1) := by decide +kernel
/-- CraftHouseModel.turnBit([III)V -/
def f248 (p1 : Nat) (p2 : Int32) (p3 : Int32) (μ : Mem) : Option (Mem) :=
  (ldA p1 (p2 + (p3 / (8 : Int32))) μ).bind fun x1 =>
  (stA p1 (p2 + (p3 / (8 : Int32))) (x1 ^^^ (jshl (1 : Int32) ((7 : Int32) - (jrem p3 (8 : Int32))))) μ).bind fun m3 =>
  some m3
theorem ok248 {L : Nat} (p1 : Nat) (p2 : Int32) (p3 : Int32) (h1 : SK0 p1 = (1, gln p1)) (μ : Mem) (res : Mem) (h : f248 p1 p2 p3 μ = some res) : Mx 248 [.ref p1, .int p2, .int p3] (mk L μ) (mk L res, none) := by
  refine Mx_of ml_248 (by rw [mx_248]; exact Nat.le_of_ble_eq_true rfl) ?_
  show Sx 248 0 [(0, .ref p1), (1, .int p2), (2, .int p3)] [] 0 0 (mk L μ) _
  unfold f248 at h
  refine sx_aload_n (i := 0) k248_0 rfl rfl ?_
  refine sx_iload_n (i := 1) k248_1 rfl rfl ?_
  refine sx_iload_n (i := 2) k248_2 rfl rfl ?_
  refine sx_bipush (v := 8) k248_3 (by decide) ?_
  refine sx_idiv k248_5 (by decide) ?_
  refine sx_iadd k248_6 ?_
  refine sx_dup2 k248_7 rfl rfl ?_
  obtain ⟨x1, e2, h⟩ := Option.bind_eq_some_iff.mp h
  refine cx_iald k248_8 h1 e2 ?_
  refine sx_iconst (v := 1) k248_9 (by decide) ?_
  refine sx_bipush (v := 7) k248_10 (by decide) ?_
  refine sx_iload_n (i := 2) k248_12 rfl rfl ?_
  refine sx_bipush (v := 8) k248_13 (by decide) ?_
  refine sx_irem k248_15 (by decide) ?_
  refine sx_isub k248_16 ?_
  refine sx_ishl k248_17 ?_
  refine sx_ixor k248_18 ?_
  obtain ⟨m3, e4, h⟩ := Option.bind_eq_some_iff.mp h
  refine cx_iast k248_19 h1 e4 ?_
  exact cx_retv k248_20 rt_248 h
theorem k249_0 : decode (gb 249) 0 = .ok (.aload_n 0, 1) := by decide +kernel
theorem k249_1 : decode (gb 249) 1 = .ok (.iload_n 1, 1) := by decide +kernel
theorem k249_2 : decode (gb 249) 2 = .ok (.bipush 63, 2) := by decide +kernel
theorem k249_4 : decode (gb 249) 4 = .ok (.iconst 0, 1) := by decide +kernel
theorem k249_5 : decode (gb 249) 5 = .ok (.iconst 1, 1) := by decide +kernel
theorem k249_6 : decode (gb 249) 6 = .ok (.invokestatic 16, 3) := by decide +kernel
theorem k249_9 : decode (gb 249) 9 = .ok (.ifCond .ne 5, 3) := by decide +kernel
theorem k249_12 : decode (gb 249) 12 = .ok (.iconst 0, 1) := by decide +kernel
theorem k249_13 : decode (gb 249) 13 = .ok (.ireturn, 1) := by decide +kernel
theorem k249_14 : decode (gb 249) 14 = .ok (.iconst 0, 1) := by decide +kernel
theorem k249_15 : decode (gb 249) 15 = .ok (.istore_n 2, 1) := by decide +kernel
theorem k249_16 : decode (gb 249) 16 = .ok (.iload_n 2, 1) := by decide +kernel
theorem k249_17 : decode (gb 249) 17 = .ok (.bipush 63, 2) := by decide +kernel
theorem k249_19 : decode (gb 249) 19 = .ok (.if_icmp .ge 35, 3) := by decide +kernel
theorem k249_22 : decode (gb 249) 22 = .ok (.aload_n 0, 1) := by decide +kernel
theorem k249_23 : decode (gb 249) 23 = .ok (.iload_n 1, 1) := by decide +kernel
theorem k249_24 : decode (gb 249) 24 = .ok (.iload_n 2, 1) := by decide +kernel
theorem k249_25 : decode (gb 249) 25 = .ok (.invokestatic 20, 3) := by decide +kernel
theorem k249_28 : decode (gb 249) 28 = .ok (.aload_n 0, 1) := by decide +kernel
theorem k249_29 : decode (gb 249) 29 = .ok (.iload_n 1, 1) := by decide +kernel
theorem k249_30 : decode (gb 249) 30 = .ok (.bipush 63, 2) := by decide +kernel
theorem k249_32 : decode (gb 249) 32 = .ok (.iconst 0, 1) := by decide +kernel
theorem k249_33 : decode (gb 249) 33 = .ok (.iconst 1, 1) := by decide +kernel
theorem k249_34 : decode (gb 249) 34 = .ok (.invokestatic 16, 3) := by decide +kernel
theorem k249_37 : decode (gb 249) 37 = .ok (.ifCond .ne 5, 3) := by decide +kernel
theorem k249_40 : decode (gb 249) 40 = .ok (.iconst 1, 1) := by decide +kernel
theorem k249_41 : decode (gb 249) 41 = .ok (.ireturn, 1) := by decide +kernel
theorem k249_42 : decode (gb 249) 42 = .ok (.aload_n 0, 1) := by decide +kernel
theorem k249_43 : decode (gb 249) 43 = .ok (.iload_n 1, 1) := by decide +kernel
theorem k249_44 : decode (gb 249) 44 = .ok (.iload_n 2, 1) := by decide +kernel
theorem k249_45 : decode (gb 249) 45 = .ok (.invokestatic 20, 3) := by decide +kernel
theorem k249_48 : decode (gb 249) 48 = .ok (.iinc 2 1, 3) := by decide +kernel
theorem k249_51 : decode (gb 249) 51 = .ok (.goto (-35), 3) := by decide +kernel
theorem k249_54 : decode (gb 249) 54 = .ok (.bipush (-2), 2) := by decide +kernel
theorem k249_56 : decode (gb 249) 56 = .ok (.ireturn, 1) := by decide +kernel
def b249_16 (p1 : Nat) (kl16 : Int32 → Int32 → Mem → Option (Mem × Int32)) (v1 : Int32) (v2 : Int32) (μ : Mem) : Option (Mem × Int32) :=
  if (63 : Int32) ≤ v2 then
    some (μ, (-2 : Int32))
  else
    (f248 p1 v1 v2 μ).bind fun r2 =>
    (f246 p1 v1 (63 : Int32) (0 : Int32) (1 : Int32) r2).bind fun r4 =>
    if r4.2 = 0 then
      some (r4.1, (1 : Int32))
    else
      (f248 p1 v1 v2 r4.1).bind fun r7 =>
      nm (v2 + (1 : Int32)) fun x9 =>
      kl16 v1 x9 r7
theorem b249_16_ok {L : Nat} (p1 : Nat) (h1 : SK0 p1 = (1, gln p1)) (kl16 : Int32 → Int32 → Mem → Option (Mem × Int32)) (hk16 : (∀ (v1 : Int32) (v2 : Int32) (μ : Mem) (res : Mem × Int32), kl16 v1 v2 μ = some res → Sx 249 16 [(0, .ref p1), (1, .int v1), (2, .int v2)] [] 0 0 (mk L μ) (mk L res.1, some (.int res.2)))) (v1 : Int32) (v2 : Int32) (μ : Mem) (res : Mem × Int32) (h : b249_16 p1 kl16 v1 v2 μ = some res) : Sx 249 16 [(0, .ref p1), (1, .int v1), (2, .int v2)] [] 0 0 (mk L μ) (mk L res.1, some (.int res.2)) := by
  unfold b249_16 at h
  refine sx_iload_n (i := 2) k249_16 rfl rfl ?_
  refine sx_bipush (v := 63) k249_17 (by decide) ?_
  by_cases hb1 : (63 : Int32) ≤ v2
  · rw [if_pos hb1] at h
    refine sx_icmp_ge (tgt := 54) k249_19 (by decide) (fun _ => ?_) (fun q => absurd hb1 q)
    refine sx_bipush (v := -2) k249_54 (by decide) ?_
    exact cx_reti k249_56 rt_249 h
  · rw [if_neg hb1] at h
    refine sx_icmp_ge (tgt := 54) k249_19 (by decide) (fun q => absurd q hb1) (fun _ => ?_)
    refine sx_aload_n (i := 0) k249_22 rfl rfl ?_
    refine sx_iload_n (i := 1) k249_23 rfl rfl ?_
    refine sx_iload_n (i := 2) k249_24 rfl rfl ?_
    obtain ⟨r2, e3, h⟩ := Option.bind_eq_some_iff.mp h
    refine cx_S (sk := []) (vs := [.ref p1, .int v1, .int v2]) st_249_248 k249_25 ow_249 cl_12_20 (by decide) rfl (Nat.le_of_ble_eq_true rfl) (ok248 p1 v1 v2 h1 _ _ e3) (sk3 := []) rfl rfl ?_
    refine sx_aload_n (i := 0) k249_28 rfl rfl ?_
    refine sx_iload_n (i := 1) k249_29 rfl rfl ?_
    refine sx_bipush (v := 63) k249_30 (by decide) ?_
    refine sx_iconst (v := 0) k249_32 (by decide) ?_
    refine sx_iconst (v := 1) k249_33 (by decide) ?_
    obtain ⟨r4, e5, h⟩ := Option.bind_eq_some_iff.mp h
    refine cx_S (sk := []) (vs := [.ref p1, .int v1, .int (63 : Int32), .int (0 : Int32), .int (1 : Int32)]) st_249_246 k249_34 ow_249 cl_12_16 (by decide) rfl (Nat.le_of_ble_eq_true rfl) (ok246 p1 v1 (63 : Int32) (0 : Int32) (1 : Int32) h1 _ _ e5) (sk3 := [.int r4.2]) rfl rfl ?_
    by_cases hb6 : r4.2 = 0
    · rw [if_pos hb6] at h
      refine sx_if_ne (tgt := 42) k249_37 (by decide) (fun q => absurd hb6 q) (fun _ => ?_)
      refine sx_iconst (v := 1) k249_40 (by decide) ?_
      exact cx_reti k249_41 rt_249 h
    · rw [if_neg hb6] at h
      refine sx_if_ne (tgt := 42) k249_37 (by decide) (fun _ => ?_) (fun q => absurd q hb6)
      refine sx_aload_n (i := 0) k249_42 rfl rfl ?_
      refine sx_iload_n (i := 1) k249_43 rfl rfl ?_
      refine sx_iload_n (i := 2) k249_44 rfl rfl ?_
      obtain ⟨r7, e8, h⟩ := Option.bind_eq_some_iff.mp h
      refine cx_S (sk := []) (vs := [.ref p1, .int v1, .int v2]) st_249_248 k249_45 ow_249 cl_12_20 (by decide) rfl (Nat.le_of_ble_eq_true rfl) (ok248 p1 v1 v2 h1 _ _ e8) (sk3 := []) rfl rfl ?_
      refine cx_iinc (c := 1) (lo2 := fun x9 => [(2, .int x9), (0, .ref p1), (1, .int v1)]) k249_48 rfl (by decide) (by rw [mx_249]; decide) (fun _ => rfl) h (fun x9 h => ?_)
      refine sx_goto (tgt := 16) k249_51 (by decide) ?_
      refine sx_pick (lo2 := [(0, .ref p1), (1, .int v1), (2, .int x9)]) [1, 2, 0] rfl ?_
      exact hk16 v1 x9 _ _ h
def l249_16 (p1 : Nat) : Nat → Int32 × Int32 × Mem → Option (Mem × Int32) :=
  fixN (fun self x => b249_16 p1 (fun v1 v2 μ => self (v1, v2, μ)) (x.1) (x.2.1) (x.2.2))
theorem l249_16_ok {L : Nat} (p1 : Nat) (h1 : SK0 p1 = (1, gln p1)) (n : Nat) (v1 : Int32) (v2 : Int32) (μ : Mem) (res : Mem × Int32) (h : l249_16 p1 n (v1, v2, μ) = some res) : Sx 249 16 [(0, .ref p1), (1, .int v1), (2, .int v2)] [] 0 0 (mk L μ) (mk L res.1, some (.int res.2)) := by
  have key := fixN_ind (P := fun x res => Sx 249 16 [(0, .ref p1), (1, .int (x.1)), (2, .int (x.2.1))] [] 0 0 (mk L (x.2.2)) (mk L res.1, some (.int res.2))) (F := fun self x => b249_16 p1 (fun v1 v2 μ => self (v1, v2, μ)) (x.1) (x.2.1) (x.2.2)) (fun self hself x res h => b249_16_ok p1 h1 (fun v1 v2 μ => self (v1, v2, μ)) (fun v1 v2 μ res hh => hself (v1, v2, μ) res hh) (x.1) (x.2.1) (x.2.2) res h) n (v1, v2, μ) res h
  exact key
/-- CraftHouseModel.mend([II)I -/
def f249 (p1 : Nat) (p2 : Int32) (μ : Mem) : Option (Mem × Int32) :=
  (f246 p1 p2 (63 : Int32) (0 : Int32) (1 : Int32) μ).bind fun r1 =>
  if r1.2 = 0 then
    some (r1.1, (0 : Int32))
  else
    l249_16 p1 gF (p2, (0 : Int32), r1.1)
theorem ok249 {L : Nat} (p1 : Nat) (p2 : Int32) (h1 : SK0 p1 = (1, gln p1)) (μ : Mem) (res : Mem × Int32) (h : f249 p1 p2 μ = some res) : Mx 249 [.ref p1, .int p2] (mk L μ) (mk L res.1, some (.int res.2)) := by
  refine Mx_of ml_249 (by rw [mx_249]; exact Nat.le_of_ble_eq_true rfl) ?_
  show Sx 249 0 [(0, .ref p1), (1, .int p2)] [] 0 0 (mk L μ) _
  unfold f249 at h
  refine sx_aload_n (i := 0) k249_0 rfl rfl ?_
  refine sx_iload_n (i := 1) k249_1 rfl rfl ?_
  refine sx_bipush (v := 63) k249_2 (by decide) ?_
  refine sx_iconst (v := 0) k249_4 (by decide) ?_
  refine sx_iconst (v := 1) k249_5 (by decide) ?_
  obtain ⟨r1, e2, h⟩ := Option.bind_eq_some_iff.mp h
  refine cx_S (sk := []) (vs := [.ref p1, .int p2, .int (63 : Int32), .int (0 : Int32), .int (1 : Int32)]) st_249_246 k249_6 ow_249 cl_12_16 (by decide) rfl (Nat.le_of_ble_eq_true rfl) (ok246 p1 p2 (63 : Int32) (0 : Int32) (1 : Int32) h1 _ _ e2) (sk3 := [.int r1.2]) rfl rfl ?_
  by_cases hb3 : r1.2 = 0
  · rw [if_pos hb3] at h
    refine sx_if_ne (tgt := 14) k249_9 (by decide) (fun q => absurd hb3 q) (fun _ => ?_)
    refine sx_iconst (v := 0) k249_12 (by decide) ?_
    exact cx_reti k249_13 rt_249 h
  · rw [if_neg hb3] at h
    refine sx_if_ne (tgt := 14) k249_9 (by decide) (fun _ => ?_) (fun q => absurd q hb3)
    refine sx_iconst (v := 0) k249_14 (by decide) ?_
    refine cx_istore_n (lo2 := [(2, .int (0 : Int32)), (0, .ref p1), (1, .int p2)]) k249_15 rfl (by rw [mx_249]; decide) rfl ?_
    refine sx_pick (lo2 := [(0, .ref p1), (1, .int p2), (2, .int (0 : Int32))]) [1, 2, 0] rfl ?_
    exact l249_16_ok p1 h1 gF p2 (0 : Int32) _ _ h
theorem k250_0 : decode (gb 250) 0 = .ok (.iload_n 2, 1) := by decide +kernel
theorem k250_1 : decode (gb 250) 1 = .ok (.bipush 6, 2) := by decide +kernel
theorem k250_3 : decode (gb 250) 3 = .ok (.iadd, 1) := by decide +kernel
theorem k250_4 : decode (gb 250) 4 = .ok (.bipush 7, 2) := by decide +kernel
theorem k250_6 : decode (gb 250) 6 = .ok (.idiv, 1) := by decide +kernel
theorem k250_7 : decode (gb 250) 7 = .ok (.istore_n 3, 1) := by decide +kernel
theorem k250_8 : decode (gb 250) 8 = .ok (.iconst 0, 1) := by decide +kernel
theorem k250_9 : decode (gb 250) 9 = .ok (.istore 4, 2) := by decide +kernel
theorem k250_11 : decode (gb 250) 11 = .ok (.iload 4, 2) := by decide +kernel
theorem k250_13 : decode (gb 250) 13 = .ok (.bipush 7, 2) := by decide +kernel
theorem k250_15 : decode (gb 250) 15 = .ok (.iload_n 3, 1) := by decide +kernel
theorem k250_16 : decode (gb 250) 16 = .ok (.imul, 1) := by decide +kernel
theorem k250_17 : decode (gb 250) 17 = .ok (.if_icmp .ge 31, 3) := by decide +kernel
theorem k250_20 : decode (gb 250) 20 = .ok (.aload_n 0, 1) := by decide +kernel
theorem k250_21 : decode (gb 250) 21 = .ok (.getfield 24, 3) := by decide +kernel
theorem k250_24 : decode (gb 250) 24 = .ok (.iload 4, 2) := by decide +kernel
theorem k250_26 : decode (gb 250) 26 = .ok (.iload 4, 2) := by decide +kernel
theorem k250_28 : decode (gb 250) 28 = .ok (.iload_n 2, 1) := by decide +kernel
theorem k250_29 : decode (gb 250) 29 = .ok (.if_icmp .ge 10, 3) := by decide +kernel
theorem k250_32 : decode (gb 250) 32 = .ok (.aload_n 1, 1) := by decide +kernel
theorem k250_33 : decode (gb 250) 33 = .ok (.iload 4, 2) := by decide +kernel
theorem k250_35 : decode (gb 250) 35 = .ok (.iaload, 1) := by decide +kernel
theorem k250_36 : decode (gb 250) 36 = .ok (.goto 5, 3) := by decide +kernel
theorem k250_39 : decode (gb 250) 39 = .ok (.bipush 85, 2) := by decide +kernel
theorem k250_41 : decode (gb 250) 41 = .ok (.iastore, 1) := by decide +kernel
theorem k250_42 : decode (gb 250) 42 = .ok (.iinc 4 1, 3) := by decide +kernel
theorem k250_45 : decode (gb 250) 45 = .ok (.goto (-34), 3) := by decide +kernel
theorem k250_48 : decode (gb 250) 48 = .ok (.iconst 0, 1) := by decide +kernel
theorem k250_49 : decode (gb 250) 49 = .ok (.istore 4, 2) := by decide +kernel
theorem k250_51 : decode (gb 250) 51 = .ok (.iload 4, 2) := by decide +kernel
theorem k250_53 : decode (gb 250) 53 = .ok (.iload_n 3, 1) := by decide +kernel
theorem k250_54 : decode (gb 250) 54 = .ok (.if_icmp .ge 76, 3) := by decide +kernel
theorem k250_57 : decode (gb 250) 57 = .ok (.iconst 0, 1) := by decide +kernel
theorem k250_58 : decode (gb 250) 58 = .ok (.istore 5, 2) := by decide +kernel
theorem k250_60 : decode (gb 250) 60 = .ok (.iload 5, 2) := by decide +kernel
theorem k250_62 : decode (gb 250) 62 = .ok (.bipush 7, 2) := by decide +kernel
theorem k250_64 : decode (gb 250) 64 = .ok (.if_icmp .ge 35, 3) := by decide +kernel
theorem k250_67 : decode (gb 250) 67 = .ok (.aload_n 0, 1) := by decide +kernel
theorem k250_68 : decode (gb 250) 68 = .ok (.getfield 27, 3) := by decide +kernel
theorem k250_71 : decode (gb 250) 71 = .ok (.bipush 8, 2) := by decide +kernel
theorem k250_73 : decode (gb 250) 73 = .ok (.iload 4, 2) := by decide +kernel
theorem k250_75 : decode (gb 250) 75 = .ok (.imul, 1) := by decide +kernel
theorem k250_76 : decode (gb 250) 76 = .ok (.iload 5, 2) := by decide +kernel
theorem k250_78 : decode (gb 250) 78 = .ok (.iadd, 1) := by decide +kernel
theorem k250_79 : decode (gb 250) 79 = .ok (.aload_n 0, 1) := by decide +kernel
theorem k250_80 : decode (gb 250) 80 = .ok (.getfield 24, 3) := by decide +kernel
theorem k250_83 : decode (gb 250) 83 = .ok (.bipush 7, 2) := by decide +kernel
theorem k250_85 : decode (gb 250) 85 = .ok (.iload 4, 2) := by decide +kernel
theorem k250_87 : decode (gb 250) 87 = .ok (.imul, 1) := by decide +kernel
theorem k250_88 : decode (gb 250) 88 = .ok (.iload 5, 2) := by decide +kernel
theorem k250_90 : decode (gb 250) 90 = .ok (.iadd, 1) := by decide +kernel
theorem k250_91 : decode (gb 250) 91 = .ok (.iaload, 1) := by decide +kernel
theorem k250_92 : decode (gb 250) 92 = .ok (.iastore, 1) := by decide +kernel
theorem k250_93 : decode (gb 250) 93 = .ok (.iinc 5 1, 3) := by decide +kernel
theorem k250_96 : decode (gb 250) 96 = .ok (.goto (-36), 3) := by decide +kernel
theorem k250_99 : decode (gb 250) 99 = .ok (.aload_n 0, 1) := by decide +kernel
theorem k250_100 : decode (gb 250) 100 = .ok (.getfield 27, 3) := by decide +kernel
theorem k250_103 : decode (gb 250) 103 = .ok (.bipush 8, 2) := by decide +kernel
theorem k250_105 : decode (gb 250) 105 = .ok (.iload 4, 2) := by decide +kernel
theorem k250_107 : decode (gb 250) 107 = .ok (.imul, 1) := by decide +kernel
theorem k250_108 : decode (gb 250) 108 = .ok (.bipush 7, 2) := by decide +kernel
theorem k250_110 : decode (gb 250) 110 = .ok (.iadd, 1) := by decide +kernel
theorem k250_111 : decode (gb 250) 111 = .ok (.aload_n 0, 1) := by decide +kernel
theorem k250_112 : decode (gb 250) 112 = .ok (.getfield 24, 3) := by decide +kernel
theorem k250_115 : decode (gb 250) 115 = .ok (.bipush 7, 2) := by decide +kernel
theorem k250_117 : decode (gb 250) 117 = .ok (.iload 4, 2) := by decide +kernel
theorem k250_119 : decode (gb 250) 119 = .ok (.imul, 1) := by decide +kernel
theorem k250_120 : decode (gb 250) 120 = .ok (.invokestatic 30, 3) := by decide +kernel
theorem k250_123 : decode (gb 250) 123 = .ok (.iastore, 1) := by decide +kernel
theorem k250_124 : decode (gb 250) 124 = .ok (.iinc 4 1, 3) := by decide +kernel
theorem k250_127 : decode (gb 250) 127 = .ok (.goto (-76), 3) := by decide +kernel
theorem k250_130 : decode (gb 250) 130 = .ok (.bipush 8, 2) := by decide +kernel
theorem k250_132 : decode (gb 250) 132 = .ok (.iload_n 3, 1) := by decide +kernel
theorem k250_133 : decode (gb 250) 133 = .ok (.imul, 1) := by decide +kernel
theorem k250_134 : decode (gb 250) 134 = .ok (.ireturn, 1) := by decide +kernel
def c250_41 (p1 : Nat) (kl11 : Int32 → Int32 → Int32 → Mem → Option (Mem × Int32)) (v2 : Int32) (v3 : Int32) (v4 : Int32) (s1 : Int32) (s2 : Int32) (μ : Mem) : Option (Mem × Int32) :=
  (stA 132 s1 s2 μ).bind fun m1 =>
  nm (v4 + (1 : Int32)) fun x3 =>
  kl11 v2 v3 x3 m1
theorem c250_41_ok {L : Nat} (p1 : Nat) (h1 : SK0 p1 = (1, gln p1)) (kl11 : Int32 → Int32 → Int32 → Mem → Option (Mem × Int32)) (hk11 : (∀ (v2 : Int32) (v3 : Int32) (v4 : Int32) (μ : Mem) (res : Mem × Int32), kl11 v2 v3 v4 μ = some res → Sx 250 11 [(0, .ref 129), (1, .ref p1), (2, .int v2), (3, .int v3), (4, .int v4)] [] 0 0 (mk L μ) (mk L res.1, some (.int res.2)))) (v2 : Int32) (v3 : Int32) (v4 : Int32) (s1 : Int32) (s2 : Int32) (μ : Mem) (res : Mem × Int32) (h : c250_41 p1 kl11 v2 v3 v4 s1 s2 μ = some res) : Sx 250 41 [(0, .ref 129), (1, .ref p1), (2, .int v2), (3, .int v3), (4, .int v4)] [.int s2, .int s1, .ref 132] 0 0 (mk L μ) (mk L res.1, some (.int res.2)) := by
  unfold c250_41 at h
  obtain ⟨m1, e2, h⟩ := Option.bind_eq_some_iff.mp h
  refine cx_iast k250_41 sk_132 e2 ?_
  refine cx_iinc (c := 1) (lo2 := fun x3 => [(4, .int x3), (0, .ref 129), (1, .ref p1), (2, .int v2), (3, .int v3)]) k250_42 rfl (by decide) (by rw [mx_250]; decide) (fun _ => rfl) h (fun x3 h => ?_)
  refine sx_goto (tgt := 11) k250_45 (by decide) ?_
  refine sx_pick (lo2 := [(0, .ref 129), (1, .ref p1), (2, .int v2), (3, .int v3), (4, .int x3)]) [1, 2, 3, 4, 0] rfl ?_
  exact hk11 v2 v3 x3 _ _ h
def b250_60 (p1 : Nat) (kl51 : Int32 → Int32 → Mem → Option (Mem × Int32)) (kl60 : Int32 → Int32 → Int32 → Mem → Option (Mem × Int32)) (v3 : Int32) (v4 : Int32) (v5 : Int32) (μ : Mem) : Option (Mem × Int32) :=
  if (7 : Int32) ≤ v5 then
    (f247 132 ((7 : Int32) * v4) μ).bind fun r2 =>
    (stA 131 (((8 : Int32) * v4) + (7 : Int32)) r2.2 r2.1).bind fun m4 =>
    nm (v4 + (1 : Int32)) fun x6 =>
    kl51 v3 x6 m4
  else
    (ldA 132 (((7 : Int32) * v4) + v5) μ).bind fun x7 =>
    (stA 131 (((8 : Int32) * v4) + v5) x7 μ).bind fun m9 =>
    nm (v5 + (1 : Int32)) fun x11 =>
    kl60 v3 v4 x11 m9
theorem b250_60_ok {L : Nat} (p1 : Nat) (h1 : SK0 p1 = (1, gln p1)) (kl51 : Int32 → Int32 → Mem → Option (Mem × Int32)) (kl60 : Int32 → Int32 → Int32 → Mem → Option (Mem × Int32)) (hk51 : (∀ (v3 : Int32) (v4 : Int32) (μ : Mem) (res : Mem × Int32), kl51 v3 v4 μ = some res → Sx 250 51 [(0, .ref 129), (3, .int v3), (4, .int v4)] [] 0 0 (mk L μ) (mk L res.1, some (.int res.2)))) (hk60 : (∀ (v3 : Int32) (v4 : Int32) (v5 : Int32) (μ : Mem) (res : Mem × Int32), kl60 v3 v4 v5 μ = some res → Sx 250 60 [(0, .ref 129), (3, .int v3), (4, .int v4), (5, .int v5)] [] 0 0 (mk L μ) (mk L res.1, some (.int res.2)))) (v3 : Int32) (v4 : Int32) (v5 : Int32) (μ : Mem) (res : Mem × Int32) (h : b250_60 p1 kl51 kl60 v3 v4 v5 μ = some res) : Sx 250 60 [(0, .ref 129), (3, .int v3), (4, .int v4), (5, .int v5)] [] 0 0 (mk L μ) (mk L res.1, some (.int res.2)) := by
  unfold b250_60 at h
  refine sx_iload k250_60 rfl ?_
  refine sx_bipush (v := 7) k250_62 (by decide) ?_
  by_cases hb1 : (7 : Int32) ≤ v5
  · rw [if_pos hb1] at h
    refine sx_icmp_ge (tgt := 99) k250_64 (by decide) (fun _ => ?_) (fun q => absurd hb1 q)
    refine sx_aload_n (i := 0) k250_99 rfl rfl ?_
    refine cx_getR (k := 2) k250_100 ow_250 fl_12_27 (by decide) sk_129 ft_11_2 sr_129_2 ?_
    refine sx_bipush (v := 8) k250_103 (by decide) ?_
    refine sx_iload k250_105 rfl ?_
    refine sx_imul k250_107 ?_
    refine sx_bipush (v := 7) k250_108 (by decide) ?_
    refine sx_iadd k250_110 ?_
    refine sx_aload_n (i := 0) k250_111 rfl rfl ?_
    refine cx_getR (k := 3) k250_112 ow_250 fl_12_24 (by decide) sk_129 ft_11_3 sr_129_3 ?_
    refine sx_bipush (v := 7) k250_115 (by decide) ?_
    refine sx_iload k250_117 rfl ?_
    refine sx_imul k250_119 ?_
    obtain ⟨r2, e3, h⟩ := Option.bind_eq_some_iff.mp h
    refine cx_S (sk := [.int (((8 : Int32) * v4) + (7 : Int32)), .ref 131]) (vs := [.ref 132, .int ((7 : Int32) * v4)]) st_250_247 k250_120 ow_250 cl_12_30 (by decide) rfl (Nat.le_of_ble_eq_true rfl) (ok247 132 ((7 : Int32) * v4) sk_132 _ _ e3) (sk3 := [.int r2.2, .int (((8 : Int32) * v4) + (7 : Int32)), .ref 131]) rfl rfl ?_
    obtain ⟨m4, e5, h⟩ := Option.bind_eq_some_iff.mp h
    refine cx_iast k250_123 sk_131 e5 ?_
    refine cx_iinc (c := 1) (lo2 := fun x6 => [(4, .int x6), (0, .ref 129), (3, .int v3), (5, .int v5)]) k250_124 rfl (by decide) (by rw [mx_250]; decide) (fun _ => rfl) h (fun x6 h => ?_)
    refine sx_goto (tgt := 51) k250_127 (by decide) ?_
    refine sx_pick (lo2 := [(0, .ref 129), (3, .int v3), (4, .int x6)]) [1, 2, 0] rfl ?_
    exact hk51 v3 x6 _ _ h
  · rw [if_neg hb1] at h
    refine sx_icmp_ge (tgt := 99) k250_64 (by decide) (fun q => absurd q hb1) (fun _ => ?_)
    refine sx_aload_n (i := 0) k250_67 rfl rfl ?_
    refine cx_getR (k := 2) k250_68 ow_250 fl_12_27 (by decide) sk_129 ft_11_2 sr_129_2 ?_
    refine sx_bipush (v := 8) k250_71 (by decide) ?_
    refine sx_iload k250_73 rfl ?_
    refine sx_imul k250_75 ?_
    refine sx_iload k250_76 rfl ?_
    refine sx_iadd k250_78 ?_
    refine sx_aload_n (i := 0) k250_79 rfl rfl ?_
    refine cx_getR (k := 3) k250_80 ow_250 fl_12_24 (by decide) sk_129 ft_11_3 sr_129_3 ?_
    refine sx_bipush (v := 7) k250_83 (by decide) ?_
    refine sx_iload k250_85 rfl ?_
    refine sx_imul k250_87 ?_
    refine sx_iload k250_88 rfl ?_
    refine sx_iadd k250_90 ?_
    obtain ⟨x7, e8, h⟩ := Option.bind_eq_some_iff.mp h
    refine cx_iald k250_91 sk_132 e8 ?_
    obtain ⟨m9, e10, h⟩ := Option.bind_eq_some_iff.mp h
    refine cx_iast k250_92 sk_131 e10 ?_
    refine cx_iinc (c := 1) (lo2 := fun x11 => [(5, .int x11), (0, .ref 129), (3, .int v3), (4, .int v4)]) k250_93 rfl (by decide) (by rw [mx_250]; decide) (fun _ => rfl) h (fun x11 h => ?_)
    refine sx_goto (tgt := 60) k250_96 (by decide) ?_
    refine sx_pick (lo2 := [(0, .ref 129), (3, .int v3), (4, .int v4), (5, .int x11)]) [1, 2, 3, 0] rfl ?_
    exact hk60 v3 v4 x11 _ _ h
def l250_60 (p1 : Nat) (kl51 : Int32 → Int32 → Mem → Option (Mem × Int32)) : Nat → Int32 × Int32 × Int32 × Mem → Option (Mem × Int32) :=
  fixN (fun self x => b250_60 p1 kl51 (fun v3 v4 v5 μ => self (v3, v4, v5, μ)) (x.1) (x.2.1) (x.2.2.1) (x.2.2.2))
theorem l250_60_ok {L : Nat} (p1 : Nat) (h1 : SK0 p1 = (1, gln p1)) (kl51 : Int32 → Int32 → Mem → Option (Mem × Int32)) (hk51 : (∀ (v3 : Int32) (v4 : Int32) (μ : Mem) (res : Mem × Int32), kl51 v3 v4 μ = some res → Sx 250 51 [(0, .ref 129), (3, .int v3), (4, .int v4)] [] 0 0 (mk L μ) (mk L res.1, some (.int res.2)))) (n : Nat) (v3 : Int32) (v4 : Int32) (v5 : Int32) (μ : Mem) (res : Mem × Int32) (h : l250_60 p1 kl51 n (v3, v4, v5, μ) = some res) : Sx 250 60 [(0, .ref 129), (3, .int v3), (4, .int v4), (5, .int v5)] [] 0 0 (mk L μ) (mk L res.1, some (.int res.2)) := by
  have key := fixN_ind (P := fun x res => Sx 250 60 [(0, .ref 129), (3, .int (x.1)), (4, .int (x.2.1)), (5, .int (x.2.2.1))] [] 0 0 (mk L (x.2.2.2)) (mk L res.1, some (.int res.2))) (F := fun self x => b250_60 p1 kl51 (fun v3 v4 v5 μ => self (v3, v4, v5, μ)) (x.1) (x.2.1) (x.2.2.1) (x.2.2.2)) (fun self hself x res h => b250_60_ok p1 h1 kl51 (fun v3 v4 v5 μ => self (v3, v4, v5, μ)) hk51 (fun v3 v4 v5 μ res hh => hself (v3, v4, v5, μ) res hh) (x.1) (x.2.1) (x.2.2.1) (x.2.2.2) res h) n (v3, v4, v5, μ) res h
  exact key
def b250_51 (p1 : Nat) (kl51 : Int32 → Int32 → Mem → Option (Mem × Int32)) (v3 : Int32) (v4 : Int32) (μ : Mem) : Option (Mem × Int32) :=
  if v3 ≤ v4 then
    some (μ, ((8 : Int32) * v3))
  else
    l250_60 p1 kl51 gF (v3, v4, (0 : Int32), μ)
theorem b250_51_ok {L : Nat} (p1 : Nat) (h1 : SK0 p1 = (1, gln p1)) (kl51 : Int32 → Int32 → Mem → Option (Mem × Int32)) (hk51 : (∀ (v3 : Int32) (v4 : Int32) (μ : Mem) (res : Mem × Int32), kl51 v3 v4 μ = some res → Sx 250 51 [(0, .ref 129), (3, .int v3), (4, .int v4)] [] 0 0 (mk L μ) (mk L res.1, some (.int res.2)))) (v3 : Int32) (v4 : Int32) (μ : Mem) (res : Mem × Int32) (h : b250_51 p1 kl51 v3 v4 μ = some res) : Sx 250 51 [(0, .ref 129), (3, .int v3), (4, .int v4)] [] 0 0 (mk L μ) (mk L res.1, some (.int res.2)) := by
  unfold b250_51 at h
  refine sx_iload k250_51 rfl ?_
  refine sx_iload_n (i := 3) k250_53 rfl rfl ?_
  by_cases hb1 : v3 ≤ v4
  · rw [if_pos hb1] at h
    refine sx_icmp_ge (tgt := 130) k250_54 (by decide) (fun _ => ?_) (fun q => absurd hb1 q)
    refine sx_bipush (v := 8) k250_130 (by decide) ?_
    refine sx_iload_n (i := 3) k250_132 rfl rfl ?_
    refine sx_imul k250_133 ?_
    exact cx_reti k250_134 rt_250 h
  · rw [if_neg hb1] at h
    refine sx_icmp_ge (tgt := 130) k250_54 (by decide) (fun q => absurd q hb1) (fun _ => ?_)
    refine sx_iconst (v := 0) k250_57 (by decide) ?_
    refine cx_istore (lo2 := [(5, .int (0 : Int32)), (0, .ref 129), (3, .int v3), (4, .int v4)]) k250_58 (by rw [mx_250]; decide) rfl ?_
    refine sx_pick (lo2 := [(0, .ref 129), (3, .int v3), (4, .int v4), (5, .int (0 : Int32))]) [1, 2, 3, 0] rfl ?_
    exact l250_60_ok p1 h1 kl51 hk51 gF v3 v4 (0 : Int32) _ _ h
def l250_51 (p1 : Nat) : Nat → Int32 × Int32 × Mem → Option (Mem × Int32) :=
  fixN (fun self x => b250_51 p1 (fun v3 v4 μ => self (v3, v4, μ)) (x.1) (x.2.1) (x.2.2))
theorem l250_51_ok {L : Nat} (p1 : Nat) (h1 : SK0 p1 = (1, gln p1)) (n : Nat) (v3 : Int32) (v4 : Int32) (μ : Mem) (res : Mem × Int32) (h : l250_51 p1 n (v3, v4, μ) = some res) : Sx 250 51 [(0, .ref 129), (3, .int v3), (4, .int v4)] [] 0 0 (mk L μ) (mk L res.1, some (.int res.2)) := by
  have key := fixN_ind (P := fun x res => Sx 250 51 [(0, .ref 129), (3, .int (x.1)), (4, .int (x.2.1))] [] 0 0 (mk L (x.2.2)) (mk L res.1, some (.int res.2))) (F := fun self x => b250_51 p1 (fun v3 v4 μ => self (v3, v4, μ)) (x.1) (x.2.1) (x.2.2)) (fun self hself x res h => b250_51_ok p1 h1 (fun v3 v4 μ => self (v3, v4, μ)) (fun v3 v4 μ res hh => hself (v3, v4, μ) res hh) (x.1) (x.2.1) (x.2.2) res h) n (v3, v4, μ) res h
  exact key
def b250_11 (p1 : Nat) (kl11 : Int32 → Int32 → Int32 → Mem → Option (Mem × Int32)) (v2 : Int32) (v3 : Int32) (v4 : Int32) (μ : Mem) : Option (Mem × Int32) :=
  if ((7 : Int32) * v3) ≤ v4 then
    l250_51 p1 gF (v3, (0 : Int32), μ)
  else
    if v2 ≤ v4 then
      c250_41 p1 kl11 v2 v3 v4 v4 (85 : Int32) μ
    else
      (ldA p1 v4 μ).bind fun x3 =>
      c250_41 p1 kl11 v2 v3 v4 v4 x3 μ
theorem b250_11_ok {L : Nat} (p1 : Nat) (h1 : SK0 p1 = (1, gln p1)) (kl11 : Int32 → Int32 → Int32 → Mem → Option (Mem × Int32)) (hk11 : (∀ (v2 : Int32) (v3 : Int32) (v4 : Int32) (μ : Mem) (res : Mem × Int32), kl11 v2 v3 v4 μ = some res → Sx 250 11 [(0, .ref 129), (1, .ref p1), (2, .int v2), (3, .int v3), (4, .int v4)] [] 0 0 (mk L μ) (mk L res.1, some (.int res.2)))) (v2 : Int32) (v3 : Int32) (v4 : Int32) (μ : Mem) (res : Mem × Int32) (h : b250_11 p1 kl11 v2 v3 v4 μ = some res) : Sx 250 11 [(0, .ref 129), (1, .ref p1), (2, .int v2), (3, .int v3), (4, .int v4)] [] 0 0 (mk L μ) (mk L res.1, some (.int res.2)) := by
  unfold b250_11 at h
  refine sx_iload k250_11 rfl ?_
  refine sx_bipush (v := 7) k250_13 (by decide) ?_
  refine sx_iload_n (i := 3) k250_15 rfl rfl ?_
  refine sx_imul k250_16 ?_
  by_cases hb1 : ((7 : Int32) * v3) ≤ v4
  · rw [if_pos hb1] at h
    refine sx_icmp_ge (tgt := 48) k250_17 (by decide) (fun _ => ?_) (fun q => absurd hb1 q)
    refine sx_iconst (v := 0) k250_48 (by decide) ?_
    refine cx_istore (lo2 := [(4, .int (0 : Int32)), (0, .ref 129), (1, .ref p1), (2, .int v2), (3, .int v3)]) k250_49 (by rw [mx_250]; decide) rfl ?_
    refine sx_pick (lo2 := [(0, .ref 129), (3, .int v3), (4, .int (0 : Int32))]) [1, 4, 0] rfl ?_
    exact l250_51_ok p1 h1 gF v3 (0 : Int32) _ _ h
  · rw [if_neg hb1] at h
    refine sx_icmp_ge (tgt := 48) k250_17 (by decide) (fun q => absurd q hb1) (fun _ => ?_)
    refine sx_aload_n (i := 0) k250_20 rfl rfl ?_
    refine cx_getR (k := 3) k250_21 ow_250 fl_12_24 (by decide) sk_129 ft_11_3 sr_129_3 ?_
    refine sx_iload k250_24 rfl ?_
    refine sx_iload k250_26 rfl ?_
    refine sx_iload_n (i := 2) k250_28 rfl rfl ?_
    by_cases hb2 : v2 ≤ v4
    · rw [if_pos hb2] at h
      refine sx_icmp_ge (tgt := 39) k250_29 (by decide) (fun _ => ?_) (fun q => absurd hb2 q)
      refine sx_bipush (v := 85) k250_39 (by decide) ?_
      refine sx_pick (lo2 := [(0, .ref 129), (1, .ref p1), (2, .int v2), (3, .int v3), (4, .int v4)]) [0, 1, 2, 3, 4] rfl ?_
      exact c250_41_ok p1 h1 kl11 hk11 v2 v3 v4 v4 (85 : Int32) _ _ h
    · rw [if_neg hb2] at h
      refine sx_icmp_ge (tgt := 39) k250_29 (by decide) (fun q => absurd q hb2) (fun _ => ?_)
      refine sx_aload_n (i := 1) k250_32 rfl rfl ?_
      refine sx_iload k250_33 rfl ?_
      obtain ⟨x3, e4, h⟩ := Option.bind_eq_some_iff.mp h
      refine cx_iald k250_35 h1 e4 ?_
      refine sx_goto (tgt := 41) k250_36 (by decide) ?_
      refine sx_pick (lo2 := [(0, .ref 129), (1, .ref p1), (2, .int v2), (3, .int v3), (4, .int v4)]) [0, 1, 2, 3, 4] rfl ?_
      exact c250_41_ok p1 h1 kl11 hk11 v2 v3 v4 v4 x3 _ _ h
def l250_11 (p1 : Nat) : Nat → Int32 × Int32 × Int32 × Mem → Option (Mem × Int32) :=
  fixN (fun self x => b250_11 p1 (fun v2 v3 v4 μ => self (v2, v3, v4, μ)) (x.1) (x.2.1) (x.2.2.1) (x.2.2.2))
theorem l250_11_ok {L : Nat} (p1 : Nat) (h1 : SK0 p1 = (1, gln p1)) (n : Nat) (v2 : Int32) (v3 : Int32) (v4 : Int32) (μ : Mem) (res : Mem × Int32) (h : l250_11 p1 n (v2, v3, v4, μ) = some res) : Sx 250 11 [(0, .ref 129), (1, .ref p1), (2, .int v2), (3, .int v3), (4, .int v4)] [] 0 0 (mk L μ) (mk L res.1, some (.int res.2)) := by
  have key := fixN_ind (P := fun x res => Sx 250 11 [(0, .ref 129), (1, .ref p1), (2, .int (x.1)), (3, .int (x.2.1)), (4, .int (x.2.2.1))] [] 0 0 (mk L (x.2.2.2)) (mk L res.1, some (.int res.2))) (F := fun self x => b250_11 p1 (fun v2 v3 v4 μ => self (v2, v3, v4, μ)) (x.1) (x.2.1) (x.2.2.1) (x.2.2.2)) (fun self hself x res h => b250_11_ok p1 h1 (fun v2 v3 v4 μ => self (v2, v3, v4, μ)) (fun v2 v3 v4 μ res hh => hself (v2, v3, v4, μ) res hh) (x.1) (x.2.1) (x.2.2.1) (x.2.2.2) res h) n (v2, v3, v4, μ) res h
  exact key
/-- CraftHouseModel.blocks([II)I -/
def f250 (p1 : Nat) (p2 : Int32) (μ : Mem) : Option (Mem × Int32) :=
  nm ((p2 + (6 : Int32)) / (7 : Int32)) fun x1 =>
  l250_11 p1 gF (p2, x1, (0 : Int32), μ)
theorem ok250 {L : Nat} (p1 : Nat) (p2 : Int32) (h1 : SK0 p1 = (1, gln p1)) (μ : Mem) (res : Mem × Int32) (h : f250 p1 p2 μ = some res) : Mx 250 [.ref 129, .ref p1, .int p2] (mk L μ) (mk L res.1, some (.int res.2)) := by
  refine Mx_of ml_250 (by rw [mx_250]; exact Nat.le_of_ble_eq_true rfl) ?_
  show Sx 250 0 [(0, .ref 129), (1, .ref p1), (2, .int p2)] [] 0 0 (mk L μ) _
  unfold f250 at h
  refine sx_iload_n (i := 2) k250_0 rfl rfl ?_
  refine sx_bipush (v := 6) k250_1 (by decide) ?_
  refine sx_iadd k250_3 ?_
  refine sx_bipush (v := 7) k250_4 (by decide) ?_
  refine sx_idiv k250_6 (by decide) ?_
  refine cx_nm h (fun x1 h => ?_)
  refine cx_istore_n (lo2 := [(3, .int x1), (0, .ref 129), (1, .ref p1), (2, .int p2)]) k250_7 rfl (by rw [mx_250]; decide) rfl ?_
  refine sx_iconst (v := 0) k250_8 (by decide) ?_
  refine cx_istore (lo2 := [(4, .int (0 : Int32)), (3, .int x1), (0, .ref 129), (1, .ref p1), (2, .int p2)]) k250_9 (by rw [mx_250]; decide) rfl ?_
  refine sx_pick (lo2 := [(0, .ref 129), (1, .ref p1), (2, .int p2), (3, .int x1), (4, .int (0 : Int32))]) [2, 3, 4, 1, 0] rfl ?_
  exact l250_11_ok p1 h1 gF p2 x1 (0 : Int32) _ _ h
theorem k252_0 : decode (gb 252) 0 = .ok (.aload_n 0, 1) := by decide +kernel
theorem k252_1 : decode (gb 252) 1 = .ok (.aload_n 1, 1) := by decide +kernel
theorem k252_2 : decode (gb 252) 2 = .ok (.iload_n 2, 1) := by decide +kernel
theorem k252_3 : decode (gb 252) 3 = .ok (.invokevirtual 43, 3) := by decide +kernel
theorem k252_6 : decode (gb 252) 6 = .ok (.istore_n 3, 1) := by decide +kernel
theorem k252_7 : decode (gb 252) 7 = .ok (.aload_n 0, 1) := by decide +kernel
theorem k252_8 : decode (gb 252) 8 = .ok (.getfield 40, 3) := by decide +kernel
theorem k252_11 : decode (gb 252) 11 = .ok (.iconst 0, 1) := by decide +kernel
theorem k252_12 : decode (gb 252) 12 = .ok (.sipush 235, 3) := by decide +kernel
theorem k252_15 : decode (gb 252) 15 = .ok (.iastore, 1) := by decide +kernel
theorem k252_16 : decode (gb 252) 16 = .ok (.aload_n 0, 1) := by decide +kernel
theorem k252_17 : decode (gb 252) 17 = .ok (.getfield 40, 3) := by decide +kernel
theorem k252_20 : decode (gb 252) 20 = .ok (.iconst 1, 1) := by decide +kernel
theorem k252_21 : decode (gb 252) 21 = .ok (.sipush 144, 3) := by decide +kernel
theorem k252_24 : decode (gb 252) 24 = .ok (.iastore, 1) := by decide +kernel
theorem k252_25 : decode (gb 252) 25 = .ok (.iconst 0, 1) := by decide +kernel
theorem k252_26 : decode (gb 252) 26 = .ok (.istore 4, 2) := by decide +kernel
theorem k252_28 : decode (gb 252) 28 = .ok (.iload 4, 2) := by decide +kernel
theorem k252_30 : decode (gb 252) 30 = .ok (.iload_n 3, 1) := by decide +kernel
theorem k252_31 : decode (gb 252) 31 = .ok (.if_icmp .ge 25, 3) := by decide +kernel
theorem k252_34 : decode (gb 252) 34 = .ok (.aload_n 0, 1) := by decide +kernel
theorem k252_35 : decode (gb 252) 35 = .ok (.getfield 40, 3) := by decide +kernel
theorem k252_38 : decode (gb 252) 38 = .ok (.iconst 2, 1) := by decide +kernel
theorem k252_39 : decode (gb 252) 39 = .ok (.iload 4, 2) := by decide +kernel
theorem k252_41 : decode (gb 252) 41 = .ok (.iadd, 1) := by decide +kernel
theorem k252_42 : decode (gb 252) 42 = .ok (.aload_n 0, 1) := by decide +kernel
theorem k252_43 : decode (gb 252) 43 = .ok (.getfield 27, 3) := by decide +kernel
theorem k252_46 : decode (gb 252) 46 = .ok (.iload 4, 2) := by decide +kernel
theorem k252_48 : decode (gb 252) 48 = .ok (.iaload, 1) := by decide +kernel
theorem k252_49 : decode (gb 252) 49 = .ok (.iastore, 1) := by decide +kernel
theorem k252_50 : decode (gb 252) 50 = .ok (.iinc 4 1, 3) := by decide +kernel
theorem k252_53 : decode (gb 252) 53 = .ok (.goto (-25), 3) := by decide +kernel
theorem k252_56 : decode (gb 252) 56 = .ok (.iconst 0, 1) := by decide +kernel
theorem k252_57 : decode (gb 252) 57 = .ok (.istore 4, 2) := by decide +kernel
theorem k252_59 : decode (gb 252) 59 = .ok (.iload 4, 2) := by decide +kernel
theorem k252_61 : decode (gb 252) 61 = .ok (.bipush 7, 2) := by decide +kernel
theorem k252_63 : decode (gb 252) 63 = .ok (.if_icmp .ge 23, 3) := by decide +kernel
theorem k252_66 : decode (gb 252) 66 = .ok (.aload_n 0, 1) := by decide +kernel
theorem k252_67 : decode (gb 252) 67 = .ok (.getfield 40, 3) := by decide +kernel
theorem k252_70 : decode (gb 252) 70 = .ok (.iconst 2, 1) := by decide +kernel
theorem k252_71 : decode (gb 252) 71 = .ok (.iload_n 3, 1) := by decide +kernel
theorem k252_72 : decode (gb 252) 72 = .ok (.iadd, 1) := by decide +kernel
theorem k252_73 : decode (gb 252) 73 = .ok (.iload 4, 2) := by decide +kernel
theorem k252_75 : decode (gb 252) 75 = .ok (.iadd, 1) := by decide +kernel
theorem k252_76 : decode (gb 252) 76 = .ok (.sipush 197, 3) := by decide +kernel
theorem k252_79 : decode (gb 252) 79 = .ok (.iastore, 1) := by decide +kernel
theorem k252_80 : decode (gb 252) 80 = .ok (.iinc 4 1, 3) := by decide +kernel
theorem k252_83 : decode (gb 252) 83 = .ok (.goto (-24), 3) := by decide +kernel
theorem k252_86 : decode (gb 252) 86 = .ok (.aload_n 0, 1) := by decide +kernel
theorem k252_87 : decode (gb 252) 87 = .ok (.getfield 40, 3) := by decide +kernel
theorem k252_90 : decode (gb 252) 90 = .ok (.bipush 9, 2) := by decide +kernel
theorem k252_92 : decode (gb 252) 92 = .ok (.iload_n 3, 1) := by decide +kernel
theorem k252_93 : decode (gb 252) 93 = .ok (.iadd, 1) := by decide +kernel
theorem k252_94 : decode (gb 252) 94 = .ok (.bipush 121, 2) := by decide +kernel
theorem k252_96 : decode (gb 252) 96 = .ok (.iastore, 1) := by decide +kernel
theorem k252_97 : decode (gb 252) 97 = .ok (.bipush 10, 2) := by decide +kernel
theorem k252_99 : decode (gb 252) 99 = .ok (.iload_n 3, 1) := by decide +kernel
theorem k252_100 : decode (gb 252) 100 = .ok (.iadd, 1) := by decide +kernel
theorem k252_101 : decode (gb 252) 101 = .ok (.ireturn, 1) := by decide +kernel
def b252_59 (p1 : Nat) (kl59 : Int32 → Int32 → Mem → Option (Mem × Int32)) (v3 : Int32) (v4 : Int32) (μ : Mem) : Option (Mem × Int32) :=
  if (7 : Int32) ≤ v4 then
    (stA 133 ((9 : Int32) + v3) (121 : Int32) μ).bind fun m2 =>
    some (m2, ((10 : Int32) + v3))
  else
    (stA 133 (((2 : Int32) + v3) + v4) (197 : Int32) μ).bind fun m4 =>
    nm (v4 + (1 : Int32)) fun x6 =>
    kl59 v3 x6 m4
theorem b252_59_ok {L : Nat} (p1 : Nat) (h1 : SK0 p1 = (1, gln p1)) (kl59 : Int32 → Int32 → Mem → Option (Mem × Int32)) (hk59 : (∀ (v3 : Int32) (v4 : Int32) (μ : Mem) (res : Mem × Int32), kl59 v3 v4 μ = some res → Sx 252 59 [(0, .ref 129), (3, .int v3), (4, .int v4)] [] 0 0 (mk L μ) (mk L res.1, some (.int res.2)))) (v3 : Int32) (v4 : Int32) (μ : Mem) (res : Mem × Int32) (h : b252_59 p1 kl59 v3 v4 μ = some res) : Sx 252 59 [(0, .ref 129), (3, .int v3), (4, .int v4)] [] 0 0 (mk L μ) (mk L res.1, some (.int res.2)) := by
  unfold b252_59 at h
  refine sx_iload k252_59 rfl ?_
  refine sx_bipush (v := 7) k252_61 (by decide) ?_
  by_cases hb1 : (7 : Int32) ≤ v4
  · rw [if_pos hb1] at h
    refine sx_icmp_ge (tgt := 86) k252_63 (by decide) (fun _ => ?_) (fun q => absurd hb1 q)
    refine sx_aload_n (i := 0) k252_86 rfl rfl ?_
    refine cx_getR (k := 4) k252_87 ow_252 fl_12_40 (by decide) sk_129 ft_11_4 sr_129_4 ?_
    refine sx_bipush (v := 9) k252_90 (by decide) ?_
    refine sx_iload_n (i := 3) k252_92 rfl rfl ?_
    refine sx_iadd k252_93 ?_
    refine sx_bipush (v := 121) k252_94 (by decide) ?_
    obtain ⟨m2, e3, h⟩ := Option.bind_eq_some_iff.mp h
    refine cx_iast k252_96 sk_133 e3 ?_
    refine sx_bipush (v := 10) k252_97 (by decide) ?_
    refine sx_iload_n (i := 3) k252_99 rfl rfl ?_
    refine sx_iadd k252_100 ?_
    exact cx_reti k252_101 rt_252 h
  · rw [if_neg hb1] at h
    refine sx_icmp_ge (tgt := 86) k252_63 (by decide) (fun q => absurd q hb1) (fun _ => ?_)
    refine sx_aload_n (i := 0) k252_66 rfl rfl ?_
    refine cx_getR (k := 4) k252_67 ow_252 fl_12_40 (by decide) sk_129 ft_11_4 sr_129_4 ?_
    refine sx_iconst (v := 2) k252_70 (by decide) ?_
    refine sx_iload_n (i := 3) k252_71 rfl rfl ?_
    refine sx_iadd k252_72 ?_
    refine sx_iload k252_73 rfl ?_
    refine sx_iadd k252_75 ?_
    refine sx_sipush (v := 197) k252_76 (by decide) ?_
    obtain ⟨m4, e5, h⟩ := Option.bind_eq_some_iff.mp h
    refine cx_iast k252_79 sk_133 e5 ?_
    refine cx_iinc (c := 1) (lo2 := fun x6 => [(4, .int x6), (0, .ref 129), (3, .int v3)]) k252_80 rfl (by decide) (by rw [mx_252]; decide) (fun _ => rfl) h (fun x6 h => ?_)
    refine sx_goto (tgt := 59) k252_83 (by decide) ?_
    refine sx_pick (lo2 := [(0, .ref 129), (3, .int v3), (4, .int x6)]) [1, 2, 0] rfl ?_
    exact hk59 v3 x6 _ _ h
def l252_59 (p1 : Nat) : Nat → Int32 × Int32 × Mem → Option (Mem × Int32) :=
  fixN (fun self x => b252_59 p1 (fun v3 v4 μ => self (v3, v4, μ)) (x.1) (x.2.1) (x.2.2))
theorem l252_59_ok {L : Nat} (p1 : Nat) (h1 : SK0 p1 = (1, gln p1)) (n : Nat) (v3 : Int32) (v4 : Int32) (μ : Mem) (res : Mem × Int32) (h : l252_59 p1 n (v3, v4, μ) = some res) : Sx 252 59 [(0, .ref 129), (3, .int v3), (4, .int v4)] [] 0 0 (mk L μ) (mk L res.1, some (.int res.2)) := by
  have key := fixN_ind (P := fun x res => Sx 252 59 [(0, .ref 129), (3, .int (x.1)), (4, .int (x.2.1))] [] 0 0 (mk L (x.2.2)) (mk L res.1, some (.int res.2))) (F := fun self x => b252_59 p1 (fun v3 v4 μ => self (v3, v4, μ)) (x.1) (x.2.1) (x.2.2)) (fun self hself x res h => b252_59_ok p1 h1 (fun v3 v4 μ => self (v3, v4, μ)) (fun v3 v4 μ res hh => hself (v3, v4, μ) res hh) (x.1) (x.2.1) (x.2.2) res h) n (v3, v4, μ) res h
  exact key
def b252_28 (p1 : Nat) (kl28 : Int32 → Int32 → Mem → Option (Mem × Int32)) (v3 : Int32) (v4 : Int32) (μ : Mem) : Option (Mem × Int32) :=
  if v3 ≤ v4 then
    l252_59 p1 gF (v3, (0 : Int32), μ)
  else
    (ldA 131 v4 μ).bind fun x2 =>
    (stA 133 ((2 : Int32) + v4) x2 μ).bind fun m4 =>
    nm (v4 + (1 : Int32)) fun x6 =>
    kl28 v3 x6 m4
theorem b252_28_ok {L : Nat} (p1 : Nat) (h1 : SK0 p1 = (1, gln p1)) (kl28 : Int32 → Int32 → Mem → Option (Mem × Int32)) (hk28 : (∀ (v3 : Int32) (v4 : Int32) (μ : Mem) (res : Mem × Int32), kl28 v3 v4 μ = some res → Sx 252 28 [(0, .ref 129), (3, .int v3), (4, .int v4)] [] 0 0 (mk L μ) (mk L res.1, some (.int res.2)))) (v3 : Int32) (v4 : Int32) (μ : Mem) (res : Mem × Int32) (h : b252_28 p1 kl28 v3 v4 μ = some res) : Sx 252 28 [(0, .ref 129), (3, .int v3), (4, .int v4)] [] 0 0 (mk L μ) (mk L res.1, some (.int res.2)) := by
  unfold b252_28 at h
  refine sx_iload k252_28 rfl ?_
  refine sx_iload_n (i := 3) k252_30 rfl rfl ?_
  by_cases hb1 : v3 ≤ v4
  · rw [if_pos hb1] at h
    refine sx_icmp_ge (tgt := 56) k252_31 (by decide) (fun _ => ?_) (fun q => absurd hb1 q)
    refine sx_iconst (v := 0) k252_56 (by decide) ?_
    refine cx_istore (lo2 := [(4, .int (0 : Int32)), (0, .ref 129), (3, .int v3)]) k252_57 (by rw [mx_252]; decide) rfl ?_
    refine sx_pick (lo2 := [(0, .ref 129), (3, .int v3), (4, .int (0 : Int32))]) [1, 2, 0] rfl ?_
    exact l252_59_ok p1 h1 gF v3 (0 : Int32) _ _ h
  · rw [if_neg hb1] at h
    refine sx_icmp_ge (tgt := 56) k252_31 (by decide) (fun q => absurd q hb1) (fun _ => ?_)
    refine sx_aload_n (i := 0) k252_34 rfl rfl ?_
    refine cx_getR (k := 4) k252_35 ow_252 fl_12_40 (by decide) sk_129 ft_11_4 sr_129_4 ?_
    refine sx_iconst (v := 2) k252_38 (by decide) ?_
    refine sx_iload k252_39 rfl ?_
    refine sx_iadd k252_41 ?_
    refine sx_aload_n (i := 0) k252_42 rfl rfl ?_
    refine cx_getR (k := 2) k252_43 ow_252 fl_12_27 (by decide) sk_129 ft_11_2 sr_129_2 ?_
    refine sx_iload k252_46 rfl ?_
    obtain ⟨x2, e3, h⟩ := Option.bind_eq_some_iff.mp h
    refine cx_iald k252_48 sk_131 e3 ?_
    obtain ⟨m4, e5, h⟩ := Option.bind_eq_some_iff.mp h
    refine cx_iast k252_49 sk_133 e5 ?_
    refine cx_iinc (c := 1) (lo2 := fun x6 => [(4, .int x6), (0, .ref 129), (3, .int v3)]) k252_50 rfl (by decide) (by rw [mx_252]; decide) (fun _ => rfl) h (fun x6 h => ?_)
    refine sx_goto (tgt := 28) k252_53 (by decide) ?_
    refine sx_pick (lo2 := [(0, .ref 129), (3, .int v3), (4, .int x6)]) [1, 2, 0] rfl ?_
    exact hk28 v3 x6 _ _ h
def l252_28 (p1 : Nat) : Nat → Int32 × Int32 × Mem → Option (Mem × Int32) :=
  fixN (fun self x => b252_28 p1 (fun v3 v4 μ => self (v3, v4, μ)) (x.1) (x.2.1) (x.2.2))
theorem l252_28_ok {L : Nat} (p1 : Nat) (h1 : SK0 p1 = (1, gln p1)) (n : Nat) (v3 : Int32) (v4 : Int32) (μ : Mem) (res : Mem × Int32) (h : l252_28 p1 n (v3, v4, μ) = some res) : Sx 252 28 [(0, .ref 129), (3, .int v3), (4, .int v4)] [] 0 0 (mk L μ) (mk L res.1, some (.int res.2)) := by
  have key := fixN_ind (P := fun x res => Sx 252 28 [(0, .ref 129), (3, .int (x.1)), (4, .int (x.2.1))] [] 0 0 (mk L (x.2.2)) (mk L res.1, some (.int res.2))) (F := fun self x => b252_28 p1 (fun v3 v4 μ => self (v3, v4, μ)) (x.1) (x.2.1) (x.2.2)) (fun self hself x res h => b252_28_ok p1 h1 (fun v3 v4 μ => self (v3, v4, μ)) (fun v3 v4 μ res hh => hself (v3, v4, μ) res hh) (x.1) (x.2.1) (x.2.2) res h) n (v3, v4, μ) res h
  exact key
/-- CraftHouseModel.unitOf([II)I -/
def f252 (p1 : Nat) (p2 : Int32) (μ : Mem) : Option (Mem × Int32) :=
  (f250 p1 p2 μ).bind fun r1 =>
  (stA 133 (0 : Int32) (235 : Int32) r1.1).bind fun m3 =>
  (stA 133 (1 : Int32) (144 : Int32) m3).bind fun m5 =>
  l252_28 p1 gF (r1.2, (0 : Int32), m5)
theorem ok252 {L : Nat} (p1 : Nat) (p2 : Int32) (h1 : SK0 p1 = (1, gln p1)) (μ : Mem) (res : Mem × Int32) (h : f252 p1 p2 μ = some res) : Mx 252 [.ref 129, .ref p1, .int p2] (mk L μ) (mk L res.1, some (.int res.2)) := by
  refine Mx_of ml_252 (by rw [mx_252]; exact Nat.le_of_ble_eq_true rfl) ?_
  show Sx 252 0 [(0, .ref 129), (1, .ref p1), (2, .int p2)] [] 0 0 (mk L μ) _
  unfold f252 at h
  refine sx_aload_n (i := 0) k252_0 rfl rfl ?_
  refine sx_aload_n (i := 1) k252_1 rfl rfl ?_
  refine sx_iload_n (i := 2) k252_2 rfl rfl ?_
  obtain ⟨r1, e2, h⟩ := Option.bind_eq_some_iff.mp h
  refine cx_V (sk := []) (vs := [.ref p1, .int p2]) st_252_250 k252_3 ow_252 cl_12_43 (by decide) rfl (Nat.le_of_ble_eq_true rfl) sk_129 (ok250 p1 p2 h1 _ _ e2) (sk3 := [.int r1.2]) rfl rfl ?_
  refine cx_istore_n (lo2 := [(3, .int r1.2), (0, .ref 129), (1, .ref p1), (2, .int p2)]) k252_6 rfl (by rw [mx_252]; decide) rfl ?_
  refine sx_aload_n (i := 0) k252_7 rfl rfl ?_
  refine cx_getR (k := 4) k252_8 ow_252 fl_12_40 (by decide) sk_129 ft_11_4 sr_129_4 ?_
  refine sx_iconst (v := 0) k252_11 (by decide) ?_
  refine sx_sipush (v := 235) k252_12 (by decide) ?_
  obtain ⟨m3, e4, h⟩ := Option.bind_eq_some_iff.mp h
  refine cx_iast k252_15 sk_133 e4 ?_
  refine sx_aload_n (i := 0) k252_16 rfl rfl ?_
  refine cx_getR (k := 4) k252_17 ow_252 fl_12_40 (by decide) sk_129 ft_11_4 sr_129_4 ?_
  refine sx_iconst (v := 1) k252_20 (by decide) ?_
  refine sx_sipush (v := 144) k252_21 (by decide) ?_
  obtain ⟨m5, e6, h⟩ := Option.bind_eq_some_iff.mp h
  refine cx_iast k252_24 sk_133 e6 ?_
  refine sx_iconst (v := 0) k252_25 (by decide) ?_
  refine cx_istore (lo2 := [(4, .int (0 : Int32)), (3, .int r1.2), (0, .ref 129), (1, .ref p1), (2, .int p2)]) k252_26 (by rw [mx_252]; decide) rfl ?_
  refine sx_pick (lo2 := [(0, .ref 129), (3, .int r1.2), (4, .int (0 : Int32))]) [2, 1, 0] rfl ?_
  exact l252_28_ok p1 h1 gF r1.2 (0 : Int32) _ _ h
theorem k251_0 : decode (gb 251) 0 = .ok (.iload_n 1, 1) := by decide +kernel
theorem k251_1 : decode (gb 251) 1 = .ok (.ifCond .lt 22, 3) := by decide +kernel
theorem k251_4 : decode (gb 251) 4 = .ok (.iload_n 1, 1) := by decide +kernel
theorem k251_5 : decode (gb 251) 5 = .ok (.iconst 1, 1) := by decide +kernel
theorem k251_6 : decode (gb 251) 6 = .ok (.if_icmp .gt 17, 3) := by decide +kernel
theorem k251_9 : decode (gb 251) 9 = .ok (.iload_n 1, 1) := by decide +kernel
theorem k251_10 : decode (gb 251) 10 = .ok (.iconst 1, 1) := by decide +kernel
theorem k251_11 : decode (gb 251) 11 = .ok (.if_icmp .ne 14, 3) := by decide +kernel
theorem k251_14 : decode (gb 251) 14 = .ok (.aload_n 0, 1) := by decide +kernel
theorem k251_15 : decode (gb 251) 15 = .ok (.getfield 3, 3) := by decide +kernel
theorem k251_18 : decode (gb 251) 18 = .ok (.bipush 8, 2) := by decide +kernel
theorem k251_20 : decode (gb 251) 20 = .ok (.if_icmp .eq 5, 3) := by decide +kernel
theorem k251_23 : decode (gb 251) 23 = .ok (.iconst (-1), 1) := by decide +kernel
theorem k251_24 : decode (gb 251) 24 = .ok (.ireturn, 1) := by decide +kernel
theorem k251_25 : decode (gb 251) 25 = .ok (.iload_n 1, 1) := by decide +kernel
theorem k251_26 : decode (gb 251) 26 = .ok (.iconst 1, 1) := by decide +kernel
theorem k251_27 : decode (gb 251) 27 = .ok (.if_icmp .ne 42, 3) := by decide +kernel
theorem k251_30 : decode (gb 251) 30 = .ok (.aload_n 0, 1) := by decide +kernel
theorem k251_31 : decode (gb 251) 31 = .ok (.getfield 7, 3) := by decide +kernel
theorem k251_34 : decode (gb 251) 34 = .ok (.iconst 0, 1) := by decide +kernel
theorem k251_35 : decode (gb 251) 35 = .ok (.invokestatic 34, 3) := by decide +kernel
theorem k251_38 : decode (gb 251) 38 = .ok (.istore_n 2, 1) := by decide +kernel
theorem k251_39 : decode (gb 251) 39 = .ok (.aload_n 0, 1) := by decide +kernel
theorem k251_40 : decode (gb 251) 40 = .ok (.iload_n 2, 1) := by decide +kernel
theorem k251_41 : decode (gb 251) 41 = .ok (.bipush (-2), 2) := by decide +kernel
theorem k251_43 : decode (gb 251) 43 = .ok (.if_icmp .ne 7, 3) := by decide +kernel
theorem k251_46 : decode (gb 251) 46 = .ok (.iconst 0, 1) := by decide +kernel
theorem k251_47 : decode (gb 251) 47 = .ok (.goto 5, 3) := by decide +kernel
theorem k251_50 : decode (gb 251) 50 = .ok (.bipush 7, 2) := by decide +kernel
theorem k251_52 : decode (gb 251) 52 = .ok (.putfield 3, 3) := by decide +kernel
theorem k251_55 : decode (gb 251) 55 = .ok (.iload_n 2, 1) := by decide +kernel
theorem k251_56 : decode (gb 251) 56 = .ok (.bipush (-2), 2) := by decide +kernel
theorem k251_58 : decode (gb 251) 58 = .ok (.if_icmp .ne 8, 3) := by decide +kernel
theorem k251_61 : decode (gb 251) 61 = .ok (.bipush (-2), 2) := by decide +kernel
theorem k251_63 : decode (gb 251) 63 = .ok (.goto 5, 3) := by decide +kernel
theorem k251_66 : decode (gb 251) 66 = .ok (.bipush 7, 2) := by decide +kernel
theorem k251_68 : decode (gb 251) 68 = .ok (.ireturn, 1) := by decide +kernel
theorem k251_69 : decode (gb 251) 69 = .ok (.aload_n 0, 1) := by decide +kernel
theorem k251_70 : decode (gb 251) 70 = .ok (.getfield 3, 3) := by decide +kernel
theorem k251_73 : decode (gb 251) 73 = .ok (.bipush 112, 2) := by decide +kernel
theorem k251_75 : decode (gb 251) 75 = .ok (.if_icmp .le 11, 3) := by decide +kernel
theorem k251_78 : decode (gb 251) 78 = .ok (.aload_n 0, 1) := by decide +kernel
theorem k251_79 : decode (gb 251) 79 = .ok (.iconst 0, 1) := by decide +kernel
theorem k251_80 : decode (gb 251) 80 = .ok (.putfield 3, 3) := by decide +kernel
theorem k251_83 : decode (gb 251) 83 = .ok (.bipush (-3), 2) := by decide +kernel
theorem k251_85 : decode (gb 251) 85 = .ok (.ireturn, 1) := by decide +kernel
theorem k251_86 : decode (gb 251) 86 = .ok (.aload_n 0, 1) := by decide +kernel
theorem k251_87 : decode (gb 251) 87 = .ok (.aload_n 0, 1) := by decide +kernel
theorem k251_88 : decode (gb 251) 88 = .ok (.aload_n 0, 1) := by decide +kernel
theorem k251_89 : decode (gb 251) 89 = .ok (.getfield 7, 3) := by decide +kernel
theorem k251_92 : decode (gb 251) 92 = .ok (.aload_n 0, 1) := by decide +kernel
theorem k251_93 : decode (gb 251) 93 = .ok (.getfield 3, 3) := by decide +kernel
theorem k251_96 : decode (gb 251) 96 = .ok (.invokevirtual 37, 3) := by decide +kernel
theorem k251_99 : decode (gb 251) 99 = .ok (.putfield 3, 3) := by decide +kernel
theorem k251_102 : decode (gb 251) 102 = .ok (.iconst 0, 1) := by decide +kernel
theorem k251_103 : decode (gb 251) 103 = .ok (.istore_n 2, 1) := by decide +kernel
theorem k251_104 : decode (gb 251) 104 = .ok (.iload_n 2, 1) := by decide +kernel
theorem k251_105 : decode (gb 251) 105 = .ok (.aload_n 0, 1) := by decide +kernel
theorem k251_106 : decode (gb 251) 106 = .ok (.getfield 3, 3) := by decide +kernel
theorem k251_109 : decode (gb 251) 109 = .ok (.if_icmp .ge 21, 3) := by decide +kernel
theorem k251_112 : decode (gb 251) 112 = .ok (.aload_n 0, 1) := by decide +kernel
theorem k251_113 : decode (gb 251) 113 = .ok (.getfield 7, 3) := by decide +kernel
theorem k251_116 : decode (gb 251) 116 = .ok (.iload_n 2, 1) := by decide +kernel
theorem k251_117 : decode (gb 251) 117 = .ok (.aload_n 0, 1) := by decide +kernel
theorem k251_118 : decode (gb 251) 118 = .ok (.getfield 40, 3) := by decide +kernel
theorem k251_121 : decode (gb 251) 121 = .ok (.iload_n 2, 1) := by decide +kernel
theorem k251_122 : decode (gb 251) 122 = .ok (.iaload, 1) := by decide +kernel
theorem k251_123 : decode (gb 251) 123 = .ok (.iastore, 1) := by decide +kernel
theorem k251_124 : decode (gb 251) 124 = .ok (.iinc 2 1, 3) := by decide +kernel
theorem k251_127 : decode (gb 251) 127 = .ok (.goto (-23), 3) := by decide +kernel
theorem k251_130 : decode (gb 251) 130 = .ok (.aload_n 0, 1) := by decide +kernel
theorem k251_131 : decode (gb 251) 131 = .ok (.getfield 3, 3) := by decide +kernel
theorem k251_134 : decode (gb 251) 134 = .ok (.ireturn, 1) := by decide +kernel
def c251_52 (v2 : Int32) (s1 : Int32) (μ : Mem) : Option (Mem × Int32) :=
  (pfI 129 1 s1 μ).bind fun m1 =>
  if v2 = (-2 : Int32) then
    some (m1, (-2 : Int32))
  else
    some (m1, (7 : Int32))
theorem c251_52_ok {L : Nat} (v2 : Int32) (s1 : Int32) (μ : Mem) (res : Mem × Int32) (h : c251_52 v2 s1 μ = some res) : Sx 251 52 [(2, .int v2)] [.int s1, .ref 129] 0 0 (mk L μ) (mk L res.1, some (.int res.2)) := by
  unfold c251_52 at h
  obtain ⟨m1, e2, h⟩ := Option.bind_eq_some_iff.mp h
  refine cx_putI (k := 1) k251_52 ow_251 fl_12_3 (by decide) sk_129 nf_11_1 fu_11_1 e2 ?_
  refine sx_iload_n (i := 2) k251_55 rfl rfl ?_
  refine sx_bipush (v := -2) k251_56 (by decide) ?_
  by_cases hb3 : v2 = (-2 : Int32)
  · rw [if_pos hb3] at h
    refine sx_icmp_ne (tgt := 66) k251_58 (by decide) (fun q => absurd hb3 q) (fun _ => ?_)
    refine sx_bipush (v := -2) k251_61 (by decide) ?_
    refine sx_goto (tgt := 68) k251_63 (by decide) ?_
    exact cx_reti k251_68 rt_251 h
  · rw [if_neg hb3] at h
    refine sx_icmp_ne (tgt := 66) k251_58 (by decide) (fun _ => ?_) (fun q => absurd q hb3)
    refine sx_bipush (v := 7) k251_66 (by decide) ?_
    exact cx_reti k251_68 rt_251 h
def b251_104 (kl104 : Int32 → Mem → Option (Mem × Int32)) (v2 : Int32) (μ : Mem) : Option (Mem × Int32) :=
  if (μ.1 129 1) ≤ v2 then
    some (μ, (μ.1 129 1))
  else
    (ldA 133 v2 μ).bind fun x2 =>
    (stA 130 v2 x2 μ).bind fun m4 =>
    nm (v2 + (1 : Int32)) fun x6 =>
    kl104 x6 m4
theorem b251_104_ok {L : Nat} (kl104 : Int32 → Mem → Option (Mem × Int32)) (hk104 : (∀ (v2 : Int32) (μ : Mem) (res : Mem × Int32), kl104 v2 μ = some res → Sx 251 104 [(0, .ref 129), (2, .int v2)] [] 0 0 (mk L μ) (mk L res.1, some (.int res.2)))) (v2 : Int32) (μ : Mem) (res : Mem × Int32) (h : b251_104 kl104 v2 μ = some res) : Sx 251 104 [(0, .ref 129), (2, .int v2)] [] 0 0 (mk L μ) (mk L res.1, some (.int res.2)) := by
  unfold b251_104 at h
  refine sx_iload_n (i := 2) k251_104 rfl rfl ?_
  refine sx_aload_n (i := 0) k251_105 rfl rfl ?_
  refine cx_getI (k := 1) k251_106 ow_251 fl_12_3 (by decide) sk_129 ft_11_1 ?_
  by_cases hb1 : (μ.1 129 1) ≤ v2
  · rw [if_pos hb1] at h
    refine sx_icmp_ge (tgt := 130) k251_109 (by decide) (fun _ => ?_) (fun q => absurd hb1 q)
    refine sx_aload_n (i := 0) k251_130 rfl rfl ?_
    refine cx_getI (k := 1) k251_131 ow_251 fl_12_3 (by decide) sk_129 ft_11_1 ?_
    exact cx_reti k251_134 rt_251 h
  · rw [if_neg hb1] at h
    refine sx_icmp_ge (tgt := 130) k251_109 (by decide) (fun q => absurd q hb1) (fun _ => ?_)
    refine sx_aload_n (i := 0) k251_112 rfl rfl ?_
    refine cx_getR (k := 0) k251_113 ow_251 fl_12_7 (by decide) sk_129 ft_11_0 sr_129_0 ?_
    refine sx_iload_n (i := 2) k251_116 rfl rfl ?_
    refine sx_aload_n (i := 0) k251_117 rfl rfl ?_
    refine cx_getR (k := 4) k251_118 ow_251 fl_12_40 (by decide) sk_129 ft_11_4 sr_129_4 ?_
    refine sx_iload_n (i := 2) k251_121 rfl rfl ?_
    obtain ⟨x2, e3, h⟩ := Option.bind_eq_some_iff.mp h
    refine cx_iald k251_122 sk_133 e3 ?_
    obtain ⟨m4, e5, h⟩ := Option.bind_eq_some_iff.mp h
    refine cx_iast k251_123 sk_130 e5 ?_
    refine cx_iinc (c := 1) (lo2 := fun x6 => [(2, .int x6), (0, .ref 129)]) k251_124 rfl (by decide) (by rw [mx_251]; decide) (fun _ => rfl) h (fun x6 h => ?_)
    refine sx_goto (tgt := 104) k251_127 (by decide) ?_
    refine sx_pick (lo2 := [(0, .ref 129), (2, .int x6)]) [1, 0] rfl ?_
    exact hk104 x6 _ _ h
def l251_104 : Nat → Int32 × Mem → Option (Mem × Int32) :=
  fixN (fun self x => b251_104 (fun v2 μ => self (v2, μ)) (x.1) (x.2))
theorem l251_104_ok {L : Nat} (n : Nat) (v2 : Int32) (μ : Mem) (res : Mem × Int32) (h : l251_104 n (v2, μ) = some res) : Sx 251 104 [(0, .ref 129), (2, .int v2)] [] 0 0 (mk L μ) (mk L res.1, some (.int res.2)) := by
  have key := fixN_ind (P := fun x res => Sx 251 104 [(0, .ref 129), (2, .int (x.1))] [] 0 0 (mk L (x.2)) (mk L res.1, some (.int res.2))) (F := fun self x => b251_104 (fun v2 μ => self (v2, μ)) (x.1) (x.2)) (fun self hself x res h => b251_104_ok (fun v2 μ => self (v2, μ)) (fun v2 μ res hh => hself (v2, μ) res hh) (x.1) (x.2) res h) n (v2, μ) res h
  exact key
def c251_25 (v1 : Int32) (μ : Mem) : Option (Mem × Int32) :=
  if v1 = (1 : Int32) then
    (f249 130 (0 : Int32) μ).bind fun r9 =>
    if r9.2 = (-2 : Int32) then
      c251_52 r9.2 (0 : Int32) r9.1
    else
      c251_52 r9.2 (7 : Int32) r9.1
  else
    if (μ.1 129 1) ≤ (112 : Int32) then
      (f252 130 (μ.1 129 1) μ).bind fun r3 =>
      (pfI 129 1 r3.2 r3.1).bind fun m5 =>
      l251_104 gF ((0 : Int32), m5)
    else
      (pfI 129 1 (0 : Int32) μ).bind fun m7 =>
      some (m7, (-3 : Int32))
theorem c251_25_ok {L : Nat} (v1 : Int32) (μ : Mem) (res : Mem × Int32) (h : c251_25 v1 μ = some res) : Sx 251 25 [(0, .ref 129), (1, .int v1)] [] 0 0 (mk L μ) (mk L res.1, some (.int res.2)) := by
  unfold c251_25 at h
  refine sx_iload_n (i := 1) k251_25 rfl rfl ?_
  refine sx_iconst (v := 1) k251_26 (by decide) ?_
  by_cases hb1 : v1 = (1 : Int32)
  · rw [if_pos hb1] at h
    refine sx_icmp_ne (tgt := 69) k251_27 (by decide) (fun q => absurd hb1 q) (fun _ => ?_)
    refine sx_aload_n (i := 0) k251_30 rfl rfl ?_
    refine cx_getR (k := 0) k251_31 ow_251 fl_12_7 (by decide) sk_129 ft_11_0 sr_129_0 ?_
    refine sx_iconst (v := 0) k251_34 (by decide) ?_
    obtain ⟨r9, e10, h⟩ := Option.bind_eq_some_iff.mp h
    refine cx_S (sk := []) (vs := [.ref 130, .int (0 : Int32)]) st_251_249 k251_35 ow_251 cl_12_34 (by decide) rfl (Nat.le_of_ble_eq_true rfl) (ok249 130 (0 : Int32) sk_130 _ _ e10) (sk3 := [.int r9.2]) rfl rfl ?_
    refine cx_istore_n (lo2 := [(2, .int r9.2), (0, .ref 129), (1, .int v1)]) k251_38 rfl (by rw [mx_251]; decide) rfl ?_
    refine sx_aload_n (i := 0) k251_39 rfl rfl ?_
    refine sx_iload_n (i := 2) k251_40 rfl rfl ?_
    refine sx_bipush (v := -2) k251_41 (by decide) ?_
    by_cases hb11 : r9.2 = (-2 : Int32)
    · rw [if_pos hb11] at h
      refine sx_icmp_ne (tgt := 50) k251_43 (by decide) (fun q => absurd hb11 q) (fun _ => ?_)
      refine sx_iconst (v := 0) k251_46 (by decide) ?_
      refine sx_goto (tgt := 52) k251_47 (by decide) ?_
      refine sx_pick (lo2 := [(2, .int r9.2)]) [0] rfl ?_
      exact c251_52_ok r9.2 (0 : Int32) _ _ h
    · rw [if_neg hb11] at h
      refine sx_icmp_ne (tgt := 50) k251_43 (by decide) (fun _ => ?_) (fun q => absurd q hb11)
      refine sx_bipush (v := 7) k251_50 (by decide) ?_
      refine sx_pick (lo2 := [(2, .int r9.2)]) [0] rfl ?_
      exact c251_52_ok r9.2 (7 : Int32) _ _ h
  · rw [if_neg hb1] at h
    refine sx_icmp_ne (tgt := 69) k251_27 (by decide) (fun _ => ?_) (fun q => absurd q hb1)
    refine sx_aload_n (i := 0) k251_69 rfl rfl ?_
    refine cx_getI (k := 1) k251_70 ow_251 fl_12_3 (by decide) sk_129 ft_11_1 ?_
    refine sx_bipush (v := 112) k251_73 (by decide) ?_
    by_cases hb2 : (μ.1 129 1) ≤ (112 : Int32)
    · rw [if_pos hb2] at h
      refine sx_icmp_le (tgt := 86) k251_75 (by decide) (fun _ => ?_) (fun q => absurd hb2 q)
      refine sx_aload_n (i := 0) k251_86 rfl rfl ?_
      refine sx_aload_n (i := 0) k251_87 rfl rfl ?_
      refine sx_aload_n (i := 0) k251_88 rfl rfl ?_
      refine cx_getR (k := 0) k251_89 ow_251 fl_12_7 (by decide) sk_129 ft_11_0 sr_129_0 ?_
      refine sx_aload_n (i := 0) k251_92 rfl rfl ?_
      refine cx_getI (k := 1) k251_93 ow_251 fl_12_3 (by decide) sk_129 ft_11_1 ?_
      obtain ⟨r3, e4, h⟩ := Option.bind_eq_some_iff.mp h
      refine cx_V (sk := [.ref 129]) (vs := [.ref 130, .int (μ.1 129 1)]) st_251_252 k251_96 ow_251 cl_12_37 (by decide) rfl (Nat.le_of_ble_eq_true rfl) sk_129 (ok252 130 (μ.1 129 1) sk_130 _ _ e4) (sk3 := [.int r3.2, .ref 129]) rfl rfl ?_
      obtain ⟨m5, e6, h⟩ := Option.bind_eq_some_iff.mp h
      refine cx_putI (k := 1) k251_99 ow_251 fl_12_3 (by decide) sk_129 nf_11_1 fu_11_1 e6 ?_
      refine sx_iconst (v := 0) k251_102 (by decide) ?_
      refine cx_istore_n (lo2 := [(2, .int (0 : Int32)), (0, .ref 129), (1, .int v1)]) k251_103 rfl (by rw [mx_251]; decide) rfl ?_
      refine sx_pick (lo2 := [(0, .ref 129), (2, .int (0 : Int32))]) [1, 0] rfl ?_
      exact l251_104_ok gF (0 : Int32) _ _ h
    · rw [if_neg hb2] at h
      refine sx_icmp_le (tgt := 86) k251_75 (by decide) (fun q => absurd q hb2) (fun _ => ?_)
      refine sx_aload_n (i := 0) k251_78 rfl rfl ?_
      refine sx_iconst (v := 0) k251_79 (by decide) ?_
      obtain ⟨m7, e8, h⟩ := Option.bind_eq_some_iff.mp h
      refine cx_putI (k := 1) k251_80 ow_251 fl_12_3 (by decide) sk_129 nf_11_1 fu_11_1 e8 ?_
      refine sx_bipush (v := -3) k251_83 (by decide) ?_
      exact cx_reti k251_85 rt_251 h
/-- CraftHouseModel.code(I)I -/
def f251 (p1 : Int32) (μ : Mem) : Option (Mem × Int32) :=
  if p1 < 0 then
    some (μ, (-1 : Int32))
  else
    if (1 : Int32) < p1 then
      some (μ, (-1 : Int32))
    else
      if p1 = (1 : Int32) then
        if (μ.1 129 1) = (8 : Int32) then
          c251_25 p1 μ
        else
          some (μ, (-1 : Int32))
      else
        c251_25 p1 μ
theorem ok251 {L : Nat} (p1 : Int32) (μ : Mem) (res : Mem × Int32) (h : f251 p1 μ = some res) : Mx 251 [.ref 129, .int p1] (mk L μ) (mk L res.1, some (.int res.2)) := by
  refine Mx_of ml_251 (by rw [mx_251]; exact Nat.le_of_ble_eq_true rfl) ?_
  show Sx 251 0 [(0, .ref 129), (1, .int p1)] [] 0 0 (mk L μ) _
  unfold f251 at h
  refine sx_iload_n (i := 1) k251_0 rfl rfl ?_
  by_cases hb1 : p1 < 0
  · rw [if_pos hb1] at h
    refine sx_if_lt (tgt := 23) k251_1 (by decide) (fun _ => ?_) (fun q => absurd hb1 q)
    refine sx_iconst (v := -1) k251_23 (by decide) ?_
    exact cx_reti k251_24 rt_251 h
  · rw [if_neg hb1] at h
    refine sx_if_lt (tgt := 23) k251_1 (by decide) (fun q => absurd q hb1) (fun _ => ?_)
    refine sx_iload_n (i := 1) k251_4 rfl rfl ?_
    refine sx_iconst (v := 1) k251_5 (by decide) ?_
    by_cases hb2 : (1 : Int32) < p1
    · rw [if_pos hb2] at h
      refine sx_icmp_gt (tgt := 23) k251_6 (by decide) (fun _ => ?_) (fun q => absurd hb2 q)
      refine sx_iconst (v := -1) k251_23 (by decide) ?_
      exact cx_reti k251_24 rt_251 h
    · rw [if_neg hb2] at h
      refine sx_icmp_gt (tgt := 23) k251_6 (by decide) (fun q => absurd q hb2) (fun _ => ?_)
      refine sx_iload_n (i := 1) k251_9 rfl rfl ?_
      refine sx_iconst (v := 1) k251_10 (by decide) ?_
      by_cases hb3 : p1 = (1 : Int32)
      · rw [if_pos hb3] at h
        refine sx_icmp_ne (tgt := 25) k251_11 (by decide) (fun q => absurd hb3 q) (fun _ => ?_)
        refine sx_aload_n (i := 0) k251_14 rfl rfl ?_
        refine cx_getI (k := 1) k251_15 ow_251 fl_12_3 (by decide) sk_129 ft_11_1 ?_
        refine sx_bipush (v := 8) k251_18 (by decide) ?_
        by_cases hb4 : (μ.1 129 1) = (8 : Int32)
        · rw [if_pos hb4] at h
          refine sx_icmp_eq (tgt := 25) k251_20 (by decide) (fun _ => ?_) (fun q => absurd hb4 q)
          refine sx_pick (lo2 := [(0, .ref 129), (1, .int p1)]) [0, 1] rfl ?_
          exact c251_25_ok p1 _ _ h
        · rw [if_neg hb4] at h
          refine sx_icmp_eq (tgt := 25) k251_20 (by decide) (fun q => absurd q hb4) (fun _ => ?_)
          refine sx_iconst (v := -1) k251_23 (by decide) ?_
          exact cx_reti k251_24 rt_251 h
      · rw [if_neg hb3] at h
        refine sx_icmp_ne (tgt := 25) k251_11 (by decide) (fun _ => ?_) (fun q => absurd q hb3)
        refine sx_pick (lo2 := [(0, .ref 129), (1, .int p1)]) [0, 1] rfl ?_
        exact c251_25_ok p1 _ _ h
theorem k253_0 : decode (gb 253) 0 = .ok (.iload_n 1, 1) := by decide +kernel
theorem k253_1 : decode (gb 253) 1 = .ok (.ifCond .ne 10, 3) := by decide +kernel
theorem k253_4 : decode (gb 253) 4 = .ok (.aload_n 0, 1) := by decide +kernel
theorem k253_5 : decode (gb 253) 5 = .ok (.getfield 46, 3) := by decide +kernel
theorem k253_8 : decode (gb 253) 8 = .ok (.goto 7, 3) := by decide +kernel
theorem k253_11 : decode (gb 253) 11 = .ok (.aload_n 0, 1) := by decide +kernel
theorem k253_12 : decode (gb 253) 12 = .ok (.getfield 50, 3) := by decide +kernel
theorem k253_15 : decode (gb 253) 15 = .ok (.areturn, 1) := by decide +kernel
/-- CraftHouseModel.lineRow(I)[Z -/
def f253 (p1 : Int32) (μ : Mem) : Option (Mem × Nat) :=
  if p1 = 0 then
    some (μ, 134)
  else
    some (μ, 135)
theorem ok253 {L : Nat} (p1 : Int32) (μ : Mem) (res : Mem × Nat) (h : f253 p1 μ = some res) : Mx 253 [.ref 129, .int p1] (mk L μ) (mk L res.1, some (.ref res.2)) := by
  refine Mx_of ml_253 (by rw [mx_253]; exact Nat.le_of_ble_eq_true rfl) ?_
  show Sx 253 0 [(0, .ref 129), (1, .int p1)] [] 0 0 (mk L μ) _
  unfold f253 at h
  refine sx_iload_n (i := 1) k253_0 rfl rfl ?_
  by_cases hb1 : p1 = 0
  · rw [if_pos hb1] at h
    refine sx_if_ne (tgt := 11) k253_1 (by decide) (fun q => absurd hb1 q) (fun _ => ?_)
    refine sx_aload_n (i := 0) k253_4 rfl rfl ?_
    refine cx_getR (k := 5) k253_5 ow_253 fl_12_46 (by decide) sk_129 ft_11_5 sr_129_5 ?_
    refine sx_goto (tgt := 15) k253_8 (by decide) ?_
    exact cx_reta k253_15 rt_253 h
  · rw [if_neg hb1] at h
    refine sx_if_ne (tgt := 11) k253_1 (by decide) (fun _ => ?_) (fun q => absurd q hb1)
    refine sx_aload_n (i := 0) k253_11 rfl rfl ?_
    refine cx_getR (k := 6) k253_12 ow_253 fl_12_50 (by decide) sk_129 ft_11_6 sr_129_6 ?_
    exact cx_reta k253_15 rt_253 h
theorem rk_253 {p1 : Int32} {μ : Mem} {r : Mem × Nat} (h : f253 p1 μ = some r) : SK0 r.2 = (3, gln r.2) := by
  unfold f253 at h
  split at h <;> cases h <;> first | exact sk_134 | exact sk_135
theorem k254_0 : decode (gb 254) 0 = .ok (.iload_n 1, 1) := by decide +kernel
theorem k254_1 : decode (gb 254) 1 = .ok (.ifCond .ne 9, 3) := by decide +kernel
theorem k254_4 : decode (gb 254) 4 = .ok (.sipush 32000, 3) := by decide +kernel
theorem k254_7 : decode (gb 254) 7 = .ok (.goto 5, 3) := by decide +kernel
theorem k254_10 : decode (gb 254) 10 = .ok (.ldc 53, 2) := by decide +kernel
theorem k254_12 : decode (gb 254) 12 = .ok (.aload_n 0, 1) := by decide +kernel
theorem k254_13 : decode (gb 254) 13 = .ok (.getfield 54, 3) := by decide +kernel
theorem k254_16 : decode (gb 254) 16 = .ok (.iload_n 1, 1) := by decide +kernel
theorem k254_17 : decode (gb 254) 17 = .ok (.iaload, 1) := by decide +kernel
theorem k254_18 : decode (gb 254) 18 = .ok (.isub, 1) := by decide +kernel
theorem k254_19 : decode (gb 254) 19 = .ok (.ireturn, 1) := by decide +kernel
def c254_12 (v1 : Int32) (s0 : Int32) (μ : Mem) : Option (Mem × Int32) :=
  (ldA 136 v1 μ).bind fun x1 =>
  some (μ, (s0 - x1))
theorem c254_12_ok {L : Nat} (v1 : Int32) (s0 : Int32) (μ : Mem) (res : Mem × Int32) (h : c254_12 v1 s0 μ = some res) : Sx 254 12 [(0, .ref 129), (1, .int v1)] [.int s0] 0 0 (mk L μ) (mk L res.1, some (.int res.2)) := by
  unfold c254_12 at h
  refine sx_aload_n (i := 0) k254_12 rfl rfl ?_
  refine cx_getR (k := 7) k254_13 ow_254 fl_12_54 (by decide) sk_129 ft_11_7 sr_129_7 ?_
  refine sx_iload_n (i := 1) k254_16 rfl rfl ?_
  obtain ⟨x1, e2, h⟩ := Option.bind_eq_some_iff.mp h
  refine cx_iald k254_17 sk_136 e2 ?_
  refine sx_isub k254_18 ?_
  exact cx_reti k254_19 rt_254 h
/-- CraftHouseModel.room(I)I -/
def f254 (p1 : Int32) (μ : Mem) : Option (Mem × Int32) :=
  if p1 = 0 then
    c254_12 p1 (32000 : Int32) μ
  else
    c254_12 p1 (64000 : Int32) μ
theorem ok254 {L : Nat} (p1 : Int32) (μ : Mem) (res : Mem × Int32) (h : f254 p1 μ = some res) : Mx 254 [.ref 129, .int p1] (mk L μ) (mk L res.1, some (.int res.2)) := by
  refine Mx_of ml_254 (by rw [mx_254]; exact Nat.le_of_ble_eq_true rfl) ?_
  show Sx 254 0 [(0, .ref 129), (1, .int p1)] [] 0 0 (mk L μ) _
  unfold f254 at h
  refine sx_iload_n (i := 1) k254_0 rfl rfl ?_
  by_cases hb1 : p1 = 0
  · rw [if_pos hb1] at h
    refine sx_if_ne (tgt := 10) k254_1 (by decide) (fun q => absurd hb1 q) (fun _ => ?_)
    refine sx_sipush (v := 32000) k254_4 (by decide) ?_
    refine sx_goto (tgt := 12) k254_7 (by decide) ?_
    refine sx_pick (lo2 := [(0, .ref 129), (1, .int p1)]) [0, 1] rfl ?_
    exact c254_12_ok p1 (32000 : Int32) _ _ h
  · rw [if_neg hb1] at h
    refine sx_if_ne (tgt := 10) k254_1 (by decide) (fun _ => ?_) (fun q => absurd q hb1)
    refine cx_ldc (v := 64000) k254_10 ow_254 kl_12_53 (by decide) ?_
    refine sx_pick (lo2 := [(0, .ref 129), (1, .int p1)]) [0, 1] rfl ?_
    exact c254_12_ok p1 (64000 : Int32) _ _ h
theorem k255_0 : decode (gb 255) 0 = .ok (.iload_n 0, 1) := by decide +kernel
theorem k255_1 : decode (gb 255) 1 = .ok (.ifCond .eq 8, 3) := by decide +kernel
theorem k255_4 : decode (gb 255) 4 = .ok (.iload_n 0, 1) := by decide +kernel
theorem k255_5 : decode (gb 255) 5 = .ok (.iconst 1, 1) := by decide +kernel
theorem k255_6 : decode (gb 255) 6 = .ok (.if_icmp .ne 7, 3) := by decide +kernel
theorem k255_9 : decode (gb 255) 9 = .ok (.iconst 1, 1) := by decide +kernel
theorem k255_10 : decode (gb 255) 10 = .ok (.goto 4, 3) := by decide +kernel
theorem k255_13 : decode (gb 255) 13 = .ok (.iconst 0, 1) := by decide +kernel
theorem k255_14 : decode (gb 255) 14 = .ok (.ireturn, 1) := by decide +kernel
def c255_9 (μ : Mem) : Option (Mem × Int32) :=
  rtZ (1 : Int32) μ
theorem c255_9_ok {L : Nat} (μ : Mem) (res : Mem × Int32) (h : c255_9 μ = some res) : Sx 255 9 [] [] 0 0 (mk L μ) (mk L res.1, some (.int res.2)) := by
  unfold c255_9 at h
  refine sx_iconst (v := 1) k255_9 (by decide) ?_
  refine sx_goto (tgt := 14) k255_10 (by decide) ?_
  exact cx_retz k255_14 rt_255 h
/-- CraftHouseModel.isLine(I)Z -/
def f255 (p1 : Int32) (μ : Mem) : Option (Mem × Int32) :=
  if p1 = 0 then
    c255_9 μ
  else
    if p1 = (1 : Int32) then
      c255_9 μ
    else
      rtZ (0 : Int32) μ
theorem ok255 {L : Nat} (p1 : Int32) (μ : Mem) (res : Mem × Int32) (h : f255 p1 μ = some res) : Mx 255 [.int p1] (mk L μ) (mk L res.1, some (.int res.2)) := by
  refine Mx_of ml_255 (by rw [mx_255]; exact Nat.le_of_ble_eq_true rfl) ?_
  show Sx 255 0 [(0, .int p1)] [] 0 0 (mk L μ) _
  unfold f255 at h
  refine sx_iload_n (i := 0) k255_0 rfl rfl ?_
  by_cases hb1 : p1 = 0
  · rw [if_pos hb1] at h
    refine sx_if_eq (tgt := 9) k255_1 (by decide) (fun _ => ?_) (fun q => absurd hb1 q)
    refine sx_pick (lo2 := []) [] rfl ?_
    exact c255_9_ok _ _ h
  · rw [if_neg hb1] at h
    refine sx_if_eq (tgt := 9) k255_1 (by decide) (fun q => absurd q hb1) (fun _ => ?_)
    refine sx_iload_n (i := 0) k255_4 rfl rfl ?_
    refine sx_iconst (v := 1) k255_5 (by decide) ?_
    by_cases hb2 : p1 = (1 : Int32)
    · rw [if_pos hb2] at h
      refine sx_icmp_ne (tgt := 13) k255_6 (by decide) (fun q => absurd hb2 q) (fun _ => ?_)
      refine sx_pick (lo2 := []) [] rfl ?_
      exact c255_9_ok _ _ h
    · rw [if_neg hb2] at h
      refine sx_icmp_ne (tgt := 13) k255_6 (by decide) (fun _ => ?_) (fun q => absurd q hb2)
      refine sx_iconst (v := 0) k255_13 (by decide) ?_
      exact cx_retz k255_14 rt_255 h
theorem k256_0 : decode (gb 256) 0 = .ok (.aload_n 0, 1) := by decide +kernel
theorem k256_1 : decode (gb 256) 1 = .ok (.iload_n 1, 1) := by decide +kernel
theorem k256_2 : decode (gb 256) 2 = .ok (.invokevirtual 57, 3) := by decide +kernel
theorem k256_5 : decode (gb 256) 5 = .ok (.astore 4, 2) := by decide +kernel
theorem k256_7 : decode (gb 256) 7 = .ok (.iconst 0, 1) := by decide +kernel
theorem k256_8 : decode (gb 256) 8 = .ok (.istore 5, 2) := by decide +kernel
theorem k256_10 : decode (gb 256) 10 = .ok (.iload 5, 2) := by decide +kernel
theorem k256_12 : decode (gb 256) 12 = .ok (.bipush 8, 2) := by decide +kernel
theorem k256_14 : decode (gb 256) 14 = .ok (.iload_n 3, 1) := by decide +kernel
theorem k256_15 : decode (gb 256) 15 = .ok (.imul, 1) := by decide +kernel
theorem k256_16 : decode (gb 256) 16 = .ok (.if_icmp .ge 48, 3) := by decide +kernel
theorem k256_19 : decode (gb 256) 19 = .ok (.aload 4, 2) := by decide +kernel
theorem k256_21 : decode (gb 256) 21 = .ok (.aload_n 0, 1) := by decide +kernel
theorem k256_22 : decode (gb 256) 22 = .ok (.getfield 54, 3) := by decide +kernel
theorem k256_25 : decode (gb 256) 25 = .ok (.iload_n 1, 1) := by decide +kernel
theorem k256_26 : decode (gb 256) 26 = .ok (.iaload, 1) := by decide +kernel
theorem k256_27 : decode (gb 256) 27 = .ok (.iload 5, 2) := by decide +kernel
theorem k256_29 : decode (gb 256) 29 = .ok (.iadd, 1) := by decide +kernel
theorem k256_30 : decode (gb 256) 30 = .ok (.aload_n 2, 1) := by decide +kernel
theorem k256_31 : decode (gb 256) 31 = .ok (.iload 5, 2) := by decide +kernel
theorem k256_33 : decode (gb 256) 33 = .ok (.bipush 8, 2) := by decide +kernel
theorem k256_35 : decode (gb 256) 35 = .ok (.idiv, 1) := by decide +kernel
theorem k256_36 : decode (gb 256) 36 = .ok (.iaload, 1) := by decide +kernel
theorem k256_37 : decode (gb 256) 37 = .ok (.bipush 7, 2) := by decide +kernel
theorem k256_39 : decode (gb 256) 39 = .ok (.iload 5, 2) := by decide +kernel
theorem k256_41 : decode (gb 256) 41 = .ok (.bipush 8, 2) := by decide +kernel
theorem k256_43 : decode (gb 256) 43 = .ok (.irem, 1) := by decide +kernel
theorem k256_44 : decode (gb 256) 44 = .ok (.isub, 1) := by decide +kernel
theorem k256_45 : decode (gb 256) 45 = .ok (.ishr, 1) := by decide +kernel
theorem k256_46 : decode (gb 256) 46 = .ok (.iconst 1, 1) := by decide +kernel
theorem k256_47 : decode (gb 256) 47 = .ok (.iand, 1) := by decide +kernel
theorem k256_48 : decode (gb 256) 48 = .ok (.iconst 1, 1) := by decide +kernel
theorem k256_49 : decode (gb 256) 49 = .ok (.if_icmp .ne 7, 3) := by decide +kernel
theorem k256_52 : decode (gb 256) 52 = .ok (.iconst 1, 1) := by decide +kernel
theorem k256_53 : decode (gb 256) 53 = .ok (.goto 4, 3) := by decide +kernel
theorem k256_56 : decode (gb 256) 56 = .ok (.iconst 0, 1) := by decide +kernel
theorem k256_57 : decode (gb 256) 57 = .ok (.bastore, 1) := by decide +kernel
theorem k256_58 : decode (gb 256) 58 = .ok (.iinc 5 1, 3) := by decide +kernel
theorem k256_61 : decode (gb 256) 61 = .ok (.goto (-51), 3) := by decide +kernel
theorem k256_64 : decode (gb 256) 64 = .ok (.aload_n 0, 1) := by decide +kernel
theorem k256_65 : decode (gb 256) 65 = .ok (.getfield 54, 3) := by decide +kernel
theorem k256_68 : decode (gb 256) 68 = .ok (.iload_n 1, 1) := by decide +kernel
theorem k256_69 : decode (gb 256) 69 = .ok (.dup2, 1) := by decide +kernel
theorem k256_70 : decode (gb 256) 70 = .ok (.iaload, 1) := by decide +kernel
theorem k256_71 : decode (gb 256) 71 = .ok (.bipush 8, 2) := by decide +kernel
theorem k256_73 : decode (gb 256) 73 = .ok (.iload_n 3, 1) := by decide +kernel
theorem k256_74 : decode (gb 256) 74 = .ok (.imul, 1) := by decide +kernel
theorem k256_75 : decode (gb 256) 75 = .ok (.iadd, 1) := by decide +kernel
theorem k256_76 : decode (gb 256) 76 = .ok (.iastore, 1) := by decide +kernel
theorem k256_77 : decode (gb 256) 77 = .ok (.return_, 1) := by decide +kernel
def c256_57 (p2 : Nat) (kl10 : Int32 → Int32 → Nat → Int32 → Mem → Option (Mem)) (v1 : Int32) (v3 : Int32) (q4 : Nat) (v5 : Int32) (t0 : Nat) (s1 : Int32) (s2 : Int32) (μ : Mem) : Option (Mem) :=
  (stZ t0 s1 s2 μ).bind fun m1 =>
  nm (v5 + (1 : Int32)) fun x3 =>
  kl10 v1 v3 q4 x3 m1
theorem c256_57_ok {L : Nat} (p2 : Nat) (h2 : SK0 p2 = (1, gln p2)) (kl10 : Int32 → Int32 → Nat → Int32 → Mem → Option (Mem)) (hk10 : (∀ (v1 : Int32) (v3 : Int32) (q4 : Nat) (v5 : Int32) (hq4 : SK0 q4 = (3, gln q4)) (μ : Mem) (res : Mem), kl10 v1 v3 q4 v5 μ = some res → Sx 256 10 [(0, .ref 129), (1, .int v1), (2, .ref p2), (3, .int v3), (4, .ref q4), (5, .int v5)] [] 0 0 (mk L μ) (mk L res, none))) (v1 : Int32) (v3 : Int32) (q4 : Nat) (v5 : Int32) (t0 : Nat) (s1 : Int32) (s2 : Int32) (hq4 : SK0 q4 = (3, gln q4)) (ht0 : SK0 t0 = (3, gln t0)) (μ : Mem) (res : Mem) (h : c256_57 p2 kl10 v1 v3 q4 v5 t0 s1 s2 μ = some res) : Sx 256 57 [(0, .ref 129), (1, .int v1), (2, .ref p2), (3, .int v3), (4, .ref q4), (5, .int v5)] [.int s2, .int s1, .ref t0] 0 0 (mk L μ) (mk L res, none) := by
  unfold c256_57 at h
  obtain ⟨m1, e2, h⟩ := Option.bind_eq_some_iff.mp h
  refine cx_zast k256_57 ht0 e2 ?_
  refine cx_iinc (c := 1) (lo2 := fun x3 => [(5, .int x3), (0, .ref 129), (1, .int v1), (2, .ref p2), (3, .int v3), (4, .ref q4)]) k256_58 rfl (by decide) (by rw [mx_256]; decide) (fun _ => rfl) h (fun x3 h => ?_)
  refine sx_goto (tgt := 10) k256_61 (by decide) ?_
  refine sx_pick (lo2 := [(0, .ref 129), (1, .int v1), (2, .ref p2), (3, .int v3), (4, .ref q4), (5, .int x3)]) [1, 2, 3, 4, 5, 0] rfl ?_
  exact hk10 v1 v3 q4 x3 hq4 _ _ h
def b256_10 (p2 : Nat) (kl10 : Int32 → Int32 → Nat → Int32 → Mem → Option (Mem)) (v1 : Int32) (v3 : Int32) (q4 : Nat) (v5 : Int32) (μ : Mem) : Option (Mem) :=
  if ((8 : Int32) * v3) ≤ v5 then
    (ldA 136 v1 μ).bind fun x2 =>
    (stA 136 v1 (x2 + ((8 : Int32) * v3)) μ).bind fun m4 =>
    some m4
  else
    (ldA 136 v1 μ).bind fun x6 =>
    (ldA p2 (v5 / (8 : Int32)) μ).bind fun x8 =>
    if ((jshr x8 ((7 : Int32) - (jrem v5 (8 : Int32)))) &&& (1 : Int32)) = (1 : Int32) then
      c256_57 p2 kl10 v1 v3 q4 v5 q4 (x6 + v5) (1 : Int32) μ
    else
      c256_57 p2 kl10 v1 v3 q4 v5 q4 (x6 + v5) (0 : Int32) μ
theorem b256_10_ok {L : Nat} (p2 : Nat) (h2 : SK0 p2 = (1, gln p2)) (kl10 : Int32 → Int32 → Nat → Int32 → Mem → Option (Mem)) (hk10 : (∀ (v1 : Int32) (v3 : Int32) (q4 : Nat) (v5 : Int32) (hq4 : SK0 q4 = (3, gln q4)) (μ : Mem) (res : Mem), kl10 v1 v3 q4 v5 μ = some res → Sx 256 10 [(0, .ref 129), (1, .int v1), (2, .ref p2), (3, .int v3), (4, .ref q4), (5, .int v5)] [] 0 0 (mk L μ) (mk L res, none))) (v1 : Int32) (v3 : Int32) (q4 : Nat) (v5 : Int32) (hq4 : SK0 q4 = (3, gln q4)) (μ : Mem) (res : Mem) (h : b256_10 p2 kl10 v1 v3 q4 v5 μ = some res) : Sx 256 10 [(0, .ref 129), (1, .int v1), (2, .ref p2), (3, .int v3), (4, .ref q4), (5, .int v5)] [] 0 0 (mk L μ) (mk L res, none) := by
  unfold b256_10 at h
  refine sx_iload k256_10 rfl ?_
  refine sx_bipush (v := 8) k256_12 (by decide) ?_
  refine sx_iload_n (i := 3) k256_14 rfl rfl ?_
  refine sx_imul k256_15 ?_
  by_cases hb1 : ((8 : Int32) * v3) ≤ v5
  · rw [if_pos hb1] at h
    refine sx_icmp_ge (tgt := 64) k256_16 (by decide) (fun _ => ?_) (fun q => absurd hb1 q)
    refine sx_aload_n (i := 0) k256_64 rfl rfl ?_
    refine cx_getR (k := 7) k256_65 ow_256 fl_12_54 (by decide) sk_129 ft_11_7 sr_129_7 ?_
    refine sx_iload_n (i := 1) k256_68 rfl rfl ?_
    refine sx_dup2 k256_69 rfl rfl ?_
    obtain ⟨x2, e3, h⟩ := Option.bind_eq_some_iff.mp h
    refine cx_iald k256_70 sk_136 e3 ?_
    refine sx_bipush (v := 8) k256_71 (by decide) ?_
    refine sx_iload_n (i := 3) k256_73 rfl rfl ?_
    refine sx_imul k256_74 ?_
    refine sx_iadd k256_75 ?_
    obtain ⟨m4, e5, h⟩ := Option.bind_eq_some_iff.mp h
    refine cx_iast k256_76 sk_136 e5 ?_
    exact cx_retv k256_77 rt_256 h
  · rw [if_neg hb1] at h
    refine sx_icmp_ge (tgt := 64) k256_16 (by decide) (fun q => absurd q hb1) (fun _ => ?_)
    refine sx_aload k256_19 rfl ?_
    refine sx_aload_n (i := 0) k256_21 rfl rfl ?_
    refine cx_getR (k := 7) k256_22 ow_256 fl_12_54 (by decide) sk_129 ft_11_7 sr_129_7 ?_
    refine sx_iload_n (i := 1) k256_25 rfl rfl ?_
    obtain ⟨x6, e7, h⟩ := Option.bind_eq_some_iff.mp h
    refine cx_iald k256_26 sk_136 e7 ?_
    refine sx_iload k256_27 rfl ?_
    refine sx_iadd k256_29 ?_
    refine sx_aload_n (i := 2) k256_30 rfl rfl ?_
    refine sx_iload k256_31 rfl ?_
    refine sx_bipush (v := 8) k256_33 (by decide) ?_
    refine sx_idiv k256_35 (by decide) ?_
    obtain ⟨x8, e9, h⟩ := Option.bind_eq_some_iff.mp h
    refine cx_iald k256_36 h2 e9 ?_
    refine sx_bipush (v := 7) k256_37 (by decide) ?_
    refine sx_iload k256_39 rfl ?_
    refine sx_bipush (v := 8) k256_41 (by decide) ?_
    refine sx_irem k256_43 (by decide) ?_
    refine sx_isub k256_44 ?_
    refine sx_ishr k256_45 ?_
    refine sx_iconst (v := 1) k256_46 (by decide) ?_
    refine sx_iand k256_47 ?_
    refine sx_iconst (v := 1) k256_48 (by decide) ?_
    by_cases hb10 : ((jshr x8 ((7 : Int32) - (jrem v5 (8 : Int32)))) &&& (1 : Int32)) = (1 : Int32)
    · rw [if_pos hb10] at h
      refine sx_icmp_ne (tgt := 56) k256_49 (by decide) (fun q => absurd hb10 q) (fun _ => ?_)
      refine sx_iconst (v := 1) k256_52 (by decide) ?_
      refine sx_goto (tgt := 57) k256_53 (by decide) ?_
      refine sx_pick (lo2 := [(0, .ref 129), (1, .int v1), (2, .ref p2), (3, .int v3), (4, .ref q4), (5, .int v5)]) [0, 1, 2, 3, 4, 5] rfl ?_
      exact c256_57_ok p2 h2 kl10 hk10 v1 v3 q4 v5 q4 (x6 + v5) (1 : Int32) hq4 hq4 _ _ h
    · rw [if_neg hb10] at h
      refine sx_icmp_ne (tgt := 56) k256_49 (by decide) (fun _ => ?_) (fun q => absurd q hb10)
      refine sx_iconst (v := 0) k256_56 (by decide) ?_
      refine sx_pick (lo2 := [(0, .ref 129), (1, .int v1), (2, .ref p2), (3, .int v3), (4, .ref q4), (5, .int v5)]) [0, 1, 2, 3, 4, 5] rfl ?_
      exact c256_57_ok p2 h2 kl10 hk10 v1 v3 q4 v5 q4 (x6 + v5) (0 : Int32) hq4 hq4 _ _ h
def l256_10 (p2 : Nat) : Nat → Int32 × Int32 × Nat × Int32 × Mem → Option (Mem) :=
  fixN (fun self x => b256_10 p2 (fun v1 v3 q4 v5 μ => self (v1, v3, q4, v5, μ)) (x.1) (x.2.1) (x.2.2.1) (x.2.2.2.1) (x.2.2.2.2))
theorem l256_10_ok {L : Nat} (p2 : Nat) (h2 : SK0 p2 = (1, gln p2)) (n : Nat) (v1 : Int32) (v3 : Int32) (q4 : Nat) (v5 : Int32) (hq4 : SK0 q4 = (3, gln q4)) (μ : Mem) (res : Mem) (h : l256_10 p2 n (v1, v3, q4, v5, μ) = some res) : Sx 256 10 [(0, .ref 129), (1, .int v1), (2, .ref p2), (3, .int v3), (4, .ref q4), (5, .int v5)] [] 0 0 (mk L μ) (mk L res, none) := by
  have key := fixN_ind (P := fun x res => SK0 (x.2.2.1) = (3, gln (x.2.2.1)) → Sx 256 10 [(0, .ref 129), (1, .int (x.1)), (2, .ref p2), (3, .int (x.2.1)), (4, .ref (x.2.2.1)), (5, .int (x.2.2.2.1))] [] 0 0 (mk L (x.2.2.2.2)) (mk L res, none)) (F := fun self x => b256_10 p2 (fun v1 v3 q4 v5 μ => self (v1, v3, q4, v5, μ)) (x.1) (x.2.1) (x.2.2.1) (x.2.2.2.1) (x.2.2.2.2)) (fun self hself x res h hq4 => b256_10_ok p2 h2 (fun v1 v3 q4 v5 μ => self (v1, v3, q4, v5, μ)) (fun v1 v3 q4 v5 hq4 μ res hh => hself (v1, v3, q4, v5, μ) res hh hq4) (x.1) (x.2.1) (x.2.2.1) (x.2.2.2.1) hq4 (x.2.2.2.2) res h) n (v1, v3, q4, v5, μ) res h hq4
  exact key
/-- CraftHouseModel.addBits(I[II)V -/
def f256 (p1 : Int32) (p2 : Nat) (p3 : Int32) (μ : Mem) : Option (Mem) :=
  (f253 p1 μ).bind fun r1 =>
  l256_10 p2 gF (p1, p3, r1.2, (0 : Int32), r1.1)
theorem ok256 {L : Nat} (p1 : Int32) (p2 : Nat) (p3 : Int32) (h2 : SK0 p2 = (1, gln p2)) (μ : Mem) (res : Mem) (h : f256 p1 p2 p3 μ = some res) : Mx 256 [.ref 129, .int p1, .ref p2, .int p3] (mk L μ) (mk L res, none) := by
  refine Mx_of ml_256 (by rw [mx_256]; exact Nat.le_of_ble_eq_true rfl) ?_
  show Sx 256 0 [(0, .ref 129), (1, .int p1), (2, .ref p2), (3, .int p3)] [] 0 0 (mk L μ) _
  unfold f256 at h
  refine sx_aload_n (i := 0) k256_0 rfl rfl ?_
  refine sx_iload_n (i := 1) k256_1 rfl rfl ?_
  obtain ⟨r1, e2, h⟩ := Option.bind_eq_some_iff.mp h
  refine cx_V (sk := []) (vs := [.int p1]) st_256_253 k256_2 ow_256 cl_12_57 (by decide) rfl (Nat.le_of_ble_eq_true rfl) sk_129 (ok253 p1 _ _ e2) (sk3 := [.ref r1.2]) rfl rfl ?_
  refine cx_astore (lo2 := [(4, .ref r1.2), (0, .ref 129), (1, .int p1), (2, .ref p2), (3, .int p3)]) k256_5 (by rw [mx_256]; decide) rfl ?_
  refine sx_iconst (v := 0) k256_7 (by decide) ?_
  refine cx_istore (lo2 := [(5, .int (0 : Int32)), (4, .ref r1.2), (0, .ref 129), (1, .int p1), (2, .ref p2), (3, .int p3)]) k256_8 (by rw [mx_256]; decide) rfl ?_
  refine sx_pick (lo2 := [(0, .ref 129), (1, .int p1), (2, .ref p2), (3, .int p3), (4, .ref r1.2), (5, .int (0 : Int32))]) [2, 3, 4, 5, 1, 0] rfl ?_
  exact l256_10_ok p2 h2 gF p1 p3 r1.2 (0 : Int32) (rk_253 e2) _ _ h
theorem k257_0 : decode (gb 257) 0 = .ok (.iload_n 1, 1) := by decide +kernel
theorem k257_1 : decode (gb 257) 1 = .ok (.invokestatic 61, 3) := by decide +kernel
theorem k257_4 : decode (gb 257) 4 = .ok (.ifCond .eq 12, 3) := by decide +kernel
theorem k257_7 : decode (gb 257) 7 = .ok (.aload_n 0, 1) := by decide +kernel
theorem k257_8 : decode (gb 257) 8 = .ok (.getfield 54, 3) := by decide +kernel
theorem k257_11 : decode (gb 257) 11 = .ok (.iload_n 1, 1) := by decide +kernel
theorem k257_12 : decode (gb 257) 12 = .ok (.iaload, 1) := by decide +kernel
theorem k257_13 : decode (gb 257) 13 = .ok (.goto 4, 3) := by decide +kernel
theorem k257_16 : decode (gb 257) 16 = .ok (.iconst (-1), 1) := by decide +kernel
theorem k257_17 : decode (gb 257) 17 = .ok (.ireturn, 1) := by decide +kernel
/-- CraftHouseModel.bits(I)I -/
def f257 (p1 : Int32) (μ : Mem) : Option (Mem × Int32) :=
  (f255 p1 μ).bind fun r1 =>
  if r1.2 = 0 then
    some (r1.1, (-1 : Int32))
  else
    (ldA 136 p1 r1.1).bind fun x4 =>
    some (r1.1, x4)
theorem ok257 {L : Nat} (p1 : Int32) (μ : Mem) (res : Mem × Int32) (h : f257 p1 μ = some res) : Mx 257 [.ref 129, .int p1] (mk L μ) (mk L res.1, some (.int res.2)) := by
  refine Mx_of ml_257 (by rw [mx_257]; exact Nat.le_of_ble_eq_true rfl) ?_
  show Sx 257 0 [(0, .ref 129), (1, .int p1)] [] 0 0 (mk L μ) _
  unfold f257 at h
  refine sx_iload_n (i := 1) k257_0 rfl rfl ?_
  obtain ⟨r1, e2, h⟩ := Option.bind_eq_some_iff.mp h
  refine cx_S (sk := []) (vs := [.int p1]) st_257_255 k257_1 ow_257 cl_12_61 (by decide) rfl (Nat.le_of_ble_eq_true rfl) (ok255 p1 _ _ e2) (sk3 := [.int r1.2]) rfl rfl ?_
  by_cases hb3 : r1.2 = 0
  · rw [if_pos hb3] at h
    refine sx_if_eq (tgt := 16) k257_4 (by decide) (fun _ => ?_) (fun q => absurd hb3 q)
    refine sx_iconst (v := -1) k257_16 (by decide) ?_
    exact cx_reti k257_17 rt_257 h
  · rw [if_neg hb3] at h
    refine sx_if_eq (tgt := 16) k257_4 (by decide) (fun q => absurd q hb3) (fun _ => ?_)
    refine sx_aload_n (i := 0) k257_7 rfl rfl ?_
    refine cx_getR (k := 7) k257_8 ow_257 fl_12_54 (by decide) sk_129 ft_11_7 sr_129_7 ?_
    refine sx_iload_n (i := 1) k257_11 rfl rfl ?_
    obtain ⟨x4, e5, h⟩ := Option.bind_eq_some_iff.mp h
    refine cx_iald k257_12 sk_136 e5 ?_
    refine sx_goto (tgt := 17) k257_13 (by decide) ?_
    exact cx_reti k257_17 rt_257 h
theorem k258_0 : decode (gb 258) 0 = .ok (.iload_n 1, 1) := by decide +kernel
theorem k258_1 : decode (gb 258) 1 = .ok (.invokestatic 61, 3) := by decide +kernel
theorem k258_4 : decode (gb 258) 4 = .ok (.ifCond .eq 21, 3) := by decide +kernel
theorem k258_7 : decode (gb 258) 7 = .ok (.iload_n 2, 1) := by decide +kernel
theorem k258_8 : decode (gb 258) 8 = .ok (.ifCond .lt 17, 3) := by decide +kernel
theorem k258_11 : decode (gb 258) 11 = .ok (.iload_n 2, 1) := by decide +kernel
theorem k258_12 : decode (gb 258) 12 = .ok (.aload_n 0, 1) := by decide +kernel
theorem k258_13 : decode (gb 258) 13 = .ok (.getfield 54, 3) := by decide +kernel
theorem k258_16 : decode (gb 258) 16 = .ok (.iload_n 1, 1) := by decide +kernel
theorem k258_17 : decode (gb 258) 17 = .ok (.iaload, 1) := by decide +kernel
theorem k258_18 : decode (gb 258) 18 = .ok (.if_icmp .ge 7, 3) := by decide +kernel
theorem k258_21 : decode (gb 258) 21 = .ok (.iconst 1, 1) := by decide +kernel
theorem k258_22 : decode (gb 258) 22 = .ok (.goto 4, 3) := by decide +kernel
theorem k258_25 : decode (gb 258) 25 = .ok (.iconst 0, 1) := by decide +kernel
theorem k258_26 : decode (gb 258) 26 = .ok (.ireturn, 1) := by decide +kernel
/-- CraftHouseModel.isBit(II)Z -/
def f258 (p1 : Int32) (p2 : Int32) (μ : Mem) : Option (Mem × Int32) :=
  (f255 p1 μ).bind fun r1 =>
  if r1.2 = 0 then
    rtZ (0 : Int32) r1.1
  else
    if p2 < 0 then
      rtZ (0 : Int32) r1.1
    else
      (ldA 136 p1 r1.1).bind fun x5 =>
      if x5 ≤ p2 then
        rtZ (0 : Int32) r1.1
      else
        rtZ (1 : Int32) r1.1
theorem ok258 {L : Nat} (p1 : Int32) (p2 : Int32) (μ : Mem) (res : Mem × Int32) (h : f258 p1 p2 μ = some res) : Mx 258 [.ref 129, .int p1, .int p2] (mk L μ) (mk L res.1, some (.int res.2)) := by
  refine Mx_of ml_258 (by rw [mx_258]; exact Nat.le_of_ble_eq_true rfl) ?_
  show Sx 258 0 [(0, .ref 129), (1, .int p1), (2, .int p2)] [] 0 0 (mk L μ) _
  unfold f258 at h
  refine sx_iload_n (i := 1) k258_0 rfl rfl ?_
  obtain ⟨r1, e2, h⟩ := Option.bind_eq_some_iff.mp h
  refine cx_S (sk := []) (vs := [.int p1]) st_258_255 k258_1 ow_258 cl_12_61 (by decide) rfl (Nat.le_of_ble_eq_true rfl) (ok255 p1 _ _ e2) (sk3 := [.int r1.2]) rfl rfl ?_
  by_cases hb3 : r1.2 = 0
  · rw [if_pos hb3] at h
    refine sx_if_eq (tgt := 25) k258_4 (by decide) (fun _ => ?_) (fun q => absurd hb3 q)
    refine sx_iconst (v := 0) k258_25 (by decide) ?_
    exact cx_retz k258_26 rt_258 h
  · rw [if_neg hb3] at h
    refine sx_if_eq (tgt := 25) k258_4 (by decide) (fun q => absurd q hb3) (fun _ => ?_)
    refine sx_iload_n (i := 2) k258_7 rfl rfl ?_
    by_cases hb4 : p2 < 0
    · rw [if_pos hb4] at h
      refine sx_if_lt (tgt := 25) k258_8 (by decide) (fun _ => ?_) (fun q => absurd hb4 q)
      refine sx_iconst (v := 0) k258_25 (by decide) ?_
      exact cx_retz k258_26 rt_258 h
    · rw [if_neg hb4] at h
      refine sx_if_lt (tgt := 25) k258_8 (by decide) (fun q => absurd q hb4) (fun _ => ?_)
      refine sx_iload_n (i := 2) k258_11 rfl rfl ?_
      refine sx_aload_n (i := 0) k258_12 rfl rfl ?_
      refine cx_getR (k := 7) k258_13 ow_258 fl_12_54 (by decide) sk_129 ft_11_7 sr_129_7 ?_
      refine sx_iload_n (i := 1) k258_16 rfl rfl ?_
      obtain ⟨x5, e6, h⟩ := Option.bind_eq_some_iff.mp h
      refine cx_iald k258_17 sk_136 e6 ?_
      by_cases hb7 : x5 ≤ p2
      · rw [if_pos hb7] at h
        refine sx_icmp_ge (tgt := 25) k258_18 (by decide) (fun _ => ?_) (fun q => absurd hb7 q)
        refine sx_iconst (v := 0) k258_25 (by decide) ?_
        exact cx_retz k258_26 rt_258 h
      · rw [if_neg hb7] at h
        refine sx_icmp_ge (tgt := 25) k258_18 (by decide) (fun q => absurd q hb7) (fun _ => ?_)
        refine sx_iconst (v := 1) k258_21 (by decide) ?_
        refine sx_goto (tgt := 26) k258_22 (by decide) ?_
        exact cx_retz k258_26 rt_258 h
theorem k259_0 : decode (gb 259) 0 = .ok (.aload_n 0, 1) := by decide +kernel
theorem k259_1 : decode (gb 259) 1 = .ok (.iload_n 1, 1) := by decide +kernel
theorem k259_2 : decode (gb 259) 2 = .ok (.iload_n 2, 1) := by decide +kernel
theorem k259_3 : decode (gb 259) 3 = .ok (.invokevirtual 65, 3) := by decide +kernel
theorem k259_6 : decode (gb 259) 6 = .ok (.ifCond .ne 7, 3) := by decide +kernel
theorem k259_9 : decode (gb 259) 9 = .ok (.iconst (-1), 1) := by decide +kernel
theorem k259_10 : decode (gb 259) 10 = .ok (.goto 18, 3) := by decide +kernel
theorem k259_13 : decode (gb 259) 13 = .ok (.aload_n 0, 1) := by decide +kernel
theorem k259_14 : decode (gb 259) 14 = .ok (.iload_n 1, 1) := by decide +kernel
theorem k259_15 : decode (gb 259) 15 = .ok (.invokevirtual 57, 3) := by decide +kernel
theorem k259_18 : decode (gb 259) 18 = .ok (.iload_n 2, 1) := by decide +kernel
theorem k259_19 : decode (gb 259) 19 = .ok (.baload, 1) := by decide +kernel
theorem k259_20 : decode (gb 259) 20 = .ok (.ifCond .eq 7, 3) := by decide +kernel
theorem k259_23 : decode (gb 259) 23 = .ok (.iconst 1, 1) := by decide +kernel
theorem k259_24 : decode (gb 259) 24 = .ok (.goto 4, 3) := by decide +kernel
theorem k259_27 : decode (gb 259) 27 = .ok (.iconst 0, 1) := by decide +kernel
theorem k259_28 : decode (gb 259) 28 = .ok (.ireturn, 1) := by decide +kernel
/-- CraftHouseModel.bit(II)I -/
def f259 (p1 : Int32) (p2 : Int32) (μ : Mem) : Option (Mem × Int32) :=
  (f258 p1 p2 μ).bind fun r1 =>
  if r1.2 = 0 then
    some (r1.1, (-1 : Int32))
  else
    (f253 p1 r1.1).bind fun r4 =>
    (ldA r4.2 p2 r4.1).bind fun x6 =>
    if x6 = 0 then
      some (r4.1, (0 : Int32))
    else
      some (r4.1, (1 : Int32))
theorem ok259 {L : Nat} (p1 : Int32) (p2 : Int32) (μ : Mem) (res : Mem × Int32) (h : f259 p1 p2 μ = some res) : Mx 259 [.ref 129, .int p1, .int p2] (mk L μ) (mk L res.1, some (.int res.2)) := by
  refine Mx_of ml_259 (by rw [mx_259]; exact Nat.le_of_ble_eq_true rfl) ?_
  show Sx 259 0 [(0, .ref 129), (1, .int p1), (2, .int p2)] [] 0 0 (mk L μ) _
  unfold f259 at h
  refine sx_aload_n (i := 0) k259_0 rfl rfl ?_
  refine sx_iload_n (i := 1) k259_1 rfl rfl ?_
  refine sx_iload_n (i := 2) k259_2 rfl rfl ?_
  obtain ⟨r1, e2, h⟩ := Option.bind_eq_some_iff.mp h
  refine cx_V (sk := []) (vs := [.int p1, .int p2]) st_259_258 k259_3 ow_259 cl_12_65 (by decide) rfl (Nat.le_of_ble_eq_true rfl) sk_129 (ok258 p1 p2 _ _ e2) (sk3 := [.int r1.2]) rfl rfl ?_
  by_cases hb3 : r1.2 = 0
  · rw [if_pos hb3] at h
    refine sx_if_ne (tgt := 13) k259_6 (by decide) (fun q => absurd hb3 q) (fun _ => ?_)
    refine sx_iconst (v := -1) k259_9 (by decide) ?_
    refine sx_goto (tgt := 28) k259_10 (by decide) ?_
    exact cx_reti k259_28 rt_259 h
  · rw [if_neg hb3] at h
    refine sx_if_ne (tgt := 13) k259_6 (by decide) (fun _ => ?_) (fun q => absurd q hb3)
    refine sx_aload_n (i := 0) k259_13 rfl rfl ?_
    refine sx_iload_n (i := 1) k259_14 rfl rfl ?_
    obtain ⟨r4, e5, h⟩ := Option.bind_eq_some_iff.mp h
    refine cx_V (sk := []) (vs := [.int p1]) st_259_253 k259_15 ow_259 cl_12_57 (by decide) rfl (Nat.le_of_ble_eq_true rfl) sk_129 (ok253 p1 _ _ e5) (sk3 := [.ref r4.2]) rfl rfl ?_
    refine sx_iload_n (i := 2) k259_18 rfl rfl ?_
    obtain ⟨x6, e7, h⟩ := Option.bind_eq_some_iff.mp h
    refine cx_bald k259_19 (Or.inr (rk_253 e5)) e7 ?_
    by_cases hb8 : x6 = 0
    · rw [if_pos hb8] at h
      refine sx_if_eq (tgt := 27) k259_20 (by decide) (fun _ => ?_) (fun q => absurd hb8 q)
      refine sx_iconst (v := 0) k259_27 (by decide) ?_
      exact cx_reti k259_28 rt_259 h
    · rw [if_neg hb8] at h
      refine sx_if_eq (tgt := 27) k259_20 (by decide) (fun q => absurd q hb8) (fun _ => ?_)
      refine sx_iconst (v := 1) k259_23 (by decide) ?_
      refine sx_goto (tgt := 28) k259_24 (by decide) ?_
      exact cx_reti k259_28 rt_259 h
theorem k260_0 : decode (gb 260) 0 = .ok (.aload_n 0, 1) := by decide +kernel
theorem k260_1 : decode (gb 260) 1 = .ok (.iload_n 1, 1) := by decide +kernel
theorem k260_2 : decode (gb 260) 2 = .ok (.iload_n 2, 1) := by decide +kernel
theorem k260_3 : decode (gb 260) 3 = .ok (.invokevirtual 65, 3) := by decide +kernel
theorem k260_6 : decode (gb 260) 6 = .ok (.ifCond .ne 5, 3) := by decide +kernel
theorem k260_9 : decode (gb 260) 9 = .ok (.iconst (-1), 1) := by decide +kernel
theorem k260_10 : decode (gb 260) 10 = .ok (.ireturn, 1) := by decide +kernel
theorem k260_11 : decode (gb 260) 11 = .ok (.aload_n 0, 1) := by decide +kernel
theorem k260_12 : decode (gb 260) 12 = .ok (.iload_n 1, 1) := by decide +kernel
theorem k260_13 : decode (gb 260) 13 = .ok (.invokevirtual 57, 3) := by decide +kernel
theorem k260_16 : decode (gb 260) 16 = .ok (.iload_n 2, 1) := by decide +kernel
theorem k260_17 : decode (gb 260) 17 = .ok (.aload_n 0, 1) := by decide +kernel
theorem k260_18 : decode (gb 260) 18 = .ok (.iload_n 1, 1) := by decide +kernel
theorem k260_19 : decode (gb 260) 19 = .ok (.invokevirtual 57, 3) := by decide +kernel
theorem k260_22 : decode (gb 260) 22 = .ok (.iload_n 2, 1) := by decide +kernel
theorem k260_23 : decode (gb 260) 23 = .ok (.baload, 1) := by decide +kernel
theorem k260_24 : decode (gb 260) 24 = .ok (.ifCond .ne 7, 3) := by decide +kernel
theorem k260_27 : decode (gb 260) 27 = .ok (.iconst 1, 1) := by decide +kernel
theorem k260_28 : decode (gb 260) 28 = .ok (.goto 4, 3) := by decide +kernel
theorem k260_31 : decode (gb 260) 31 = .ok (.iconst 0, 1) := by decide +kernel
theorem k260_32 : decode (gb 260) 32 = .ok (.bastore, 1) := by decide +kernel
theorem k260_33 : decode (gb 260) 33 = .ok (.aload_n 0, 1) := by decide +kernel
theorem k260_34 : decode (gb 260) 34 = .ok (.iload_n 1, 1) := by decide +kernel
theorem k260_35 : decode (gb 260) 35 = .ok (.invokevirtual 57, 3) := by decide +kernel
theorem k260_38 : decode (gb 260) 38 = .ok (.iload_n 2, 1) := by decide +kernel
theorem k260_39 : decode (gb 260) 39 = .ok (.baload, 1) := by decide +kernel
theorem k260_40 : decode (gb 260) 40 = .ok (.ifCond .eq 7, 3) := by decide +kernel
theorem k260_43 : decode (gb 260) 43 = .ok (.iconst 1, 1) := by decide +kernel
theorem k260_44 : decode (gb 260) 44 = .ok (.goto 4, 3) := by decide +kernel
theorem k260_47 : decode (gb 260) 47 = .ok (.iconst 0, 1) := by decide +kernel
theorem k260_48 : decode (gb 260) 48 = .ok (.ireturn, 1) := by decide +kernel
def c260_32 (v1 : Int32) (v2 : Int32) (t0 : Nat) (s1 : Int32) (s2 : Int32) (μ : Mem) : Option (Mem × Int32) :=
  (stZ t0 s1 s2 μ).bind fun m1 =>
  (f253 v1 m1).bind fun r3 =>
  (ldA r3.2 v2 r3.1).bind fun x5 =>
  if x5 = 0 then
    some (r3.1, (0 : Int32))
  else
    some (r3.1, (1 : Int32))
theorem c260_32_ok {L : Nat} (v1 : Int32) (v2 : Int32) (t0 : Nat) (s1 : Int32) (s2 : Int32) (ht0 : SK0 t0 = (3, gln t0)) (μ : Mem) (res : Mem × Int32) (h : c260_32 v1 v2 t0 s1 s2 μ = some res) : Sx 260 32 [(0, .ref 129), (1, .int v1), (2, .int v2)] [.int s2, .int s1, .ref t0] 0 0 (mk L μ) (mk L res.1, some (.int res.2)) := by
  unfold c260_32 at h
  obtain ⟨m1, e2, h⟩ := Option.bind_eq_some_iff.mp h
  refine cx_zast k260_32 ht0 e2 ?_
  refine sx_aload_n (i := 0) k260_33 rfl rfl ?_
  refine sx_iload_n (i := 1) k260_34 rfl rfl ?_
  obtain ⟨r3, e4, h⟩ := Option.bind_eq_some_iff.mp h
  refine cx_V (sk := []) (vs := [.int v1]) st_260_253 k260_35 ow_260 cl_12_57 (by decide) rfl (Nat.le_of_ble_eq_true rfl) sk_129 (ok253 v1 _ _ e4) (sk3 := [.ref r3.2]) rfl rfl ?_
  refine sx_iload_n (i := 2) k260_38 rfl rfl ?_
  obtain ⟨x5, e6, h⟩ := Option.bind_eq_some_iff.mp h
  refine cx_bald k260_39 (Or.inr (rk_253 e4)) e6 ?_
  by_cases hb7 : x5 = 0
  · rw [if_pos hb7] at h
    refine sx_if_eq (tgt := 47) k260_40 (by decide) (fun _ => ?_) (fun q => absurd hb7 q)
    refine sx_iconst (v := 0) k260_47 (by decide) ?_
    exact cx_reti k260_48 rt_260 h
  · rw [if_neg hb7] at h
    refine sx_if_eq (tgt := 47) k260_40 (by decide) (fun q => absurd q hb7) (fun _ => ?_)
    refine sx_iconst (v := 1) k260_43 (by decide) ?_
    refine sx_goto (tgt := 48) k260_44 (by decide) ?_
    exact cx_reti k260_48 rt_260 h
/-- CraftHouseModel.turn(II)I -/
def f260 (p1 : Int32) (p2 : Int32) (μ : Mem) : Option (Mem × Int32) :=
  (f258 p1 p2 μ).bind fun r1 =>
  if r1.2 = 0 then
    some (r1.1, (-1 : Int32))
  else
    (f253 p1 r1.1).bind fun r4 =>
    (f253 p1 r4.1).bind fun r6 =>
    (ldA r6.2 p2 r6.1).bind fun x8 =>
    if x8 = 0 then
      c260_32 p1 p2 r4.2 p2 (1 : Int32) r6.1
    else
      c260_32 p1 p2 r4.2 p2 (0 : Int32) r6.1
theorem ok260 {L : Nat} (p1 : Int32) (p2 : Int32) (μ : Mem) (res : Mem × Int32) (h : f260 p1 p2 μ = some res) : Mx 260 [.ref 129, .int p1, .int p2] (mk L μ) (mk L res.1, some (.int res.2)) := by
  refine Mx_of ml_260 (by rw [mx_260]; exact Nat.le_of_ble_eq_true rfl) ?_
  show Sx 260 0 [(0, .ref 129), (1, .int p1), (2, .int p2)] [] 0 0 (mk L μ) _
  unfold f260 at h
  refine sx_aload_n (i := 0) k260_0 rfl rfl ?_
  refine sx_iload_n (i := 1) k260_1 rfl rfl ?_
  refine sx_iload_n (i := 2) k260_2 rfl rfl ?_
  obtain ⟨r1, e2, h⟩ := Option.bind_eq_some_iff.mp h
  refine cx_V (sk := []) (vs := [.int p1, .int p2]) st_260_258 k260_3 ow_260 cl_12_65 (by decide) rfl (Nat.le_of_ble_eq_true rfl) sk_129 (ok258 p1 p2 _ _ e2) (sk3 := [.int r1.2]) rfl rfl ?_
  by_cases hb3 : r1.2 = 0
  · rw [if_pos hb3] at h
    refine sx_if_ne (tgt := 11) k260_6 (by decide) (fun q => absurd hb3 q) (fun _ => ?_)
    refine sx_iconst (v := -1) k260_9 (by decide) ?_
    exact cx_reti k260_10 rt_260 h
  · rw [if_neg hb3] at h
    refine sx_if_ne (tgt := 11) k260_6 (by decide) (fun _ => ?_) (fun q => absurd q hb3)
    refine sx_aload_n (i := 0) k260_11 rfl rfl ?_
    refine sx_iload_n (i := 1) k260_12 rfl rfl ?_
    obtain ⟨r4, e5, h⟩ := Option.bind_eq_some_iff.mp h
    refine cx_V (sk := []) (vs := [.int p1]) st_260_253 k260_13 ow_260 cl_12_57 (by decide) rfl (Nat.le_of_ble_eq_true rfl) sk_129 (ok253 p1 _ _ e5) (sk3 := [.ref r4.2]) rfl rfl ?_
    refine sx_iload_n (i := 2) k260_16 rfl rfl ?_
    refine sx_aload_n (i := 0) k260_17 rfl rfl ?_
    refine sx_iload_n (i := 1) k260_18 rfl rfl ?_
    obtain ⟨r6, e7, h⟩ := Option.bind_eq_some_iff.mp h
    refine cx_V (sk := [.int p2, .ref r4.2]) (vs := [.int p1]) st_260_253 k260_19 ow_260 cl_12_57 (by decide) rfl (Nat.le_of_ble_eq_true rfl) sk_129 (ok253 p1 _ _ e7) (sk3 := [.ref r6.2, .int p2, .ref r4.2]) rfl rfl ?_
    refine sx_iload_n (i := 2) k260_22 rfl rfl ?_
    obtain ⟨x8, e9, h⟩ := Option.bind_eq_some_iff.mp h
    refine cx_bald k260_23 (Or.inr (rk_253 e7)) e9 ?_
    by_cases hb10 : x8 = 0
    · rw [if_pos hb10] at h
      refine sx_if_ne (tgt := 31) k260_24 (by decide) (fun q => absurd hb10 q) (fun _ => ?_)
      refine sx_iconst (v := 1) k260_27 (by decide) ?_
      refine sx_goto (tgt := 32) k260_28 (by decide) ?_
      refine sx_pick (lo2 := [(0, .ref 129), (1, .int p1), (2, .int p2)]) [0, 1, 2] rfl ?_
      exact c260_32_ok p1 p2 r4.2 p2 (1 : Int32) (rk_253 e5) _ _ h
    · rw [if_neg hb10] at h
      refine sx_if_ne (tgt := 31) k260_24 (by decide) (fun _ => ?_) (fun q => absurd q hb10)
      refine sx_iconst (v := 0) k260_31 (by decide) ?_
      refine sx_pick (lo2 := [(0, .ref 129), (1, .int p1), (2, .int p2)]) [0, 1, 2] rfl ?_
      exact c260_32_ok p1 p2 r4.2 p2 (0 : Int32) (rk_253 e5) _ _ h
theorem k261_0 : decode (gb 261) 0 = .ok (.aload_n 0, 1) := by decide +kernel
theorem k261_1 : decode (gb 261) 1 = .ok (.iload_n 1, 1) := by decide +kernel
theorem k261_2 : decode (gb 261) 2 = .ok (.iload_n 2, 1) := by decide +kernel
theorem k261_3 : decode (gb 261) 3 = .ok (.invokevirtual 65, 3) := by decide +kernel
theorem k261_6 : decode (gb 261) 6 = .ok (.ifCond .ne 5, 3) := by decide +kernel
theorem k261_9 : decode (gb 261) 9 = .ok (.iconst (-1), 1) := by decide +kernel
theorem k261_10 : decode (gb 261) 10 = .ok (.ireturn, 1) := by decide +kernel
theorem k261_11 : decode (gb 261) 11 = .ok (.aload_n 0, 1) := by decide +kernel
theorem k261_12 : decode (gb 261) 12 = .ok (.iload_n 1, 1) := by decide +kernel
theorem k261_13 : decode (gb 261) 13 = .ok (.invokevirtual 57, 3) := by decide +kernel
theorem k261_16 : decode (gb 261) 16 = .ok (.astore_n 3, 1) := by decide +kernel
theorem k261_17 : decode (gb 261) 17 = .ok (.iload_n 2, 1) := by decide +kernel
theorem k261_18 : decode (gb 261) 18 = .ok (.iconst 1, 1) := by decide +kernel
theorem k261_19 : decode (gb 261) 19 = .ok (.iadd, 1) := by decide +kernel
theorem k261_20 : decode (gb 261) 20 = .ok (.istore 4, 2) := by decide +kernel
theorem k261_22 : decode (gb 261) 22 = .ok (.iload 4, 2) := by decide +kernel
theorem k261_24 : decode (gb 261) 24 = .ok (.aload_n 0, 1) := by decide +kernel
theorem k261_25 : decode (gb 261) 25 = .ok (.getfield 54, 3) := by decide +kernel
theorem k261_28 : decode (gb 261) 28 = .ok (.iload_n 1, 1) := by decide +kernel
theorem k261_29 : decode (gb 261) 29 = .ok (.iaload, 1) := by decide +kernel
theorem k261_30 : decode (gb 261) 30 = .ok (.if_icmp .ge 19, 3) := by decide +kernel
theorem k261_33 : decode (gb 261) 33 = .ok (.aload_n 3, 1) := by decide +kernel
theorem k261_34 : decode (gb 261) 34 = .ok (.iload 4, 2) := by decide +kernel
theorem k261_36 : decode (gb 261) 36 = .ok (.iconst 1, 1) := by decide +kernel
theorem k261_37 : decode (gb 261) 37 = .ok (.isub, 1) := by decide +kernel
theorem k261_38 : decode (gb 261) 38 = .ok (.aload_n 3, 1) := by decide +kernel
theorem k261_39 : decode (gb 261) 39 = .ok (.iload 4, 2) := by decide +kernel
theorem k261_41 : decode (gb 261) 41 = .ok (.baload, 1) := by decide +kernel
theorem k261_42 : decode (gb 261) 42 = .ok (.bastore, 1) := by decide +kernel
theorem k261_43 : decode (gb 261) 43 = .ok (.iinc 4 1, 3) := by decide +kernel
theorem k261_46 : decode (gb 261) 46 = .ok (.goto (-24), 3) := by decide +kernel
theorem k261_49 : decode (gb 261) 49 = .ok (.aload_n 0, 1) := by decide +kernel
theorem k261_50 : decode (gb 261) 50 = .ok (.getfield 54, 3) := by decide +kernel
theorem k261_53 : decode (gb 261) 53 = .ok (.iload_n 1, 1) := by decide +kernel
theorem k261_54 : decode (gb 261) 54 = .ok (.dup2, 1) := by decide +kernel
theorem k261_55 : decode (gb 261) 55 = .ok (.iaload, 1) := by decide +kernel
theorem k261_56 : decode (gb 261) 56 = .ok (.iconst 1, 1) := by decide +kernel
theorem k261_57 : decode (gb 261) 57 = .ok (.isub, 1) := by decide +kernel
theorem k261_58 : decode (gb 261) 58 = .ok (.iastore, 1) := by decide +kernel
theorem k261_59 : decode (gb 261) 59 = .ok (.aload_n 0, 1) := by decide +kernel
theorem k261_60 : decode (gb 261) 60 = .ok (.getfield 54, 3) := by decide +kernel
theorem k261_63 : decode (gb 261) 63 = .ok (.iload_n 1, 1) := by decide +kernel
theorem k261_64 : decode (gb 261) 64 = .ok (.iaload, 1) := by decide +kernel
theorem k261_65 : decode (gb 261) 65 = .ok (.ireturn, 1) := by decide +kernel
def b261_22 (kl22 : Int32 → Nat → Int32 → Mem → Option (Mem × Int32)) (v1 : Int32) (q3 : Nat) (v4 : Int32) (μ : Mem) : Option (Mem × Int32) :=
  (ldA 136 v1 μ).bind fun x1 =>
  if x1 ≤ v4 then
    (ldA 136 v1 μ).bind fun x4 =>
    (stA 136 v1 (x4 - (1 : Int32)) μ).bind fun m6 =>
    (ldA 136 v1 m6).bind fun x8 =>
    some (m6, x8)
  else
    (ldA q3 v4 μ).bind fun x10 =>
    (stZ q3 (v4 - (1 : Int32)) x10 μ).bind fun m12 =>
    nm (v4 + (1 : Int32)) fun x14 =>
    kl22 v1 q3 x14 m12
theorem b261_22_ok {L : Nat} (kl22 : Int32 → Nat → Int32 → Mem → Option (Mem × Int32)) (hk22 : (∀ (v1 : Int32) (q3 : Nat) (v4 : Int32) (hq3 : SK0 q3 = (3, gln q3)) (μ : Mem) (res : Mem × Int32), kl22 v1 q3 v4 μ = some res → Sx 261 22 [(0, .ref 129), (1, .int v1), (3, .ref q3), (4, .int v4)] [] 0 0 (mk L μ) (mk L res.1, some (.int res.2)))) (v1 : Int32) (q3 : Nat) (v4 : Int32) (hq3 : SK0 q3 = (3, gln q3)) (μ : Mem) (res : Mem × Int32) (h : b261_22 kl22 v1 q3 v4 μ = some res) : Sx 261 22 [(0, .ref 129), (1, .int v1), (3, .ref q3), (4, .int v4)] [] 0 0 (mk L μ) (mk L res.1, some (.int res.2)) := by
  unfold b261_22 at h
  refine sx_iload k261_22 rfl ?_
  refine sx_aload_n (i := 0) k261_24 rfl rfl ?_
  refine cx_getR (k := 7) k261_25 ow_261 fl_12_54 (by decide) sk_129 ft_11_7 sr_129_7 ?_
  refine sx_iload_n (i := 1) k261_28 rfl rfl ?_
  obtain ⟨x1, e2, h⟩ := Option.bind_eq_some_iff.mp h
  refine cx_iald k261_29 sk_136 e2 ?_
  by_cases hb3 : x1 ≤ v4
  · rw [if_pos hb3] at h
    refine sx_icmp_ge (tgt := 49) k261_30 (by decide) (fun _ => ?_) (fun q => absurd hb3 q)
    refine sx_aload_n (i := 0) k261_49 rfl rfl ?_
    refine cx_getR (k := 7) k261_50 ow_261 fl_12_54 (by decide) sk_129 ft_11_7 sr_129_7 ?_
    refine sx_iload_n (i := 1) k261_53 rfl rfl ?_
    refine sx_dup2 k261_54 rfl rfl ?_
    obtain ⟨x4, e5, h⟩ := Option.bind_eq_some_iff.mp h
    refine cx_iald k261_55 sk_136 e5 ?_
    refine sx_iconst (v := 1) k261_56 (by decide) ?_
    refine sx_isub k261_57 ?_
    obtain ⟨m6, e7, h⟩ := Option.bind_eq_some_iff.mp h
    refine cx_iast k261_58 sk_136 e7 ?_
    refine sx_aload_n (i := 0) k261_59 rfl rfl ?_
    refine cx_getR (k := 7) k261_60 ow_261 fl_12_54 (by decide) sk_129 ft_11_7 sr_129_7 ?_
    refine sx_iload_n (i := 1) k261_63 rfl rfl ?_
    obtain ⟨x8, e9, h⟩ := Option.bind_eq_some_iff.mp h
    refine cx_iald k261_64 sk_136 e9 ?_
    exact cx_reti k261_65 rt_261 h
  · rw [if_neg hb3] at h
    refine sx_icmp_ge (tgt := 49) k261_30 (by decide) (fun q => absurd q hb3) (fun _ => ?_)
    refine sx_aload_n (i := 3) k261_33 rfl rfl ?_
    refine sx_iload k261_34 rfl ?_
    refine sx_iconst (v := 1) k261_36 (by decide) ?_
    refine sx_isub k261_37 ?_
    refine sx_aload_n (i := 3) k261_38 rfl rfl ?_
    refine sx_iload k261_39 rfl ?_
    obtain ⟨x10, e11, h⟩ := Option.bind_eq_some_iff.mp h
    refine cx_bald k261_41 (Or.inr hq3) e11 ?_
    obtain ⟨m12, e13, h⟩ := Option.bind_eq_some_iff.mp h
    refine cx_zast k261_42 hq3 e13 ?_
    refine cx_iinc (c := 1) (lo2 := fun x14 => [(4, .int x14), (0, .ref 129), (1, .int v1), (3, .ref q3)]) k261_43 rfl (by decide) (by rw [mx_261]; decide) (fun _ => rfl) h (fun x14 h => ?_)
    refine sx_goto (tgt := 22) k261_46 (by decide) ?_
    refine sx_pick (lo2 := [(0, .ref 129), (1, .int v1), (3, .ref q3), (4, .int x14)]) [1, 2, 3, 0] rfl ?_
    exact hk22 v1 q3 x14 hq3 _ _ h
def l261_22 : Nat → Int32 × Nat × Int32 × Mem → Option (Mem × Int32) :=
  fixN (fun self x => b261_22 (fun v1 q3 v4 μ => self (v1, q3, v4, μ)) (x.1) (x.2.1) (x.2.2.1) (x.2.2.2))
theorem l261_22_ok {L : Nat} (n : Nat) (v1 : Int32) (q3 : Nat) (v4 : Int32) (hq3 : SK0 q3 = (3, gln q3)) (μ : Mem) (res : Mem × Int32) (h : l261_22 n (v1, q3, v4, μ) = some res) : Sx 261 22 [(0, .ref 129), (1, .int v1), (3, .ref q3), (4, .int v4)] [] 0 0 (mk L μ) (mk L res.1, some (.int res.2)) := by
  have key := fixN_ind (P := fun x res => SK0 (x.2.1) = (3, gln (x.2.1)) → Sx 261 22 [(0, .ref 129), (1, .int (x.1)), (3, .ref (x.2.1)), (4, .int (x.2.2.1))] [] 0 0 (mk L (x.2.2.2)) (mk L res.1, some (.int res.2))) (F := fun self x => b261_22 (fun v1 q3 v4 μ => self (v1, q3, v4, μ)) (x.1) (x.2.1) (x.2.2.1) (x.2.2.2)) (fun self hself x res h hq3 => b261_22_ok (fun v1 q3 v4 μ => self (v1, q3, v4, μ)) (fun v1 q3 v4 hq3 μ res hh => hself (v1, q3, v4, μ) res hh hq3) (x.1) (x.2.1) (x.2.2.1) hq3 (x.2.2.2) res h) n (v1, q3, v4, μ) res h hq3
  exact key
/-- CraftHouseModel.slip(II)I -/
def f261 (p1 : Int32) (p2 : Int32) (μ : Mem) : Option (Mem × Int32) :=
  (f258 p1 p2 μ).bind fun r1 =>
  if r1.2 = 0 then
    some (r1.1, (-1 : Int32))
  else
    (f253 p1 r1.1).bind fun r4 =>
    nm (p2 + (1 : Int32)) fun x6 =>
    l261_22 gF (p1, r4.2, x6, r4.1)
theorem ok261 {L : Nat} (p1 : Int32) (p2 : Int32) (μ : Mem) (res : Mem × Int32) (h : f261 p1 p2 μ = some res) : Mx 261 [.ref 129, .int p1, .int p2] (mk L μ) (mk L res.1, some (.int res.2)) := by
  refine Mx_of ml_261 (by rw [mx_261]; exact Nat.le_of_ble_eq_true rfl) ?_
  show Sx 261 0 [(0, .ref 129), (1, .int p1), (2, .int p2)] [] 0 0 (mk L μ) _
  unfold f261 at h
  refine sx_aload_n (i := 0) k261_0 rfl rfl ?_
  refine sx_iload_n (i := 1) k261_1 rfl rfl ?_
  refine sx_iload_n (i := 2) k261_2 rfl rfl ?_
  obtain ⟨r1, e2, h⟩ := Option.bind_eq_some_iff.mp h
  refine cx_V (sk := []) (vs := [.int p1, .int p2]) st_261_258 k261_3 ow_261 cl_12_65 (by decide) rfl (Nat.le_of_ble_eq_true rfl) sk_129 (ok258 p1 p2 _ _ e2) (sk3 := [.int r1.2]) rfl rfl ?_
  by_cases hb3 : r1.2 = 0
  · rw [if_pos hb3] at h
    refine sx_if_ne (tgt := 11) k261_6 (by decide) (fun q => absurd hb3 q) (fun _ => ?_)
    refine sx_iconst (v := -1) k261_9 (by decide) ?_
    exact cx_reti k261_10 rt_261 h
  · rw [if_neg hb3] at h
    refine sx_if_ne (tgt := 11) k261_6 (by decide) (fun _ => ?_) (fun q => absurd q hb3)
    refine sx_aload_n (i := 0) k261_11 rfl rfl ?_
    refine sx_iload_n (i := 1) k261_12 rfl rfl ?_
    obtain ⟨r4, e5, h⟩ := Option.bind_eq_some_iff.mp h
    refine cx_V (sk := []) (vs := [.int p1]) st_261_253 k261_13 ow_261 cl_12_57 (by decide) rfl (Nat.le_of_ble_eq_true rfl) sk_129 (ok253 p1 _ _ e5) (sk3 := [.ref r4.2]) rfl rfl ?_
    refine cx_astore_n (lo2 := [(3, .ref r4.2), (0, .ref 129), (1, .int p1), (2, .int p2)]) k261_16 rfl (by rw [mx_261]; decide) rfl ?_
    refine sx_iload_n (i := 2) k261_17 rfl rfl ?_
    refine sx_iconst (v := 1) k261_18 (by decide) ?_
    refine sx_iadd k261_19 ?_
    refine cx_nm h (fun x6 h => ?_)
    refine cx_istore (lo2 := [(4, .int x6), (3, .ref r4.2), (0, .ref 129), (1, .int p1), (2, .int p2)]) k261_20 (by rw [mx_261]; decide) rfl ?_
    refine sx_pick (lo2 := [(0, .ref 129), (1, .int p1), (3, .ref r4.2), (4, .int x6)]) [2, 3, 1, 0] rfl ?_
    exact l261_22_ok gF p1 r4.2 x6 (rk_253 e5) _ _ h
theorem k262_0 : decode (gb 262) 0 = .ok (.iload_n 1, 1) := by decide +kernel
theorem k262_1 : decode (gb 262) 1 = .ok (.invokestatic 61, 3) := by decide +kernel
theorem k262_4 : decode (gb 262) 4 = .ok (.ifCond .eq 7, 3) := by decide +kernel
theorem k262_7 : decode (gb 262) 7 = .ok (.iload_n 2, 1) := by decide +kernel
theorem k262_8 : decode (gb 262) 8 = .ok (.ifCond .ge 5, 3) := by decide +kernel
theorem k262_11 : decode (gb 262) 11 = .ok (.iconst (-1), 1) := by decide +kernel
theorem k262_12 : decode (gb 262) 12 = .ok (.ireturn, 1) := by decide +kernel
theorem k262_13 : decode (gb 262) 13 = .ok (.aload_n 0, 1) := by decide +kernel
theorem k262_14 : decode (gb 262) 14 = .ok (.getfield 54, 3) := by decide +kernel
theorem k262_17 : decode (gb 262) 17 = .ok (.iload_n 1, 1) := by decide +kernel
theorem k262_18 : decode (gb 262) 18 = .ok (.dup2, 1) := by decide +kernel
theorem k262_19 : decode (gb 262) 19 = .ok (.iaload, 1) := by decide +kernel
theorem k262_20 : decode (gb 262) 20 = .ok (.iload_n 2, 1) := by decide +kernel
theorem k262_21 : decode (gb 262) 21 = .ok (.aload_n 0, 1) := by decide +kernel
theorem k262_22 : decode (gb 262) 22 = .ok (.getfield 54, 3) := by decide +kernel
theorem k262_25 : decode (gb 262) 25 = .ok (.iload_n 1, 1) := by decide +kernel
theorem k262_26 : decode (gb 262) 26 = .ok (.iaload, 1) := by decide +kernel
theorem k262_27 : decode (gb 262) 27 = .ok (.if_icmp .ge 7, 3) := by decide +kernel
theorem k262_30 : decode (gb 262) 30 = .ok (.iload_n 2, 1) := by decide +kernel
theorem k262_31 : decode (gb 262) 31 = .ok (.goto 9, 3) := by decide +kernel
theorem k262_34 : decode (gb 262) 34 = .ok (.aload_n 0, 1) := by decide +kernel
theorem k262_35 : decode (gb 262) 35 = .ok (.getfield 54, 3) := by decide +kernel
theorem k262_38 : decode (gb 262) 38 = .ok (.iload_n 1, 1) := by decide +kernel
theorem k262_39 : decode (gb 262) 39 = .ok (.iaload, 1) := by decide +kernel
theorem k262_40 : decode (gb 262) 40 = .ok (.isub, 1) := by decide +kernel
theorem k262_41 : decode (gb 262) 41 = .ok (.iastore, 1) := by decide +kernel
theorem k262_42 : decode (gb 262) 42 = .ok (.aload_n 0, 1) := by decide +kernel
theorem k262_43 : decode (gb 262) 43 = .ok (.getfield 54, 3) := by decide +kernel
theorem k262_46 : decode (gb 262) 46 = .ok (.iload_n 1, 1) := by decide +kernel
theorem k262_47 : decode (gb 262) 47 = .ok (.iaload, 1) := by decide +kernel
theorem k262_48 : decode (gb 262) 48 = .ok (.ireturn, 1) := by decide +kernel
def c262_40 (v1 : Int32) (s1 : Int32) (s2 : Int32) (s3 : Int32) (μ : Mem) : Option (Mem × Int32) :=
  (stA 136 s1 (s2 - s3) μ).bind fun m1 =>
  (ldA 136 v1 m1).bind fun x3 =>
  some (m1, x3)
theorem c262_40_ok {L : Nat} (v1 : Int32) (s1 : Int32) (s2 : Int32) (s3 : Int32) (μ : Mem) (res : Mem × Int32) (h : c262_40 v1 s1 s2 s3 μ = some res) : Sx 262 40 [(0, .ref 129), (1, .int v1)] [.int s3, .int s2, .int s1, .ref 136] 0 0 (mk L μ) (mk L res.1, some (.int res.2)) := by
  unfold c262_40 at h
  refine sx_isub k262_40 ?_
  obtain ⟨m1, e2, h⟩ := Option.bind_eq_some_iff.mp h
  refine cx_iast k262_41 sk_136 e2 ?_
  refine sx_aload_n (i := 0) k262_42 rfl rfl ?_
  refine cx_getR (k := 7) k262_43 ow_262 fl_12_54 (by decide) sk_129 ft_11_7 sr_129_7 ?_
  refine sx_iload_n (i := 1) k262_46 rfl rfl ?_
  obtain ⟨x3, e4, h⟩ := Option.bind_eq_some_iff.mp h
  refine cx_iald k262_47 sk_136 e4 ?_
  exact cx_reti k262_48 rt_262 h
/-- CraftHouseModel.lose(II)I -/
def f262 (p1 : Int32) (p2 : Int32) (μ : Mem) : Option (Mem × Int32) :=
  (f255 p1 μ).bind fun r1 =>
  if r1.2 = 0 then
    some (r1.1, (-1 : Int32))
  else
    if 0 ≤ p2 then
      (ldA 136 p1 r1.1).bind fun x5 =>
      (ldA 136 p1 r1.1).bind fun x7 =>
      if x7 ≤ p2 then
        (ldA 136 p1 r1.1).bind fun x10 =>
        c262_40 p1 p1 x5 x10 r1.1
      else
        c262_40 p1 p1 x5 p2 r1.1
    else
      some (r1.1, (-1 : Int32))
theorem ok262 {L : Nat} (p1 : Int32) (p2 : Int32) (μ : Mem) (res : Mem × Int32) (h : f262 p1 p2 μ = some res) : Mx 262 [.ref 129, .int p1, .int p2] (mk L μ) (mk L res.1, some (.int res.2)) := by
  refine Mx_of ml_262 (by rw [mx_262]; exact Nat.le_of_ble_eq_true rfl) ?_
  show Sx 262 0 [(0, .ref 129), (1, .int p1), (2, .int p2)] [] 0 0 (mk L μ) _
  unfold f262 at h
  refine sx_iload_n (i := 1) k262_0 rfl rfl ?_
  obtain ⟨r1, e2, h⟩ := Option.bind_eq_some_iff.mp h
  refine cx_S (sk := []) (vs := [.int p1]) st_262_255 k262_1 ow_262 cl_12_61 (by decide) rfl (Nat.le_of_ble_eq_true rfl) (ok255 p1 _ _ e2) (sk3 := [.int r1.2]) rfl rfl ?_
  by_cases hb3 : r1.2 = 0
  · rw [if_pos hb3] at h
    refine sx_if_eq (tgt := 11) k262_4 (by decide) (fun _ => ?_) (fun q => absurd hb3 q)
    refine sx_iconst (v := -1) k262_11 (by decide) ?_
    exact cx_reti k262_12 rt_262 h
  · rw [if_neg hb3] at h
    refine sx_if_eq (tgt := 11) k262_4 (by decide) (fun q => absurd q hb3) (fun _ => ?_)
    refine sx_iload_n (i := 2) k262_7 rfl rfl ?_
    by_cases hb4 : 0 ≤ p2
    · rw [if_pos hb4] at h
      refine sx_if_ge (tgt := 13) k262_8 (by decide) (fun _ => ?_) (fun q => absurd hb4 q)
      refine sx_aload_n (i := 0) k262_13 rfl rfl ?_
      refine cx_getR (k := 7) k262_14 ow_262 fl_12_54 (by decide) sk_129 ft_11_7 sr_129_7 ?_
      refine sx_iload_n (i := 1) k262_17 rfl rfl ?_
      refine sx_dup2 k262_18 rfl rfl ?_
      obtain ⟨x5, e6, h⟩ := Option.bind_eq_some_iff.mp h
      refine cx_iald k262_19 sk_136 e6 ?_
      refine sx_iload_n (i := 2) k262_20 rfl rfl ?_
      refine sx_aload_n (i := 0) k262_21 rfl rfl ?_
      refine cx_getR (k := 7) k262_22 ow_262 fl_12_54 (by decide) sk_129 ft_11_7 sr_129_7 ?_
      refine sx_iload_n (i := 1) k262_25 rfl rfl ?_
      obtain ⟨x7, e8, h⟩ := Option.bind_eq_some_iff.mp h
      refine cx_iald k262_26 sk_136 e8 ?_
      by_cases hb9 : x7 ≤ p2
      · rw [if_pos hb9] at h
        refine sx_icmp_ge (tgt := 34) k262_27 (by decide) (fun _ => ?_) (fun q => absurd hb9 q)
        refine sx_aload_n (i := 0) k262_34 rfl rfl ?_
        refine cx_getR (k := 7) k262_35 ow_262 fl_12_54 (by decide) sk_129 ft_11_7 sr_129_7 ?_
        refine sx_iload_n (i := 1) k262_38 rfl rfl ?_
        obtain ⟨x10, e11, h⟩ := Option.bind_eq_some_iff.mp h
        refine cx_iald k262_39 sk_136 e11 ?_
        refine sx_pick (lo2 := [(0, .ref 129), (1, .int p1)]) [0, 1] rfl ?_
        exact c262_40_ok p1 p1 x5 x10 _ _ h
      · rw [if_neg hb9] at h
        refine sx_icmp_ge (tgt := 34) k262_27 (by decide) (fun q => absurd q hb9) (fun _ => ?_)
        refine sx_iload_n (i := 2) k262_30 rfl rfl ?_
        refine sx_goto (tgt := 40) k262_31 (by decide) ?_
        refine sx_pick (lo2 := [(0, .ref 129), (1, .int p1)]) [0, 1] rfl ?_
        exact c262_40_ok p1 p1 x5 p2 _ _ h
    · rw [if_neg hb4] at h
      refine sx_if_ge (tgt := 13) k262_8 (by decide) (fun q => absurd q hb4) (fun _ => ?_)
      refine sx_iconst (v := -1) k262_11 (by decide) ?_
      exact cx_reti k262_12 rt_262 h
theorem k263_0 : decode (gb 263) 0 = .ok (.iload_n 1, 1) := by decide +kernel
theorem k263_1 : decode (gb 263) 1 = .ok (.invokestatic 61, 3) := by decide +kernel
theorem k263_4 : decode (gb 263) 4 = .ok (.ifCond .ne 5, 3) := by decide +kernel
theorem k263_7 : decode (gb 263) 7 = .ok (.iconst (-1), 1) := by decide +kernel
theorem k263_8 : decode (gb 263) 8 = .ok (.ireturn, 1) := by decide +kernel
theorem k263_9 : decode (gb 263) 9 = .ok (.aload_n 0, 1) := by decide +kernel
theorem k263_10 : decode (gb 263) 10 = .ok (.getfield 3, 3) := by decide +kernel
theorem k263_13 : decode (gb 263) 13 = .ok (.istore_n 2, 1) := by decide +kernel
theorem k263_14 : decode (gb 263) 14 = .ok (.aload_n 0, 1) := by decide +kernel
theorem k263_15 : decode (gb 263) 15 = .ok (.iconst 0, 1) := by decide +kernel
theorem k263_16 : decode (gb 263) 16 = .ok (.putfield 3, 3) := by decide +kernel
theorem k263_19 : decode (gb 263) 19 = .ok (.bipush 8, 2) := by decide +kernel
theorem k263_21 : decode (gb 263) 21 = .ok (.iload_n 2, 1) := by decide +kernel
theorem k263_22 : decode (gb 263) 22 = .ok (.imul, 1) := by decide +kernel
theorem k263_23 : decode (gb 263) 23 = .ok (.aload_n 0, 1) := by decide +kernel
theorem k263_24 : decode (gb 263) 24 = .ok (.iload_n 1, 1) := by decide +kernel
theorem k263_25 : decode (gb 263) 25 = .ok (.invokevirtual 69, 3) := by decide +kernel
theorem k263_28 : decode (gb 263) 28 = .ok (.if_icmp .le 6, 3) := by decide +kernel
theorem k263_31 : decode (gb 263) 31 = .ok (.bipush (-3), 2) := by decide +kernel
theorem k263_33 : decode (gb 263) 33 = .ok (.ireturn, 1) := by decide +kernel
theorem k263_34 : decode (gb 263) 34 = .ok (.aload_n 0, 1) := by decide +kernel
theorem k263_35 : decode (gb 263) 35 = .ok (.iload_n 1, 1) := by decide +kernel
theorem k263_36 : decode (gb 263) 36 = .ok (.aload_n 0, 1) := by decide +kernel
theorem k263_37 : decode (gb 263) 37 = .ok (.getfield 7, 3) := by decide +kernel
theorem k263_40 : decode (gb 263) 40 = .ok (.iload_n 2, 1) := by decide +kernel
theorem k263_41 : decode (gb 263) 41 = .ok (.invokevirtual 73, 3) := by decide +kernel
theorem k263_44 : decode (gb 263) 44 = .ok (.aload_n 0, 1) := by decide +kernel
theorem k263_45 : decode (gb 263) 45 = .ok (.getfield 54, 3) := by decide +kernel
theorem k263_48 : decode (gb 263) 48 = .ok (.iload_n 1, 1) := by decide +kernel
theorem k263_49 : decode (gb 263) 49 = .ok (.iaload, 1) := by decide +kernel
theorem k263_50 : decode (gb 263) 50 = .ok (.ireturn, 1) := by decide +kernel
/-- CraftHouseModel.inject(I)I -/
def f263 (p1 : Int32) (μ : Mem) : Option (Mem × Int32) :=
  (f255 p1 μ).bind fun r1 =>
  if r1.2 = 0 then
    some (r1.1, (-1 : Int32))
  else
    (pfI 129 1 (0 : Int32) r1.1).bind fun m4 =>
    (f254 p1 m4).bind fun r6 =>
    if ((8 : Int32) * (r1.1.1 129 1)) ≤ r6.2 then
      (f256 p1 130 (r1.1.1 129 1) r6.1).bind fun r9 =>
      (ldA 136 p1 r9).bind fun x11 =>
      some (r9, x11)
    else
      some (r6.1, (-3 : Int32))
theorem ok263 {L : Nat} (p1 : Int32) (μ : Mem) (res : Mem × Int32) (h : f263 p1 μ = some res) : Mx 263 [.ref 129, .int p1] (mk L μ) (mk L res.1, some (.int res.2)) := by
  refine Mx_of ml_263 (by rw [mx_263]; exact Nat.le_of_ble_eq_true rfl) ?_
  show Sx 263 0 [(0, .ref 129), (1, .int p1)] [] 0 0 (mk L μ) _
  unfold f263 at h
  refine sx_iload_n (i := 1) k263_0 rfl rfl ?_
  obtain ⟨r1, e2, h⟩ := Option.bind_eq_some_iff.mp h
  refine cx_S (sk := []) (vs := [.int p1]) st_263_255 k263_1 ow_263 cl_12_61 (by decide) rfl (Nat.le_of_ble_eq_true rfl) (ok255 p1 _ _ e2) (sk3 := [.int r1.2]) rfl rfl ?_
  by_cases hb3 : r1.2 = 0
  · rw [if_pos hb3] at h
    refine sx_if_ne (tgt := 9) k263_4 (by decide) (fun q => absurd hb3 q) (fun _ => ?_)
    refine sx_iconst (v := -1) k263_7 (by decide) ?_
    exact cx_reti k263_8 rt_263 h
  · rw [if_neg hb3] at h
    refine sx_if_ne (tgt := 9) k263_4 (by decide) (fun _ => ?_) (fun q => absurd q hb3)
    refine sx_aload_n (i := 0) k263_9 rfl rfl ?_
    refine cx_getI (k := 1) k263_10 ow_263 fl_12_3 (by decide) sk_129 ft_11_1 ?_
    refine cx_istore_n (lo2 := [(2, .int (r1.1.1 129 1)), (0, .ref 129), (1, .int p1)]) k263_13 rfl (by rw [mx_263]; decide) rfl ?_
    refine sx_aload_n (i := 0) k263_14 rfl rfl ?_
    refine sx_iconst (v := 0) k263_15 (by decide) ?_
    obtain ⟨m4, e5, h⟩ := Option.bind_eq_some_iff.mp h
    refine cx_putI (k := 1) k263_16 ow_263 fl_12_3 (by decide) sk_129 nf_11_1 fu_11_1 e5 ?_
    refine sx_bipush (v := 8) k263_19 (by decide) ?_
    refine sx_iload_n (i := 2) k263_21 rfl rfl ?_
    refine sx_imul k263_22 ?_
    refine sx_aload_n (i := 0) k263_23 rfl rfl ?_
    refine sx_iload_n (i := 1) k263_24 rfl rfl ?_
    obtain ⟨r6, e7, h⟩ := Option.bind_eq_some_iff.mp h
    refine cx_V (sk := [.int ((8 : Int32) * (r1.1.1 129 1))]) (vs := [.int p1]) st_263_254 k263_25 ow_263 cl_12_69 (by decide) rfl (Nat.le_of_ble_eq_true rfl) sk_129 (ok254 p1 _ _ e7) (sk3 := [.int r6.2, .int ((8 : Int32) * (r1.1.1 129 1))]) rfl rfl ?_
    by_cases hb8 : ((8 : Int32) * (r1.1.1 129 1)) ≤ r6.2
    · rw [if_pos hb8] at h
      refine sx_icmp_le (tgt := 34) k263_28 (by decide) (fun _ => ?_) (fun q => absurd hb8 q)
      refine sx_aload_n (i := 0) k263_34 rfl rfl ?_
      refine sx_iload_n (i := 1) k263_35 rfl rfl ?_
      refine sx_aload_n (i := 0) k263_36 rfl rfl ?_
      refine cx_getR (k := 0) k263_37 ow_263 fl_12_7 (by decide) sk_129 ft_11_0 sr_129_0 ?_
      refine sx_iload_n (i := 2) k263_40 rfl rfl ?_
      obtain ⟨r9, e10, h⟩ := Option.bind_eq_some_iff.mp h
      refine cx_V (sk := []) (vs := [.int p1, .ref 130, .int (r1.1.1 129 1)]) st_263_256 k263_41 ow_263 cl_12_73 (by decide) rfl (Nat.le_of_ble_eq_true rfl) sk_129 (ok256 p1 130 (r1.1.1 129 1) sk_130 _ _ e10) (sk3 := []) rfl rfl ?_
      refine sx_aload_n (i := 0) k263_44 rfl rfl ?_
      refine cx_getR (k := 7) k263_45 ow_263 fl_12_54 (by decide) sk_129 ft_11_7 sr_129_7 ?_
      refine sx_iload_n (i := 1) k263_48 rfl rfl ?_
      obtain ⟨x11, e12, h⟩ := Option.bind_eq_some_iff.mp h
      refine cx_iald k263_49 sk_136 e12 ?_
      exact cx_reti k263_50 rt_263 h
    · rw [if_neg hb8] at h
      refine sx_icmp_le (tgt := 34) k263_28 (by decide) (fun q => absurd q hb8) (fun _ => ?_)
      refine sx_bipush (v := -3) k263_31 (by decide) ?_
      exact cx_reti k263_33 rt_263 h
theorem k266_0 : decode (gb 266) 0 = .ok (.iconst 0, 1) := by decide +kernel
theorem k266_1 : decode (gb 266) 1 = .ok (.istore_n 1, 1) := by decide +kernel
theorem k266_2 : decode (gb 266) 2 = .ok (.iconst 0, 1) := by decide +kernel
theorem k266_3 : decode (gb 266) 3 = .ok (.istore_n 2, 1) := by decide +kernel
theorem k266_4 : decode (gb 266) 4 = .ok (.iload_n 2, 1) := by decide +kernel
theorem k266_5 : decode (gb 266) 5 = .ok (.bipush 32, 2) := by decide +kernel
theorem k266_7 : decode (gb 266) 7 = .ok (.if_icmp .ge 17, 3) := by decide +kernel
theorem k266_10 : decode (gb 266) 10 = .ok (.iload_n 1, 1) := by decide +kernel
theorem k266_11 : decode (gb 266) 11 = .ok (.iload_n 0, 1) := by decide +kernel
theorem k266_12 : decode (gb 266) 12 = .ok (.iload_n 2, 1) := by decide +kernel
theorem k266_13 : decode (gb 266) 13 = .ok (.iushr, 1) := by decide +kernel
theorem k266_14 : decode (gb 266) 14 = .ok (.iconst 1, 1) := by decide +kernel
theorem k266_15 : decode (gb 266) 15 = .ok (.iand, 1) := by decide +kernel
theorem k266_16 : decode (gb 266) 16 = .ok (.iadd, 1) := by decide +kernel
theorem k266_17 : decode (gb 266) 17 = .ok (.istore_n 1, 1) := by decide +kernel
theorem k266_18 : decode (gb 266) 18 = .ok (.iinc 2 1, 3) := by decide +kernel
theorem k266_21 : decode (gb 266) 21 = .ok (.goto (-17), 3) := by decide +kernel
theorem k266_24 : decode (gb 266) 24 = .ok (.iload_n 1, 1) := by decide +kernel
theorem k266_25 : decode (gb 266) 25 = .ok (.ireturn, 1) := by decide +kernel
def b266_4 (kl4 : Int32 → Int32 → Int32 → Mem → Option (Mem × Int32)) (v0 : Int32) (v1 : Int32) (v2 : Int32) (μ : Mem) : Option (Mem × Int32) :=
  if (32 : Int32) ≤ v2 then
    some (μ, v1)
  else
    nm (v1 + ((jushr v0 v2) &&& (1 : Int32))) fun x2 =>
    nm (v2 + (1 : Int32)) fun x3 =>
    kl4 v0 x2 x3 μ
theorem b266_4_ok {L : Nat} (kl4 : Int32 → Int32 → Int32 → Mem → Option (Mem × Int32)) (hk4 : (∀ (v0 : Int32) (v1 : Int32) (v2 : Int32) (μ : Mem) (res : Mem × Int32), kl4 v0 v1 v2 μ = some res → Sx 266 4 [(0, .int v0), (1, .int v1), (2, .int v2)] [] 0 0 (mk L μ) (mk L res.1, some (.int res.2)))) (v0 : Int32) (v1 : Int32) (v2 : Int32) (μ : Mem) (res : Mem × Int32) (h : b266_4 kl4 v0 v1 v2 μ = some res) : Sx 266 4 [(0, .int v0), (1, .int v1), (2, .int v2)] [] 0 0 (mk L μ) (mk L res.1, some (.int res.2)) := by
  unfold b266_4 at h
  refine sx_iload_n (i := 2) k266_4 rfl rfl ?_
  refine sx_bipush (v := 32) k266_5 (by decide) ?_
  by_cases hb1 : (32 : Int32) ≤ v2
  · rw [if_pos hb1] at h
    refine sx_icmp_ge (tgt := 24) k266_7 (by decide) (fun _ => ?_) (fun q => absurd hb1 q)
    refine sx_iload_n (i := 1) k266_24 rfl rfl ?_
    exact cx_reti k266_25 rt_266 h
  · rw [if_neg hb1] at h
    refine sx_icmp_ge (tgt := 24) k266_7 (by decide) (fun q => absurd q hb1) (fun _ => ?_)
    refine sx_iload_n (i := 1) k266_10 rfl rfl ?_
    refine sx_iload_n (i := 0) k266_11 rfl rfl ?_
    refine sx_iload_n (i := 2) k266_12 rfl rfl ?_
    refine sx_iushr k266_13 ?_
    refine sx_iconst (v := 1) k266_14 (by decide) ?_
    refine sx_iand k266_15 ?_
    refine sx_iadd k266_16 ?_
    refine cx_nm h (fun x2 h => ?_)
    refine cx_istore_n (lo2 := [(1, .int x2), (0, .int v0), (2, .int v2)]) k266_17 rfl (by rw [mx_266]; decide) rfl ?_
    refine cx_iinc (c := 1) (lo2 := fun x3 => [(2, .int x3), (1, .int x2), (0, .int v0)]) k266_18 rfl (by decide) (by rw [mx_266]; decide) (fun _ => rfl) h (fun x3 h => ?_)
    refine sx_goto (tgt := 4) k266_21 (by decide) ?_
    refine sx_pick (lo2 := [(0, .int v0), (1, .int x2), (2, .int x3)]) [2, 1, 0] rfl ?_
    exact hk4 v0 x2 x3 _ _ h
def l266_4 : Nat → Int32 × Int32 × Int32 × Mem → Option (Mem × Int32) :=
  fixN (fun self x => b266_4 (fun v0 v1 v2 μ => self (v0, v1, v2, μ)) (x.1) (x.2.1) (x.2.2.1) (x.2.2.2))
theorem l266_4_ok {L : Nat} (n : Nat) (v0 : Int32) (v1 : Int32) (v2 : Int32) (μ : Mem) (res : Mem × Int32) (h : l266_4 n (v0, v1, v2, μ) = some res) : Sx 266 4 [(0, .int v0), (1, .int v1), (2, .int v2)] [] 0 0 (mk L μ) (mk L res.1, some (.int res.2)) := by
  have key := fixN_ind (P := fun x res => Sx 266 4 [(0, .int (x.1)), (1, .int (x.2.1)), (2, .int (x.2.2.1))] [] 0 0 (mk L (x.2.2.2)) (mk L res.1, some (.int res.2))) (F := fun self x => b266_4 (fun v0 v1 v2 μ => self (v0, v1, v2, μ)) (x.1) (x.2.1) (x.2.2.1) (x.2.2.2)) (fun self hself x res h => b266_4_ok (fun v0 v1 v2 μ => self (v0, v1, v2, μ)) (fun v0 v1 v2 μ res hh => hself (v0, v1, v2, μ) res hh) (x.1) (x.2.1) (x.2.2.1) (x.2.2.2) res h) n (v0, v1, v2, μ) res h
  exact key
/-- CraftHouseModel.ones(I)I -/
def f266 (p1 : Int32) (μ : Mem) : Option (Mem × Int32) :=
  l266_4 gF (p1, (0 : Int32), (0 : Int32), μ)
theorem ok266 {L : Nat} (p1 : Int32) (μ : Mem) (res : Mem × Int32) (h : f266 p1 μ = some res) : Mx 266 [.int p1] (mk L μ) (mk L res.1, some (.int res.2)) := by
  refine Mx_of ml_266 (by rw [mx_266]; exact Nat.le_of_ble_eq_true rfl) ?_
  show Sx 266 0 [(0, .int p1)] [] 0 0 (mk L μ) _
  unfold f266 at h
  refine sx_iconst (v := 0) k266_0 (by decide) ?_
  refine cx_istore_n (lo2 := [(1, .int (0 : Int32)), (0, .int p1)]) k266_1 rfl (by rw [mx_266]; decide) rfl ?_
  refine sx_iconst (v := 0) k266_2 (by decide) ?_
  refine cx_istore_n (lo2 := [(2, .int (0 : Int32)), (1, .int (0 : Int32)), (0, .int p1)]) k266_3 rfl (by rw [mx_266]; decide) rfl ?_
  refine sx_pick (lo2 := [(0, .int p1), (1, .int (0 : Int32)), (2, .int (0 : Int32))]) [2, 1, 0] rfl ?_
  exact l266_4_ok gF p1 (0 : Int32) (0 : Int32) _ _ h
theorem k313_0 : decode (gb 313) 0 = .ok (.aload_n 1, 1) := by decide +kernel
theorem k313_1 : decode (gb 313) 1 = .ok (.iload_n 2, 1) := by decide +kernel
theorem k313_2 : decode (gb 313) 2 = .ok (.iaload, 1) := by decide +kernel
theorem k313_3 : decode (gb 313) 3 = .ok (.bipush 8, 2) := by decide +kernel
theorem k313_5 : decode (gb 313) 5 = .ok (.ishl, 1) := by decide +kernel
theorem k313_6 : decode (gb 313) 6 = .ok (.aload_n 1, 1) := by decide +kernel
theorem k313_7 : decode (gb 313) 7 = .ok (.iload_n 2, 1) := by decide +kernel
theorem k313_8 : decode (gb 313) 8 = .ok (.iconst 1, 1) := by decide +kernel
theorem k313_9 : decode (gb 313) 9 = .ok (.iadd, 1) := by decide +kernel
theorem k313_10 : decode (gb 313) 10 = .ok (.iaload, 1) := by decide +kernel
theorem k313_11 : decode (gb 313) 11 = .ok (.ior, 1) := by decide +kernel
theorem k313_12 : decode (gb 313) 12 = .ok (.ireturn, 1) := by decide +kernel
/-- CraftHouseModel.word([II)I -/
def f313 (p1 : Nat) (p2 : Int32) (μ : Mem) : Option (Mem × Int32) :=
  (ldA p1 p2 μ).bind fun x1 =>
  (ldA p1 (p2 + (1 : Int32)) μ).bind fun x3 =>
  some (μ, ((jshl x1 (8 : Int32)) ||| x3))
theorem ok313 {L : Nat} (p1 : Nat) (p2 : Int32) (h1 : SK0 p1 = (1, gln p1)) (μ : Mem) (res : Mem × Int32) (h : f313 p1 p2 μ = some res) : Mx 313 [.ref 129, .ref p1, .int p2] (mk L μ) (mk L res.1, some (.int res.2)) := by
  refine Mx_of ml_313 (by rw [mx_313]; exact Nat.le_of_ble_eq_true rfl) ?_
  show Sx 313 0 [(0, .ref 129), (1, .ref p1), (2, .int p2)] [] 0 0 (mk L μ) _
  unfold f313 at h
  refine sx_aload_n (i := 1) k313_0 rfl rfl ?_
  refine sx_iload_n (i := 2) k313_1 rfl rfl ?_
  obtain ⟨x1, e2, h⟩ := Option.bind_eq_some_iff.mp h
  refine cx_iald k313_2 h1 e2 ?_
  refine sx_bipush (v := 8) k313_3 (by decide) ?_
  refine sx_ishl k313_5 ?_
  refine sx_aload_n (i := 1) k313_6 rfl rfl ?_
  refine sx_iload_n (i := 2) k313_7 rfl rfl ?_
  refine sx_iconst (v := 1) k313_8 (by decide) ?_
  refine sx_iadd k313_9 ?_
  obtain ⟨x3, e4, h⟩ := Option.bind_eq_some_iff.mp h
  refine cx_iald k313_10 h1 e4 ?_
  refine sx_ior k313_11 ?_
  exact cx_reti k313_12 rt_313 h
theorem k310_0 : decode (gb 310) 0 = .ok (.iload_n 0, 1) := by decide +kernel
theorem k310_1 : decode (gb 310) 1 = .ok (.iconst 3, 1) := by decide +kernel
theorem k310_2 : decode (gb 310) 2 = .ok (.if_icmp .eq 56, 3) := by decide +kernel
theorem k310_5 : decode (gb 310) 5 = .ok (.iload_n 0, 1) := by decide +kernel
theorem k310_6 : decode (gb 310) 6 = .ok (.iconst 5, 1) := by decide +kernel
theorem k310_7 : decode (gb 310) 7 = .ok (.if_icmp .eq 51, 3) := by decide +kernel
theorem k310_10 : decode (gb 310) 10 = .ok (.iload_n 0, 1) := by decide +kernel
theorem k310_11 : decode (gb 310) 11 = .ok (.bipush 6, 2) := by decide +kernel
theorem k310_13 : decode (gb 310) 13 = .ok (.if_icmp .eq 45, 3) := by decide +kernel
theorem k310_16 : decode (gb 310) 16 = .ok (.iload_n 0, 1) := by decide +kernel
theorem k310_17 : decode (gb 310) 17 = .ok (.bipush 8, 2) := by decide +kernel
theorem k310_19 : decode (gb 310) 19 = .ok (.if_icmp .eq 39, 3) := by decide +kernel
theorem k310_22 : decode (gb 310) 22 = .ok (.iload_n 0, 1) := by decide +kernel
theorem k310_23 : decode (gb 310) 23 = .ok (.bipush 11, 2) := by decide +kernel
theorem k310_25 : decode (gb 310) 25 = .ok (.if_icmp .eq 33, 3) := by decide +kernel
theorem k310_28 : decode (gb 310) 28 = .ok (.iload_n 0, 1) := by decide +kernel
theorem k310_29 : decode (gb 310) 29 = .ok (.bipush 12, 2) := by decide +kernel
theorem k310_31 : decode (gb 310) 31 = .ok (.if_icmp .eq 27, 3) := by decide +kernel
theorem k310_34 : decode (gb 310) 34 = .ok (.iload_n 0, 1) := by decide +kernel
theorem k310_35 : decode (gb 310) 35 = .ok (.bipush 15, 2) := by decide +kernel
theorem k310_37 : decode (gb 310) 37 = .ok (.if_icmp .eq 21, 3) := by decide +kernel
theorem k310_40 : decode (gb 310) 40 = .ok (.iload_n 0, 1) := by decide +kernel
theorem k310_41 : decode (gb 310) 41 = .ok (.bipush 17, 2) := by decide +kernel
theorem k310_43 : decode (gb 310) 43 = .ok (.if_icmp .eq 15, 3) := by decide +kernel
theorem k310_46 : decode (gb 310) 46 = .ok (.iload_n 0, 1) := by decide +kernel
theorem k310_47 : decode (gb 310) 47 = .ok (.bipush 19, 2) := by decide +kernel
theorem k310_49 : decode (gb 310) 49 = .ok (.if_icmp .eq 9, 3) := by decide +kernel
theorem k310_52 : decode (gb 310) 52 = .ok (.iload_n 0, 1) := by decide +kernel
theorem k310_53 : decode (gb 310) 53 = .ok (.bipush 20, 2) := by decide +kernel
theorem k310_55 : decode (gb 310) 55 = .ok (.if_icmp .ne 7, 3) := by decide +kernel
theorem k310_58 : decode (gb 310) 58 = .ok (.iconst 1, 1) := by decide +kernel
theorem k310_59 : decode (gb 310) 59 = .ok (.goto 4, 3) := by decide +kernel
theorem k310_62 : decode (gb 310) 62 = .ok (.iconst 0, 1) := by decide +kernel
theorem k310_63 : decode (gb 310) 63 = .ok (.ireturn, 1) := by decide +kernel
def c310_58 (μ : Mem) : Option (Mem × Int32) :=
  rtZ (1 : Int32) μ
theorem c310_58_ok {L : Nat} (μ : Mem) (res : Mem × Int32) (h : c310_58 μ = some res) : Sx 310 58 [] [] 0 0 (mk L μ) (mk L res.1, some (.int res.2)) := by
  unfold c310_58 at h
  refine sx_iconst (v := 1) k310_58 (by decide) ?_
  refine sx_goto (tgt := 63) k310_59 (by decide) ?_
  exact cx_retz k310_63 rt_310 h
/-- CraftHouseModel.isService(I)Z -/
def f310 (p1 : Int32) (μ : Mem) : Option (Mem × Int32) :=
  if p1 = (3 : Int32) then
    c310_58 μ
  else
    if p1 = (5 : Int32) then
      c310_58 μ
    else
      if p1 = (6 : Int32) then
        c310_58 μ
      else
        if p1 = (8 : Int32) then
          c310_58 μ
        else
          if p1 = (11 : Int32) then
            c310_58 μ
          else
            if p1 = (12 : Int32) then
              c310_58 μ
            else
              if p1 = (15 : Int32) then
                c310_58 μ
              else
                if p1 = (17 : Int32) then
                  c310_58 μ
                else
                  if p1 = (19 : Int32) then
                    c310_58 μ
                  else
                    if p1 = (20 : Int32) then
                      c310_58 μ
                    else
                      rtZ (0 : Int32) μ
theorem ok310 {L : Nat} (p1 : Int32) (μ : Mem) (res : Mem × Int32) (h : f310 p1 μ = some res) : Mx 310 [.int p1] (mk L μ) (mk L res.1, some (.int res.2)) := by
  refine Mx_of ml_310 (by rw [mx_310]; exact Nat.le_of_ble_eq_true rfl) ?_
  show Sx 310 0 [(0, .int p1)] [] 0 0 (mk L μ) _
  unfold f310 at h
  refine sx_iload_n (i := 0) k310_0 rfl rfl ?_
  refine sx_iconst (v := 3) k310_1 (by decide) ?_
  by_cases hb1 : p1 = (3 : Int32)
  · rw [if_pos hb1] at h
    refine sx_icmp_eq (tgt := 58) k310_2 (by decide) (fun _ => ?_) (fun q => absurd hb1 q)
    refine sx_pick (lo2 := []) [] rfl ?_
    exact c310_58_ok _ _ h
  · rw [if_neg hb1] at h
    refine sx_icmp_eq (tgt := 58) k310_2 (by decide) (fun q => absurd q hb1) (fun _ => ?_)
    refine sx_iload_n (i := 0) k310_5 rfl rfl ?_
    refine sx_iconst (v := 5) k310_6 (by decide) ?_
    by_cases hb2 : p1 = (5 : Int32)
    · rw [if_pos hb2] at h
      refine sx_icmp_eq (tgt := 58) k310_7 (by decide) (fun _ => ?_) (fun q => absurd hb2 q)
      refine sx_pick (lo2 := []) [] rfl ?_
      exact c310_58_ok _ _ h
    · rw [if_neg hb2] at h
      refine sx_icmp_eq (tgt := 58) k310_7 (by decide) (fun q => absurd q hb2) (fun _ => ?_)
      refine sx_iload_n (i := 0) k310_10 rfl rfl ?_
      refine sx_bipush (v := 6) k310_11 (by decide) ?_
      by_cases hb3 : p1 = (6 : Int32)
      · rw [if_pos hb3] at h
        refine sx_icmp_eq (tgt := 58) k310_13 (by decide) (fun _ => ?_) (fun q => absurd hb3 q)
        refine sx_pick (lo2 := []) [] rfl ?_
        exact c310_58_ok _ _ h
      · rw [if_neg hb3] at h
        refine sx_icmp_eq (tgt := 58) k310_13 (by decide) (fun q => absurd q hb3) (fun _ => ?_)
        refine sx_iload_n (i := 0) k310_16 rfl rfl ?_
        refine sx_bipush (v := 8) k310_17 (by decide) ?_
        by_cases hb4 : p1 = (8 : Int32)
        · rw [if_pos hb4] at h
          refine sx_icmp_eq (tgt := 58) k310_19 (by decide) (fun _ => ?_) (fun q => absurd hb4 q)
          refine sx_pick (lo2 := []) [] rfl ?_
          exact c310_58_ok _ _ h
        · rw [if_neg hb4] at h
          refine sx_icmp_eq (tgt := 58) k310_19 (by decide) (fun q => absurd q hb4) (fun _ => ?_)
          refine sx_iload_n (i := 0) k310_22 rfl rfl ?_
          refine sx_bipush (v := 11) k310_23 (by decide) ?_
          by_cases hb5 : p1 = (11 : Int32)
          · rw [if_pos hb5] at h
            refine sx_icmp_eq (tgt := 58) k310_25 (by decide) (fun _ => ?_) (fun q => absurd hb5 q)
            refine sx_pick (lo2 := []) [] rfl ?_
            exact c310_58_ok _ _ h
          · rw [if_neg hb5] at h
            refine sx_icmp_eq (tgt := 58) k310_25 (by decide) (fun q => absurd q hb5) (fun _ => ?_)
            refine sx_iload_n (i := 0) k310_28 rfl rfl ?_
            refine sx_bipush (v := 12) k310_29 (by decide) ?_
            by_cases hb6 : p1 = (12 : Int32)
            · rw [if_pos hb6] at h
              refine sx_icmp_eq (tgt := 58) k310_31 (by decide) (fun _ => ?_) (fun q => absurd hb6 q)
              refine sx_pick (lo2 := []) [] rfl ?_
              exact c310_58_ok _ _ h
            · rw [if_neg hb6] at h
              refine sx_icmp_eq (tgt := 58) k310_31 (by decide) (fun q => absurd q hb6) (fun _ => ?_)
              refine sx_iload_n (i := 0) k310_34 rfl rfl ?_
              refine sx_bipush (v := 15) k310_35 (by decide) ?_
              by_cases hb7 : p1 = (15 : Int32)
              · rw [if_pos hb7] at h
                refine sx_icmp_eq (tgt := 58) k310_37 (by decide) (fun _ => ?_) (fun q => absurd hb7 q)
                refine sx_pick (lo2 := []) [] rfl ?_
                exact c310_58_ok _ _ h
              · rw [if_neg hb7] at h
                refine sx_icmp_eq (tgt := 58) k310_37 (by decide) (fun q => absurd q hb7) (fun _ => ?_)
                refine sx_iload_n (i := 0) k310_40 rfl rfl ?_
                refine sx_bipush (v := 17) k310_41 (by decide) ?_
                by_cases hb8 : p1 = (17 : Int32)
                · rw [if_pos hb8] at h
                  refine sx_icmp_eq (tgt := 58) k310_43 (by decide) (fun _ => ?_) (fun q => absurd hb8 q)
                  refine sx_pick (lo2 := []) [] rfl ?_
                  exact c310_58_ok _ _ h
                · rw [if_neg hb8] at h
                  refine sx_icmp_eq (tgt := 58) k310_43 (by decide) (fun q => absurd q hb8) (fun _ => ?_)
                  refine sx_iload_n (i := 0) k310_46 rfl rfl ?_
                  refine sx_bipush (v := 19) k310_47 (by decide) ?_
                  by_cases hb9 : p1 = (19 : Int32)
                  · rw [if_pos hb9] at h
                    refine sx_icmp_eq (tgt := 58) k310_49 (by decide) (fun _ => ?_) (fun q => absurd hb9 q)
                    refine sx_pick (lo2 := []) [] rfl ?_
                    exact c310_58_ok _ _ h
                  · rw [if_neg hb9] at h
                    refine sx_icmp_eq (tgt := 58) k310_49 (by decide) (fun q => absurd q hb9) (fun _ => ?_)
                    refine sx_iload_n (i := 0) k310_52 rfl rfl ?_
                    refine sx_bipush (v := 20) k310_53 (by decide) ?_
                    by_cases hb10 : p1 = (20 : Int32)
                    · rw [if_pos hb10] at h
                      refine sx_icmp_ne (tgt := 62) k310_55 (by decide) (fun q => absurd hb10 q) (fun _ => ?_)
                      refine sx_pick (lo2 := []) [] rfl ?_
                      exact c310_58_ok _ _ h
                    · rw [if_neg hb10] at h
                      refine sx_icmp_ne (tgt := 62) k310_55 (by decide) (fun _ => ?_) (fun q => absurd q hb10)
                      refine sx_iconst (v := 0) k310_62 (by decide) ?_
                      exact cx_retz k310_63 rt_310 h
theorem k311_0 : decode (gb 311) 0 = .ok (.iload_n 0, 1) := by decide +kernel
theorem k311_1 : decode (gb 311) 1 = .ok (.iload_n 1, 1) := by decide +kernel
theorem k311_2 : decode (gb 311) 2 = .ok (.if_icmp .eq 25, 3) := by decide +kernel
theorem k311_5 : decode (gb 311) 5 = .ok (.iload_n 0, 1) := by decide +kernel
theorem k311_6 : decode (gb 311) 6 = .ok (.iload_n 2, 1) := by decide +kernel
theorem k311_7 : decode (gb 311) 7 = .ok (.if_icmp .eq 20, 3) := by decide +kernel
theorem k311_10 : decode (gb 311) 10 = .ok (.iload_n 0, 1) := by decide +kernel
theorem k311_11 : decode (gb 311) 11 = .ok (.iload_n 3, 1) := by decide +kernel
theorem k311_12 : decode (gb 311) 12 = .ok (.if_icmp .eq 15, 3) := by decide +kernel
theorem k311_15 : decode (gb 311) 15 = .ok (.iload_n 0, 1) := by decide +kernel
theorem k311_16 : decode (gb 311) 16 = .ok (.iload 4, 2) := by decide +kernel
theorem k311_18 : decode (gb 311) 18 = .ok (.if_icmp .eq 9, 3) := by decide +kernel
theorem k311_21 : decode (gb 311) 21 = .ok (.iload_n 0, 1) := by decide +kernel
theorem k311_22 : decode (gb 311) 22 = .ok (.iload 5, 2) := by decide +kernel
theorem k311_24 : decode (gb 311) 24 = .ok (.if_icmp .ne 7, 3) := by decide +kernel
theorem k311_27 : decode (gb 311) 27 = .ok (.iconst 1, 1) := by decide +kernel
theorem k311_28 : decode (gb 311) 28 = .ok (.goto 4, 3) := by decide +kernel
theorem k311_31 : decode (gb 311) 31 = .ok (.iconst 0, 1) := by decide +kernel
theorem k311_32 : decode (gb 311) 32 = .ok (.ireturn, 1) := by decide +kernel
def c311_27 (μ : Mem) : Option (Mem × Int32) :=
  rtZ (1 : Int32) μ
theorem c311_27_ok {L : Nat} (μ : Mem) (res : Mem × Int32) (h : c311_27 μ = some res) : Sx 311 27 [] [] 0 0 (mk L μ) (mk L res.1, some (.int res.2)) := by
  unfold c311_27 at h
  refine sx_iconst (v := 1) k311_27 (by decide) ?_
  refine sx_goto (tgt := 32) k311_28 (by decide) ?_
  exact cx_retz k311_32 rt_311 h
/-- CraftHouseModel.isOneOf(IIIIII)Z -/
def f311 (p1 : Int32) (p2 : Int32) (p3 : Int32) (p4 : Int32) (p5 : Int32) (p6 : Int32) (μ : Mem) : Option (Mem × Int32) :=
  if p1 = p2 then
    c311_27 μ
  else
    if p1 = p3 then
      c311_27 μ
    else
      if p1 = p4 then
        c311_27 μ
      else
        if p1 = p5 then
          c311_27 μ
        else
          if p1 = p6 then
            c311_27 μ
          else
            rtZ (0 : Int32) μ
theorem ok311 {L : Nat} (p1 : Int32) (p2 : Int32) (p3 : Int32) (p4 : Int32) (p5 : Int32) (p6 : Int32) (μ : Mem) (res : Mem × Int32) (h : f311 p1 p2 p3 p4 p5 p6 μ = some res) : Mx 311 [.int p1, .int p2, .int p3, .int p4, .int p5, .int p6] (mk L μ) (mk L res.1, some (.int res.2)) := by
  refine Mx_of ml_311 (by rw [mx_311]; exact Nat.le_of_ble_eq_true rfl) ?_
  show Sx 311 0 [(0, .int p1), (1, .int p2), (2, .int p3), (3, .int p4), (4, .int p5), (5, .int p6)] [] 0 0 (mk L μ) _
  unfold f311 at h
  refine sx_iload_n (i := 0) k311_0 rfl rfl ?_
  refine sx_iload_n (i := 1) k311_1 rfl rfl ?_
  by_cases hb1 : p1 = p2
  · rw [if_pos hb1] at h
    refine sx_icmp_eq (tgt := 27) k311_2 (by decide) (fun _ => ?_) (fun q => absurd hb1 q)
    refine sx_pick (lo2 := []) [] rfl ?_
    exact c311_27_ok _ _ h
  · rw [if_neg hb1] at h
    refine sx_icmp_eq (tgt := 27) k311_2 (by decide) (fun q => absurd q hb1) (fun _ => ?_)
    refine sx_iload_n (i := 0) k311_5 rfl rfl ?_
    refine sx_iload_n (i := 2) k311_6 rfl rfl ?_
    by_cases hb2 : p1 = p3
    · rw [if_pos hb2] at h
      refine sx_icmp_eq (tgt := 27) k311_7 (by decide) (fun _ => ?_) (fun q => absurd hb2 q)
      refine sx_pick (lo2 := []) [] rfl ?_
      exact c311_27_ok _ _ h
    · rw [if_neg hb2] at h
      refine sx_icmp_eq (tgt := 27) k311_7 (by decide) (fun q => absurd q hb2) (fun _ => ?_)
      refine sx_iload_n (i := 0) k311_10 rfl rfl ?_
      refine sx_iload_n (i := 3) k311_11 rfl rfl ?_
      by_cases hb3 : p1 = p4
      · rw [if_pos hb3] at h
        refine sx_icmp_eq (tgt := 27) k311_12 (by decide) (fun _ => ?_) (fun q => absurd hb3 q)
        refine sx_pick (lo2 := []) [] rfl ?_
        exact c311_27_ok _ _ h
      · rw [if_neg hb3] at h
        refine sx_icmp_eq (tgt := 27) k311_12 (by decide) (fun q => absurd q hb3) (fun _ => ?_)
        refine sx_iload_n (i := 0) k311_15 rfl rfl ?_
        refine sx_iload k311_16 rfl ?_
        by_cases hb4 : p1 = p5
        · rw [if_pos hb4] at h
          refine sx_icmp_eq (tgt := 27) k311_18 (by decide) (fun _ => ?_) (fun q => absurd hb4 q)
          refine sx_pick (lo2 := []) [] rfl ?_
          exact c311_27_ok _ _ h
        · rw [if_neg hb4] at h
          refine sx_icmp_eq (tgt := 27) k311_18 (by decide) (fun q => absurd q hb4) (fun _ => ?_)
          refine sx_iload_n (i := 0) k311_21 rfl rfl ?_
          refine sx_iload k311_22 rfl ?_
          by_cases hb5 : p1 = p6
          · rw [if_pos hb5] at h
            refine sx_icmp_ne (tgt := 31) k311_24 (by decide) (fun q => absurd hb5 q) (fun _ => ?_)
            refine sx_pick (lo2 := []) [] rfl ?_
            exact c311_27_ok _ _ h
          · rw [if_neg hb5] at h
            refine sx_icmp_ne (tgt := 31) k311_24 (by decide) (fun _ => ?_) (fun q => absurd q hb5)
            refine sx_iconst (v := 0) k311_31 (by decide) ?_
            exact cx_retz k311_32 rt_311 h
theorem k312_0 : decode (gb 312) 0 = .ok (.iload_n 0, 1) := by decide +kernel
theorem k312_1 : decode (gb 312) 1 = .ok (.tableswitch 239 3 19 #[83, 239, 95, 112, 239, 134, 239, 239, 145, 180, 239, 239, 192, 239, 218, 239, 229], 83) := by decide +kernel
theorem k312_84 : decode (gb 312) 84 = .ok (.iload_n 1, 1) := by decide +kernel
theorem k312_85 : decode (gb 312) 85 = .ok (.iconst 1, 1) := by decide +kernel
theorem k312_86 : decode (gb 312) 86 = .ok (.iconst 3, 1) := by decide +kernel
theorem k312_87 : decode (gb 312) 87 = .ok (.iconst 5, 1) := by decide +kernel
theorem k312_88 : decode (gb 312) 88 = .ok (.bipush 6, 2) := by decide +kernel
theorem k312_90 : decode (gb 312) 90 = .ok (.bipush 27, 2) := by decide +kernel
theorem k312_92 : decode (gb 312) 92 = .ok (.invokestatic 468, 3) := by decide +kernel
theorem k312_95 : decode (gb 312) 95 = .ok (.ireturn, 1) := by decide +kernel
theorem k312_96 : decode (gb 312) 96 = .ok (.iload_n 1, 1) := by decide +kernel
theorem k312_97 : decode (gb 312) 97 = .ok (.iconst 5, 1) := by decide +kernel
theorem k312_98 : decode (gb 312) 98 = .ok (.if_icmp .eq 9, 3) := by decide +kernel
theorem k312_101 : decode (gb 312) 101 = .ok (.iload_n 1, 1) := by decide +kernel
theorem k312_102 : decode (gb 312) 102 = .ok (.bipush 6, 2) := by decide +kernel
theorem k312_104 : decode (gb 312) 104 = .ok (.if_icmp .ne 7, 3) := by decide +kernel
theorem k312_107 : decode (gb 312) 107 = .ok (.iconst 1, 1) := by decide +kernel
theorem k312_108 : decode (gb 312) 108 = .ok (.goto 4, 3) := by decide +kernel
theorem k312_111 : decode (gb 312) 111 = .ok (.iconst 0, 1) := by decide +kernel
theorem k312_112 : decode (gb 312) 112 = .ok (.ireturn, 1) := by decide +kernel
theorem k312_113 : decode (gb 312) 113 = .ok (.iload_n 1, 1) := by decide +kernel
theorem k312_114 : decode (gb 312) 114 = .ok (.iconst 2, 1) := by decide +kernel
theorem k312_115 : decode (gb 312) 115 = .ok (.if_icmp .eq 14, 3) := by decide +kernel
theorem k312_118 : decode (gb 312) 118 = .ok (.iload_n 1, 1) := by decide +kernel
theorem k312_119 : decode (gb 312) 119 = .ok (.iconst 5, 1) := by decide +kernel
theorem k312_120 : decode (gb 312) 120 = .ok (.if_icmp .eq 9, 3) := by decide +kernel
theorem k312_123 : decode (gb 312) 123 = .ok (.iload_n 1, 1) := by decide +kernel
theorem k312_124 : decode (gb 312) 124 = .ok (.bipush 9, 2) := by decide +kernel
theorem k312_126 : decode (gb 312) 126 = .ok (.if_icmp .ne 7, 3) := by decide +kernel
theorem k312_129 : decode (gb 312) 129 = .ok (.iconst 1, 1) := by decide +kernel
theorem k312_130 : decode (gb 312) 130 = .ok (.goto 4, 3) := by decide +kernel
theorem k312_133 : decode (gb 312) 133 = .ok (.iconst 0, 1) := by decide +kernel
theorem k312_134 : decode (gb 312) 134 = .ok (.ireturn, 1) := by decide +kernel
theorem k312_135 : decode (gb 312) 135 = .ok (.iload_n 1, 1) := by decide +kernel
theorem k312_136 : decode (gb 312) 136 = .ok (.iconst 1, 1) := by decide +kernel
theorem k312_137 : decode (gb 312) 137 = .ok (.if_icmp .ne 7, 3) := by decide +kernel
theorem k312_140 : decode (gb 312) 140 = .ok (.iconst 1, 1) := by decide +kernel
theorem k312_141 : decode (gb 312) 141 = .ok (.goto 4, 3) := by decide +kernel
theorem k312_144 : decode (gb 312) 144 = .ok (.iconst 0, 1) := by decide +kernel
theorem k312_145 : decode (gb 312) 145 = .ok (.ireturn, 1) := by decide +kernel
theorem k312_146 : decode (gb 312) 146 = .ok (.iload_n 1, 1) := by decide +kernel
theorem k312_147 : decode (gb 312) 147 = .ok (.iconst 1, 1) := by decide +kernel
theorem k312_148 : decode (gb 312) 148 = .ok (.iconst 2, 1) := by decide +kernel
theorem k312_149 : decode (gb 312) 149 = .ok (.iconst 3, 1) := by decide +kernel
theorem k312_150 : decode (gb 312) 150 = .ok (.iconst 4, 1) := by decide +kernel
theorem k312_151 : decode (gb 312) 151 = .ok (.iconst 5, 1) := by decide +kernel
theorem k312_152 : decode (gb 312) 152 = .ok (.invokestatic 468, 3) := by decide +kernel
theorem k312_155 : decode (gb 312) 155 = .ok (.ifCond .ne 20, 3) := by decide +kernel
theorem k312_158 : decode (gb 312) 158 = .ok (.iload_n 1, 1) := by decide +kernel
theorem k312_159 : decode (gb 312) 159 = .ok (.bipush 15, 2) := by decide +kernel
theorem k312_161 : decode (gb 312) 161 = .ok (.bipush 16, 2) := by decide +kernel
theorem k312_163 : decode (gb 312) 163 = .ok (.bipush 20, 2) := by decide +kernel
theorem k312_165 : decode (gb 312) 165 = .ok (.bipush 21, 2) := by decide +kernel
theorem k312_167 : decode (gb 312) 167 = .ok (.bipush 21, 2) := by decide +kernel
theorem k312_169 : decode (gb 312) 169 = .ok (.invokestatic 468, 3) := by decide +kernel
theorem k312_172 : decode (gb 312) 172 = .ok (.ifCond .eq 7, 3) := by decide +kernel
theorem k312_175 : decode (gb 312) 175 = .ok (.iconst 1, 1) := by decide +kernel
theorem k312_176 : decode (gb 312) 176 = .ok (.goto 4, 3) := by decide +kernel
theorem k312_179 : decode (gb 312) 179 = .ok (.iconst 0, 1) := by decide +kernel
theorem k312_180 : decode (gb 312) 180 = .ok (.ireturn, 1) := by decide +kernel
theorem k312_181 : decode (gb 312) 181 = .ok (.iload_n 1, 1) := by decide +kernel
theorem k312_182 : decode (gb 312) 182 = .ok (.iconst 1, 1) := by decide +kernel
theorem k312_183 : decode (gb 312) 183 = .ok (.iconst 2, 1) := by decide +kernel
theorem k312_184 : decode (gb 312) 184 = .ok (.iconst 5, 1) := by decide +kernel
theorem k312_185 : decode (gb 312) 185 = .ok (.bipush 6, 2) := by decide +kernel
theorem k312_187 : decode (gb 312) 187 = .ok (.bipush 13, 2) := by decide +kernel
theorem k312_189 : decode (gb 312) 189 = .ok (.invokestatic 468, 3) := by decide +kernel
theorem k312_192 : decode (gb 312) 192 = .ok (.ireturn, 1) := by decide +kernel
theorem k312_193 : decode (gb 312) 193 = .ok (.iload_n 1, 1) := by decide +kernel
theorem k312_194 : decode (gb 312) 194 = .ok (.iconst 1, 1) := by decide +kernel
theorem k312_195 : decode (gb 312) 195 = .ok (.iconst 2, 1) := by decide +kernel
theorem k312_196 : decode (gb 312) 196 = .ok (.iconst 3, 1) := by decide +kernel
theorem k312_197 : decode (gb 312) 197 = .ok (.bipush 9, 2) := by decide +kernel
theorem k312_199 : decode (gb 312) 199 = .ok (.bipush 11, 2) := by decide +kernel
theorem k312_201 : decode (gb 312) 201 = .ok (.invokestatic 468, 3) := by decide +kernel
theorem k312_204 : decode (gb 312) 204 = .ok (.ifCond .ne 9, 3) := by decide +kernel
theorem k312_207 : decode (gb 312) 207 = .ok (.iload_n 1, 1) := by decide +kernel
theorem k312_208 : decode (gb 312) 208 = .ok (.bipush 12, 2) := by decide +kernel
theorem k312_210 : decode (gb 312) 210 = .ok (.if_icmp .ne 7, 3) := by decide +kernel
theorem k312_213 : decode (gb 312) 213 = .ok (.iconst 1, 1) := by decide +kernel
theorem k312_214 : decode (gb 312) 214 = .ok (.goto 4, 3) := by decide +kernel
theorem k312_217 : decode (gb 312) 217 = .ok (.iconst 0, 1) := by decide +kernel
theorem k312_218 : decode (gb 312) 218 = .ok (.ireturn, 1) := by decide +kernel
theorem k312_219 : decode (gb 312) 219 = .ok (.iload_n 1, 1) := by decide +kernel
theorem k312_220 : decode (gb 312) 220 = .ok (.iconst 1, 1) := by decide +kernel
theorem k312_221 : decode (gb 312) 221 = .ok (.if_icmp .ne 7, 3) := by decide +kernel
theorem k312_224 : decode (gb 312) 224 = .ok (.iconst 1, 1) := by decide +kernel
theorem k312_225 : decode (gb 312) 225 = .ok (.goto 4, 3) := by decide +kernel
theorem k312_228 : decode (gb 312) 228 = .ok (.iconst 0, 1) := by decide +kernel
theorem k312_229 : decode (gb 312) 229 = .ok (.ireturn, 1) := by decide +kernel
theorem k312_230 : decode (gb 312) 230 = .ok (.iload_n 1, 1) := by decide +kernel
theorem k312_231 : decode (gb 312) 231 = .ok (.iconst 1, 1) := by decide +kernel
theorem k312_232 : decode (gb 312) 232 = .ok (.iconst 2, 1) := by decide +kernel
theorem k312_233 : decode (gb 312) 233 = .ok (.iconst 4, 1) := by decide +kernel
theorem k312_234 : decode (gb 312) 234 = .ok (.iconst 5, 1) := by decide +kernel
theorem k312_235 : decode (gb 312) 235 = .ok (.iconst 5, 1) := by decide +kernel
theorem k312_236 : decode (gb 312) 236 = .ok (.invokestatic 468, 3) := by decide +kernel
theorem k312_239 : decode (gb 312) 239 = .ok (.ireturn, 1) := by decide +kernel
theorem k312_240 : decode (gb 312) 240 = .ok (.iload_n 1, 1) := by decide +kernel
theorem k312_241 : decode (gb 312) 241 = .ok (.iconst 1, 1) := by decide +kernel
theorem k312_242 : decode (gb 312) 242 = .ok (.if_icmp .eq 8, 3) := by decide +kernel
theorem k312_245 : decode (gb 312) 245 = .ok (.iload_n 1, 1) := by decide +kernel
theorem k312_246 : decode (gb 312) 246 = .ok (.iconst 3, 1) := by decide +kernel
theorem k312_247 : decode (gb 312) 247 = .ok (.if_icmp .ne 7, 3) := by decide +kernel
theorem k312_250 : decode (gb 312) 250 = .ok (.iconst 1, 1) := by decide +kernel
theorem k312_251 : decode (gb 312) 251 = .ok (.goto 4, 3) := by decide +kernel
theorem k312_254 : decode (gb 312) 254 = .ok (.iconst 0, 1) := by decide +kernel
theorem k312_255 : decode (gb 312) 255 = .ok (.ireturn, 1) := by decide +kernel
def c312_107 (μ : Mem) : Option (Mem × Int32) :=
  rtZ (1 : Int32) μ
theorem c312_107_ok {L : Nat} (μ : Mem) (res : Mem × Int32) (h : c312_107 μ = some res) : Sx 312 107 [] [] 0 0 (mk L μ) (mk L res.1, some (.int res.2)) := by
  unfold c312_107 at h
  refine sx_iconst (v := 1) k312_107 (by decide) ?_
  refine sx_goto (tgt := 112) k312_108 (by decide) ?_
  exact cx_retz k312_112 rt_312 h
def c312_129 (μ : Mem) : Option (Mem × Int32) :=
  rtZ (1 : Int32) μ
theorem c312_129_ok {L : Nat} (μ : Mem) (res : Mem × Int32) (h : c312_129 μ = some res) : Sx 312 129 [] [] 0 0 (mk L μ) (mk L res.1, some (.int res.2)) := by
  unfold c312_129 at h
  refine sx_iconst (v := 1) k312_129 (by decide) ?_
  refine sx_goto (tgt := 134) k312_130 (by decide) ?_
  exact cx_retz k312_134 rt_312 h
def c312_175 (μ : Mem) : Option (Mem × Int32) :=
  rtZ (1 : Int32) μ
theorem c312_175_ok {L : Nat} (μ : Mem) (res : Mem × Int32) (h : c312_175 μ = some res) : Sx 312 175 [] [] 0 0 (mk L μ) (mk L res.1, some (.int res.2)) := by
  unfold c312_175 at h
  refine sx_iconst (v := 1) k312_175 (by decide) ?_
  refine sx_goto (tgt := 180) k312_176 (by decide) ?_
  exact cx_retz k312_180 rt_312 h
def c312_213 (μ : Mem) : Option (Mem × Int32) :=
  rtZ (1 : Int32) μ
theorem c312_213_ok {L : Nat} (μ : Mem) (res : Mem × Int32) (h : c312_213 μ = some res) : Sx 312 213 [] [] 0 0 (mk L μ) (mk L res.1, some (.int res.2)) := by
  unfold c312_213 at h
  refine sx_iconst (v := 1) k312_213 (by decide) ?_
  refine sx_goto (tgt := 218) k312_214 (by decide) ?_
  exact cx_retz k312_218 rt_312 h
def c312_250 (μ : Mem) : Option (Mem × Int32) :=
  rtZ (1 : Int32) μ
theorem c312_250_ok {L : Nat} (μ : Mem) (res : Mem × Int32) (h : c312_250 μ = some res) : Sx 312 250 [] [] 0 0 (mk L μ) (mk L res.1, some (.int res.2)) := by
  unfold c312_250 at h
  refine sx_iconst (v := 1) k312_250 (by decide) ?_
  refine sx_goto (tgt := 255) k312_251 (by decide) ?_
  exact cx_retz k312_255 rt_312 h
/-- CraftHouseModel.isSubtype(II)Z -/
def f312 (p1 : Int32) (p2 : Int32) (μ : Mem) : Option (Mem × Int32) :=
  if p1 = (3 : Int32) then
    (f311 p2 (1 : Int32) (3 : Int32) (5 : Int32) (6 : Int32) (27 : Int32) μ).bind fun r1 =>
    rtZ r1.2 r1.1
  else if p1 = (4 : Int32) then
    if p2 = (1 : Int32) then
      c312_250 μ
    else
      if p2 = (3 : Int32) then
        c312_250 μ
      else
        rtZ (0 : Int32) μ
  else if p1 = (5 : Int32) then
    if p2 = (5 : Int32) then
      c312_107 μ
    else
      if p2 = (6 : Int32) then
        c312_107 μ
      else
        rtZ (0 : Int32) μ
  else if p1 = (6 : Int32) then
    if p2 = (2 : Int32) then
      c312_129 μ
    else
      if p2 = (5 : Int32) then
        c312_129 μ
      else
        if p2 = (9 : Int32) then
          c312_129 μ
        else
          rtZ (0 : Int32) μ
  else if p1 = (7 : Int32) then
    if p2 = (1 : Int32) then
      c312_250 μ
    else
      if p2 = (3 : Int32) then
        c312_250 μ
      else
        rtZ (0 : Int32) μ
  else if p1 = (8 : Int32) then
    if p2 = (1 : Int32) then
      rtZ (1 : Int32) μ
    else
      rtZ (0 : Int32) μ
  else if p1 = (9 : Int32) then
    if p2 = (1 : Int32) then
      c312_250 μ
    else
      if p2 = (3 : Int32) then
        c312_250 μ
      else
        rtZ (0 : Int32) μ
  else if p1 = (10 : Int32) then
    if p2 = (1 : Int32) then
      c312_250 μ
    else
      if p2 = (3 : Int32) then
        c312_250 μ
      else
        rtZ (0 : Int32) μ
  else if p1 = (11 : Int32) then
    (f311 p2 (1 : Int32) (2 : Int32) (3 : Int32) (4 : Int32) (5 : Int32) μ).bind fun r25 =>
    if r25.2 = 0 then
      (f311 p2 (15 : Int32) (16 : Int32) (20 : Int32) (21 : Int32) (21 : Int32) r25.1).bind fun r28 =>
      if r28.2 = 0 then
        rtZ (0 : Int32) r28.1
      else
        c312_175 r28.1
    else
      c312_175 r25.1
  else if p1 = (12 : Int32) then
    (f311 p2 (1 : Int32) (2 : Int32) (5 : Int32) (6 : Int32) (13 : Int32) μ).bind fun r32 =>
    rtZ r32.2 r32.1
  else if p1 = (13 : Int32) then
    if p2 = (1 : Int32) then
      c312_250 μ
    else
      if p2 = (3 : Int32) then
        c312_250 μ
      else
        rtZ (0 : Int32) μ
  else if p1 = (14 : Int32) then
    if p2 = (1 : Int32) then
      c312_250 μ
    else
      if p2 = (3 : Int32) then
        c312_250 μ
      else
        rtZ (0 : Int32) μ
  else if p1 = (15 : Int32) then
    (f311 p2 (1 : Int32) (2 : Int32) (3 : Int32) (9 : Int32) (11 : Int32) μ).bind fun r41 =>
    if r41.2 = 0 then
      if p2 = (12 : Int32) then
        c312_213 r41.1
      else
        rtZ (0 : Int32) r41.1
    else
      c312_213 r41.1
  else if p1 = (16 : Int32) then
    if p2 = (1 : Int32) then
      c312_250 μ
    else
      if p2 = (3 : Int32) then
        c312_250 μ
      else
        rtZ (0 : Int32) μ
  else if p1 = (17 : Int32) then
    if p2 = (1 : Int32) then
      rtZ (1 : Int32) μ
    else
      rtZ (0 : Int32) μ
  else if p1 = (18 : Int32) then
    if p2 = (1 : Int32) then
      c312_250 μ
    else
      if p2 = (3 : Int32) then
        c312_250 μ
      else
        rtZ (0 : Int32) μ
  else if p1 = (19 : Int32) then
    (f311 p2 (1 : Int32) (2 : Int32) (4 : Int32) (5 : Int32) (5 : Int32) μ).bind fun r54 =>
    rtZ r54.2 r54.1
  else 
    if p2 = (1 : Int32) then
      c312_250 μ
    else
      if p2 = (3 : Int32) then
        c312_250 μ
      else
        rtZ (0 : Int32) μ
theorem ok312 {L : Nat} (p1 : Int32) (p2 : Int32) (μ : Mem) (res : Mem × Int32) (h : f312 p1 p2 μ = some res) : Mx 312 [.int p1, .int p2] (mk L μ) (mk L res.1, some (.int res.2)) := by
  refine Mx_of ml_312 (by rw [mx_312]; exact Nat.le_of_ble_eq_true rfl) ?_
  show Sx 312 0 [(0, .int p1), (1, .int p2)] [] 0 0 (mk L μ) _
  unfold f312 at h
  refine sx_iload_n (i := 0) k312_0 rfl rfl ?_
  by_cases hb3 : p1 = (3 : Int32)
  · rw [if_pos hb3] at h
    refine sx_tableIn (off := 83) (tgt := 84) k312_1 (by rw [hb3]; decide) (by rw [hb3]; decide) (by rw [hb3]; rfl) (by decide) ?_
    refine sx_iload_n (i := 1) k312_84 rfl rfl ?_
    refine sx_iconst (v := 1) k312_85 (by decide) ?_
    refine sx_iconst (v := 3) k312_86 (by decide) ?_
    refine sx_iconst (v := 5) k312_87 (by decide) ?_
    refine sx_bipush (v := 6) k312_88 (by decide) ?_
    refine sx_bipush (v := 27) k312_90 (by decide) ?_
    obtain ⟨r1, e2, h⟩ := Option.bind_eq_some_iff.mp h
    refine cx_S (sk := []) (vs := [.int p2, .int (1 : Int32), .int (3 : Int32), .int (5 : Int32), .int (6 : Int32), .int (27 : Int32)]) st_312_311 k312_92 ow_312 cl_12_468 (by decide) rfl (Nat.le_of_ble_eq_true rfl) (ok311 p2 (1 : Int32) (3 : Int32) (5 : Int32) (6 : Int32) (27 : Int32) _ _ e2) (sk3 := [.int r1.2]) rfl rfl ?_
    exact cx_retz k312_95 rt_312 h
  · rw [if_neg hb3] at h
    by_cases hb6 : p1 = (4 : Int32)
    · rw [if_pos hb6] at h
      refine sx_tableIn (off := 239) (tgt := 240) k312_1 (by rw [hb6]; decide) (by rw [hb6]; decide) (by rw [hb6]; rfl) (by decide) ?_
      refine sx_iload_n (i := 1) k312_240 rfl rfl ?_
      refine sx_iconst (v := 1) k312_241 (by decide) ?_
      by_cases hb4 : p2 = (1 : Int32)
      · rw [if_pos hb4] at h
        refine sx_icmp_eq (tgt := 250) k312_242 (by decide) (fun _ => ?_) (fun q => absurd hb4 q)
        refine sx_pick (lo2 := []) [] rfl ?_
        exact c312_250_ok _ _ h
      · rw [if_neg hb4] at h
        refine sx_icmp_eq (tgt := 250) k312_242 (by decide) (fun q => absurd q hb4) (fun _ => ?_)
        refine sx_iload_n (i := 1) k312_245 rfl rfl ?_
        refine sx_iconst (v := 3) k312_246 (by decide) ?_
        by_cases hb5 : p2 = (3 : Int32)
        · rw [if_pos hb5] at h
          refine sx_icmp_ne (tgt := 254) k312_247 (by decide) (fun q => absurd hb5 q) (fun _ => ?_)
          refine sx_pick (lo2 := []) [] rfl ?_
          exact c312_250_ok _ _ h
        · rw [if_neg hb5] at h
          refine sx_icmp_ne (tgt := 254) k312_247 (by decide) (fun _ => ?_) (fun q => absurd q hb5)
          refine sx_iconst (v := 0) k312_254 (by decide) ?_
          exact cx_retz k312_255 rt_312 h
    · rw [if_neg hb6] at h
      by_cases hb9 : p1 = (5 : Int32)
      · rw [if_pos hb9] at h
        refine sx_tableIn (off := 95) (tgt := 96) k312_1 (by rw [hb9]; decide) (by rw [hb9]; decide) (by rw [hb9]; rfl) (by decide) ?_
        refine sx_iload_n (i := 1) k312_96 rfl rfl ?_
        refine sx_iconst (v := 5) k312_97 (by decide) ?_
        by_cases hb7 : p2 = (5 : Int32)
        · rw [if_pos hb7] at h
          refine sx_icmp_eq (tgt := 107) k312_98 (by decide) (fun _ => ?_) (fun q => absurd hb7 q)
          refine sx_pick (lo2 := []) [] rfl ?_
          exact c312_107_ok _ _ h
        · rw [if_neg hb7] at h
          refine sx_icmp_eq (tgt := 107) k312_98 (by decide) (fun q => absurd q hb7) (fun _ => ?_)
          refine sx_iload_n (i := 1) k312_101 rfl rfl ?_
          refine sx_bipush (v := 6) k312_102 (by decide) ?_
          by_cases hb8 : p2 = (6 : Int32)
          · rw [if_pos hb8] at h
            refine sx_icmp_ne (tgt := 111) k312_104 (by decide) (fun q => absurd hb8 q) (fun _ => ?_)
            refine sx_pick (lo2 := []) [] rfl ?_
            exact c312_107_ok _ _ h
          · rw [if_neg hb8] at h
            refine sx_icmp_ne (tgt := 111) k312_104 (by decide) (fun _ => ?_) (fun q => absurd q hb8)
            refine sx_iconst (v := 0) k312_111 (by decide) ?_
            exact cx_retz k312_112 rt_312 h
      · rw [if_neg hb9] at h
        by_cases hb13 : p1 = (6 : Int32)
        · rw [if_pos hb13] at h
          refine sx_tableIn (off := 112) (tgt := 113) k312_1 (by rw [hb13]; decide) (by rw [hb13]; decide) (by rw [hb13]; rfl) (by decide) ?_
          refine sx_iload_n (i := 1) k312_113 rfl rfl ?_
          refine sx_iconst (v := 2) k312_114 (by decide) ?_
          by_cases hb10 : p2 = (2 : Int32)
          · rw [if_pos hb10] at h
            refine sx_icmp_eq (tgt := 129) k312_115 (by decide) (fun _ => ?_) (fun q => absurd hb10 q)
            refine sx_pick (lo2 := []) [] rfl ?_
            exact c312_129_ok _ _ h
          · rw [if_neg hb10] at h
            refine sx_icmp_eq (tgt := 129) k312_115 (by decide) (fun q => absurd q hb10) (fun _ => ?_)
            refine sx_iload_n (i := 1) k312_118 rfl rfl ?_
            refine sx_iconst (v := 5) k312_119 (by decide) ?_
            by_cases hb11 : p2 = (5 : Int32)
            · rw [if_pos hb11] at h
              refine sx_icmp_eq (tgt := 129) k312_120 (by decide) (fun _ => ?_) (fun q => absurd hb11 q)
              refine sx_pick (lo2 := []) [] rfl ?_
              exact c312_129_ok _ _ h
            · rw [if_neg hb11] at h
              refine sx_icmp_eq (tgt := 129) k312_120 (by decide) (fun q => absurd q hb11) (fun _ => ?_)
              refine sx_iload_n (i := 1) k312_123 rfl rfl ?_
              refine sx_bipush (v := 9) k312_124 (by decide) ?_
              by_cases hb12 : p2 = (9 : Int32)
              · rw [if_pos hb12] at h
                refine sx_icmp_ne (tgt := 133) k312_126 (by decide) (fun q => absurd hb12 q) (fun _ => ?_)
                refine sx_pick (lo2 := []) [] rfl ?_
                exact c312_129_ok _ _ h
              · rw [if_neg hb12] at h
                refine sx_icmp_ne (tgt := 133) k312_126 (by decide) (fun _ => ?_) (fun q => absurd q hb12)
                refine sx_iconst (v := 0) k312_133 (by decide) ?_
                exact cx_retz k312_134 rt_312 h
        · rw [if_neg hb13] at h
          by_cases hb16 : p1 = (7 : Int32)
          · rw [if_pos hb16] at h
            refine sx_tableIn (off := 239) (tgt := 240) k312_1 (by rw [hb16]; decide) (by rw [hb16]; decide) (by rw [hb16]; rfl) (by decide) ?_
            refine sx_iload_n (i := 1) k312_240 rfl rfl ?_
            refine sx_iconst (v := 1) k312_241 (by decide) ?_
            by_cases hb14 : p2 = (1 : Int32)
            · rw [if_pos hb14] at h
              refine sx_icmp_eq (tgt := 250) k312_242 (by decide) (fun _ => ?_) (fun q => absurd hb14 q)
              refine sx_pick (lo2 := []) [] rfl ?_
              exact c312_250_ok _ _ h
            · rw [if_neg hb14] at h
              refine sx_icmp_eq (tgt := 250) k312_242 (by decide) (fun q => absurd q hb14) (fun _ => ?_)
              refine sx_iload_n (i := 1) k312_245 rfl rfl ?_
              refine sx_iconst (v := 3) k312_246 (by decide) ?_
              by_cases hb15 : p2 = (3 : Int32)
              · rw [if_pos hb15] at h
                refine sx_icmp_ne (tgt := 254) k312_247 (by decide) (fun q => absurd hb15 q) (fun _ => ?_)
                refine sx_pick (lo2 := []) [] rfl ?_
                exact c312_250_ok _ _ h
              · rw [if_neg hb15] at h
                refine sx_icmp_ne (tgt := 254) k312_247 (by decide) (fun _ => ?_) (fun q => absurd q hb15)
                refine sx_iconst (v := 0) k312_254 (by decide) ?_
                exact cx_retz k312_255 rt_312 h
          · rw [if_neg hb16] at h
            by_cases hb18 : p1 = (8 : Int32)
            · rw [if_pos hb18] at h
              refine sx_tableIn (off := 134) (tgt := 135) k312_1 (by rw [hb18]; decide) (by rw [hb18]; decide) (by rw [hb18]; rfl) (by decide) ?_
              refine sx_iload_n (i := 1) k312_135 rfl rfl ?_
              refine sx_iconst (v := 1) k312_136 (by decide) ?_
              by_cases hb17 : p2 = (1 : Int32)
              · rw [if_pos hb17] at h
                refine sx_icmp_ne (tgt := 144) k312_137 (by decide) (fun q => absurd hb17 q) (fun _ => ?_)
                refine sx_iconst (v := 1) k312_140 (by decide) ?_
                refine sx_goto (tgt := 145) k312_141 (by decide) ?_
                exact cx_retz k312_145 rt_312 h
              · rw [if_neg hb17] at h
                refine sx_icmp_ne (tgt := 144) k312_137 (by decide) (fun _ => ?_) (fun q => absurd q hb17)
                refine sx_iconst (v := 0) k312_144 (by decide) ?_
                exact cx_retz k312_145 rt_312 h
            · rw [if_neg hb18] at h
              by_cases hb21 : p1 = (9 : Int32)
              · rw [if_pos hb21] at h
                refine sx_tableIn (off := 239) (tgt := 240) k312_1 (by rw [hb21]; decide) (by rw [hb21]; decide) (by rw [hb21]; rfl) (by decide) ?_
                refine sx_iload_n (i := 1) k312_240 rfl rfl ?_
                refine sx_iconst (v := 1) k312_241 (by decide) ?_
                by_cases hb19 : p2 = (1 : Int32)
                · rw [if_pos hb19] at h
                  refine sx_icmp_eq (tgt := 250) k312_242 (by decide) (fun _ => ?_) (fun q => absurd hb19 q)
                  refine sx_pick (lo2 := []) [] rfl ?_
                  exact c312_250_ok _ _ h
                · rw [if_neg hb19] at h
                  refine sx_icmp_eq (tgt := 250) k312_242 (by decide) (fun q => absurd q hb19) (fun _ => ?_)
                  refine sx_iload_n (i := 1) k312_245 rfl rfl ?_
                  refine sx_iconst (v := 3) k312_246 (by decide) ?_
                  by_cases hb20 : p2 = (3 : Int32)
                  · rw [if_pos hb20] at h
                    refine sx_icmp_ne (tgt := 254) k312_247 (by decide) (fun q => absurd hb20 q) (fun _ => ?_)
                    refine sx_pick (lo2 := []) [] rfl ?_
                    exact c312_250_ok _ _ h
                  · rw [if_neg hb20] at h
                    refine sx_icmp_ne (tgt := 254) k312_247 (by decide) (fun _ => ?_) (fun q => absurd q hb20)
                    refine sx_iconst (v := 0) k312_254 (by decide) ?_
                    exact cx_retz k312_255 rt_312 h
              · rw [if_neg hb21] at h
                by_cases hb24 : p1 = (10 : Int32)
                · rw [if_pos hb24] at h
                  refine sx_tableIn (off := 239) (tgt := 240) k312_1 (by rw [hb24]; decide) (by rw [hb24]; decide) (by rw [hb24]; rfl) (by decide) ?_
                  refine sx_iload_n (i := 1) k312_240 rfl rfl ?_
                  refine sx_iconst (v := 1) k312_241 (by decide) ?_
                  by_cases hb22 : p2 = (1 : Int32)
                  · rw [if_pos hb22] at h
                    refine sx_icmp_eq (tgt := 250) k312_242 (by decide) (fun _ => ?_) (fun q => absurd hb22 q)
                    refine sx_pick (lo2 := []) [] rfl ?_
                    exact c312_250_ok _ _ h
                  · rw [if_neg hb22] at h
                    refine sx_icmp_eq (tgt := 250) k312_242 (by decide) (fun q => absurd q hb22) (fun _ => ?_)
                    refine sx_iload_n (i := 1) k312_245 rfl rfl ?_
                    refine sx_iconst (v := 3) k312_246 (by decide) ?_
                    by_cases hb23 : p2 = (3 : Int32)
                    · rw [if_pos hb23] at h
                      refine sx_icmp_ne (tgt := 254) k312_247 (by decide) (fun q => absurd hb23 q) (fun _ => ?_)
                      refine sx_pick (lo2 := []) [] rfl ?_
                      exact c312_250_ok _ _ h
                    · rw [if_neg hb23] at h
                      refine sx_icmp_ne (tgt := 254) k312_247 (by decide) (fun _ => ?_) (fun q => absurd q hb23)
                      refine sx_iconst (v := 0) k312_254 (by decide) ?_
                      exact cx_retz k312_255 rt_312 h
                · rw [if_neg hb24] at h
                  by_cases hb31 : p1 = (11 : Int32)
                  · rw [if_pos hb31] at h
                    refine sx_tableIn (off := 145) (tgt := 146) k312_1 (by rw [hb31]; decide) (by rw [hb31]; decide) (by rw [hb31]; rfl) (by decide) ?_
                    refine sx_iload_n (i := 1) k312_146 rfl rfl ?_
                    refine sx_iconst (v := 1) k312_147 (by decide) ?_
                    refine sx_iconst (v := 2) k312_148 (by decide) ?_
                    refine sx_iconst (v := 3) k312_149 (by decide) ?_
                    refine sx_iconst (v := 4) k312_150 (by decide) ?_
                    refine sx_iconst (v := 5) k312_151 (by decide) ?_
                    obtain ⟨r25, e26, h⟩ := Option.bind_eq_some_iff.mp h
                    refine cx_S (sk := []) (vs := [.int p2, .int (1 : Int32), .int (2 : Int32), .int (3 : Int32), .int (4 : Int32), .int (5 : Int32)]) st_312_311 k312_152 ow_312 cl_12_468 (by decide) rfl (Nat.le_of_ble_eq_true rfl) (ok311 p2 (1 : Int32) (2 : Int32) (3 : Int32) (4 : Int32) (5 : Int32) _ _ e26) (sk3 := [.int r25.2]) rfl rfl ?_
                    by_cases hb27 : r25.2 = 0
                    · rw [if_pos hb27] at h
                      refine sx_if_ne (tgt := 175) k312_155 (by decide) (fun q => absurd hb27 q) (fun _ => ?_)
                      refine sx_iload_n (i := 1) k312_158 rfl rfl ?_
                      refine sx_bipush (v := 15) k312_159 (by decide) ?_
                      refine sx_bipush (v := 16) k312_161 (by decide) ?_
                      refine sx_bipush (v := 20) k312_163 (by decide) ?_
                      refine sx_bipush (v := 21) k312_165 (by decide) ?_
                      refine sx_bipush (v := 21) k312_167 (by decide) ?_
                      obtain ⟨r28, e29, h⟩ := Option.bind_eq_some_iff.mp h
                      refine cx_S (sk := []) (vs := [.int p2, .int (15 : Int32), .int (16 : Int32), .int (20 : Int32), .int (21 : Int32), .int (21 : Int32)]) st_312_311 k312_169 ow_312 cl_12_468 (by decide) rfl (Nat.le_of_ble_eq_true rfl) (ok311 p2 (15 : Int32) (16 : Int32) (20 : Int32) (21 : Int32) (21 : Int32) _ _ e29) (sk3 := [.int r28.2]) rfl rfl ?_
                      by_cases hb30 : r28.2 = 0
                      · rw [if_pos hb30] at h
                        refine sx_if_eq (tgt := 179) k312_172 (by decide) (fun _ => ?_) (fun q => absurd hb30 q)
                        refine sx_iconst (v := 0) k312_179 (by decide) ?_
                        exact cx_retz k312_180 rt_312 h
                      · rw [if_neg hb30] at h
                        refine sx_if_eq (tgt := 179) k312_172 (by decide) (fun q => absurd q hb30) (fun _ => ?_)
                        refine sx_pick (lo2 := []) [] rfl ?_
                        exact c312_175_ok _ _ h
                    · rw [if_neg hb27] at h
                      refine sx_if_ne (tgt := 175) k312_155 (by decide) (fun _ => ?_) (fun q => absurd q hb27)
                      refine sx_pick (lo2 := []) [] rfl ?_
                      exact c312_175_ok _ _ h
                  · rw [if_neg hb31] at h
                    by_cases hb34 : p1 = (12 : Int32)
                    · rw [if_pos hb34] at h
                      refine sx_tableIn (off := 180) (tgt := 181) k312_1 (by rw [hb34]; decide) (by rw [hb34]; decide) (by rw [hb34]; rfl) (by decide) ?_
                      refine sx_iload_n (i := 1) k312_181 rfl rfl ?_
                      refine sx_iconst (v := 1) k312_182 (by decide) ?_
                      refine sx_iconst (v := 2) k312_183 (by decide) ?_
                      refine sx_iconst (v := 5) k312_184 (by decide) ?_
                      refine sx_bipush (v := 6) k312_185 (by decide) ?_
                      refine sx_bipush (v := 13) k312_187 (by decide) ?_
                      obtain ⟨r32, e33, h⟩ := Option.bind_eq_some_iff.mp h
                      refine cx_S (sk := []) (vs := [.int p2, .int (1 : Int32), .int (2 : Int32), .int (5 : Int32), .int (6 : Int32), .int (13 : Int32)]) st_312_311 k312_189 ow_312 cl_12_468 (by decide) rfl (Nat.le_of_ble_eq_true rfl) (ok311 p2 (1 : Int32) (2 : Int32) (5 : Int32) (6 : Int32) (13 : Int32) _ _ e33) (sk3 := [.int r32.2]) rfl rfl ?_
                      exact cx_retz k312_192 rt_312 h
                    · rw [if_neg hb34] at h
                      by_cases hb37 : p1 = (13 : Int32)
                      · rw [if_pos hb37] at h
                        refine sx_tableIn (off := 239) (tgt := 240) k312_1 (by rw [hb37]; decide) (by rw [hb37]; decide) (by rw [hb37]; rfl) (by decide) ?_
                        refine sx_iload_n (i := 1) k312_240 rfl rfl ?_
                        refine sx_iconst (v := 1) k312_241 (by decide) ?_
                        by_cases hb35 : p2 = (1 : Int32)
                        · rw [if_pos hb35] at h
                          refine sx_icmp_eq (tgt := 250) k312_242 (by decide) (fun _ => ?_) (fun q => absurd hb35 q)
                          refine sx_pick (lo2 := []) [] rfl ?_
                          exact c312_250_ok _ _ h
                        · rw [if_neg hb35] at h
                          refine sx_icmp_eq (tgt := 250) k312_242 (by decide) (fun q => absurd q hb35) (fun _ => ?_)
                          refine sx_iload_n (i := 1) k312_245 rfl rfl ?_
                          refine sx_iconst (v := 3) k312_246 (by decide) ?_
                          by_cases hb36 : p2 = (3 : Int32)
                          · rw [if_pos hb36] at h
                            refine sx_icmp_ne (tgt := 254) k312_247 (by decide) (fun q => absurd hb36 q) (fun _ => ?_)
                            refine sx_pick (lo2 := []) [] rfl ?_
                            exact c312_250_ok _ _ h
                          · rw [if_neg hb36] at h
                            refine sx_icmp_ne (tgt := 254) k312_247 (by decide) (fun _ => ?_) (fun q => absurd q hb36)
                            refine sx_iconst (v := 0) k312_254 (by decide) ?_
                            exact cx_retz k312_255 rt_312 h
                      · rw [if_neg hb37] at h
                        by_cases hb40 : p1 = (14 : Int32)
                        · rw [if_pos hb40] at h
                          refine sx_tableIn (off := 239) (tgt := 240) k312_1 (by rw [hb40]; decide) (by rw [hb40]; decide) (by rw [hb40]; rfl) (by decide) ?_
                          refine sx_iload_n (i := 1) k312_240 rfl rfl ?_
                          refine sx_iconst (v := 1) k312_241 (by decide) ?_
                          by_cases hb38 : p2 = (1 : Int32)
                          · rw [if_pos hb38] at h
                            refine sx_icmp_eq (tgt := 250) k312_242 (by decide) (fun _ => ?_) (fun q => absurd hb38 q)
                            refine sx_pick (lo2 := []) [] rfl ?_
                            exact c312_250_ok _ _ h
                          · rw [if_neg hb38] at h
                            refine sx_icmp_eq (tgt := 250) k312_242 (by decide) (fun q => absurd q hb38) (fun _ => ?_)
                            refine sx_iload_n (i := 1) k312_245 rfl rfl ?_
                            refine sx_iconst (v := 3) k312_246 (by decide) ?_
                            by_cases hb39 : p2 = (3 : Int32)
                            · rw [if_pos hb39] at h
                              refine sx_icmp_ne (tgt := 254) k312_247 (by decide) (fun q => absurd hb39 q) (fun _ => ?_)
                              refine sx_pick (lo2 := []) [] rfl ?_
                              exact c312_250_ok _ _ h
                            · rw [if_neg hb39] at h
                              refine sx_icmp_ne (tgt := 254) k312_247 (by decide) (fun _ => ?_) (fun q => absurd q hb39)
                              refine sx_iconst (v := 0) k312_254 (by decide) ?_
                              exact cx_retz k312_255 rt_312 h
                        · rw [if_neg hb40] at h
                          by_cases hb45 : p1 = (15 : Int32)
                          · rw [if_pos hb45] at h
                            refine sx_tableIn (off := 192) (tgt := 193) k312_1 (by rw [hb45]; decide) (by rw [hb45]; decide) (by rw [hb45]; rfl) (by decide) ?_
                            refine sx_iload_n (i := 1) k312_193 rfl rfl ?_
                            refine sx_iconst (v := 1) k312_194 (by decide) ?_
                            refine sx_iconst (v := 2) k312_195 (by decide) ?_
                            refine sx_iconst (v := 3) k312_196 (by decide) ?_
                            refine sx_bipush (v := 9) k312_197 (by decide) ?_
                            refine sx_bipush (v := 11) k312_199 (by decide) ?_
                            obtain ⟨r41, e42, h⟩ := Option.bind_eq_some_iff.mp h
                            refine cx_S (sk := []) (vs := [.int p2, .int (1 : Int32), .int (2 : Int32), .int (3 : Int32), .int (9 : Int32), .int (11 : Int32)]) st_312_311 k312_201 ow_312 cl_12_468 (by decide) rfl (Nat.le_of_ble_eq_true rfl) (ok311 p2 (1 : Int32) (2 : Int32) (3 : Int32) (9 : Int32) (11 : Int32) _ _ e42) (sk3 := [.int r41.2]) rfl rfl ?_
                            by_cases hb43 : r41.2 = 0
                            · rw [if_pos hb43] at h
                              refine sx_if_ne (tgt := 213) k312_204 (by decide) (fun q => absurd hb43 q) (fun _ => ?_)
                              refine sx_iload_n (i := 1) k312_207 rfl rfl ?_
                              refine sx_bipush (v := 12) k312_208 (by decide) ?_
                              by_cases hb44 : p2 = (12 : Int32)
                              · rw [if_pos hb44] at h
                                refine sx_icmp_ne (tgt := 217) k312_210 (by decide) (fun q => absurd hb44 q) (fun _ => ?_)
                                refine sx_pick (lo2 := []) [] rfl ?_
                                exact c312_213_ok _ _ h
                              · rw [if_neg hb44] at h
                                refine sx_icmp_ne (tgt := 217) k312_210 (by decide) (fun _ => ?_) (fun q => absurd q hb44)
                                refine sx_iconst (v := 0) k312_217 (by decide) ?_
                                exact cx_retz k312_218 rt_312 h
                            · rw [if_neg hb43] at h
                              refine sx_if_ne (tgt := 213) k312_204 (by decide) (fun _ => ?_) (fun q => absurd q hb43)
                              refine sx_pick (lo2 := []) [] rfl ?_
                              exact c312_213_ok _ _ h
                          · rw [if_neg hb45] at h
                            by_cases hb48 : p1 = (16 : Int32)
                            · rw [if_pos hb48] at h
                              refine sx_tableIn (off := 239) (tgt := 240) k312_1 (by rw [hb48]; decide) (by rw [hb48]; decide) (by rw [hb48]; rfl) (by decide) ?_
                              refine sx_iload_n (i := 1) k312_240 rfl rfl ?_
                              refine sx_iconst (v := 1) k312_241 (by decide) ?_
                              by_cases hb46 : p2 = (1 : Int32)
                              · rw [if_pos hb46] at h
                                refine sx_icmp_eq (tgt := 250) k312_242 (by decide) (fun _ => ?_) (fun q => absurd hb46 q)
                                refine sx_pick (lo2 := []) [] rfl ?_
                                exact c312_250_ok _ _ h
                              · rw [if_neg hb46] at h
                                refine sx_icmp_eq (tgt := 250) k312_242 (by decide) (fun q => absurd q hb46) (fun _ => ?_)
                                refine sx_iload_n (i := 1) k312_245 rfl rfl ?_
                                refine sx_iconst (v := 3) k312_246 (by decide) ?_
                                by_cases hb47 : p2 = (3 : Int32)
                                · rw [if_pos hb47] at h
                                  refine sx_icmp_ne (tgt := 254) k312_247 (by decide) (fun q => absurd hb47 q) (fun _ => ?_)
                                  refine sx_pick (lo2 := []) [] rfl ?_
                                  exact c312_250_ok _ _ h
                                · rw [if_neg hb47] at h
                                  refine sx_icmp_ne (tgt := 254) k312_247 (by decide) (fun _ => ?_) (fun q => absurd q hb47)
                                  refine sx_iconst (v := 0) k312_254 (by decide) ?_
                                  exact cx_retz k312_255 rt_312 h
                            · rw [if_neg hb48] at h
                              by_cases hb50 : p1 = (17 : Int32)
                              · rw [if_pos hb50] at h
                                refine sx_tableIn (off := 218) (tgt := 219) k312_1 (by rw [hb50]; decide) (by rw [hb50]; decide) (by rw [hb50]; rfl) (by decide) ?_
                                refine sx_iload_n (i := 1) k312_219 rfl rfl ?_
                                refine sx_iconst (v := 1) k312_220 (by decide) ?_
                                by_cases hb49 : p2 = (1 : Int32)
                                · rw [if_pos hb49] at h
                                  refine sx_icmp_ne (tgt := 228) k312_221 (by decide) (fun q => absurd hb49 q) (fun _ => ?_)
                                  refine sx_iconst (v := 1) k312_224 (by decide) ?_
                                  refine sx_goto (tgt := 229) k312_225 (by decide) ?_
                                  exact cx_retz k312_229 rt_312 h
                                · rw [if_neg hb49] at h
                                  refine sx_icmp_ne (tgt := 228) k312_221 (by decide) (fun _ => ?_) (fun q => absurd q hb49)
                                  refine sx_iconst (v := 0) k312_228 (by decide) ?_
                                  exact cx_retz k312_229 rt_312 h
                              · rw [if_neg hb50] at h
                                by_cases hb53 : p1 = (18 : Int32)
                                · rw [if_pos hb53] at h
                                  refine sx_tableIn (off := 239) (tgt := 240) k312_1 (by rw [hb53]; decide) (by rw [hb53]; decide) (by rw [hb53]; rfl) (by decide) ?_
                                  refine sx_iload_n (i := 1) k312_240 rfl rfl ?_
                                  refine sx_iconst (v := 1) k312_241 (by decide) ?_
                                  by_cases hb51 : p2 = (1 : Int32)
                                  · rw [if_pos hb51] at h
                                    refine sx_icmp_eq (tgt := 250) k312_242 (by decide) (fun _ => ?_) (fun q => absurd hb51 q)
                                    refine sx_pick (lo2 := []) [] rfl ?_
                                    exact c312_250_ok _ _ h
                                  · rw [if_neg hb51] at h
                                    refine sx_icmp_eq (tgt := 250) k312_242 (by decide) (fun q => absurd q hb51) (fun _ => ?_)
                                    refine sx_iload_n (i := 1) k312_245 rfl rfl ?_
                                    refine sx_iconst (v := 3) k312_246 (by decide) ?_
                                    by_cases hb52 : p2 = (3 : Int32)
                                    · rw [if_pos hb52] at h
                                      refine sx_icmp_ne (tgt := 254) k312_247 (by decide) (fun q => absurd hb52 q) (fun _ => ?_)
                                      refine sx_pick (lo2 := []) [] rfl ?_
                                      exact c312_250_ok _ _ h
                                    · rw [if_neg hb52] at h
                                      refine sx_icmp_ne (tgt := 254) k312_247 (by decide) (fun _ => ?_) (fun q => absurd q hb52)
                                      refine sx_iconst (v := 0) k312_254 (by decide) ?_
                                      exact cx_retz k312_255 rt_312 h
                                · rw [if_neg hb53] at h
                                  by_cases hb56 : p1 = (19 : Int32)
                                  · rw [if_pos hb56] at h
                                    refine sx_tableIn (off := 229) (tgt := 230) k312_1 (by rw [hb56]; decide) (by rw [hb56]; decide) (by rw [hb56]; rfl) (by decide) ?_
                                    refine sx_iload_n (i := 1) k312_230 rfl rfl ?_
                                    refine sx_iconst (v := 1) k312_231 (by decide) ?_
                                    refine sx_iconst (v := 2) k312_232 (by decide) ?_
                                    refine sx_iconst (v := 4) k312_233 (by decide) ?_
                                    refine sx_iconst (v := 5) k312_234 (by decide) ?_
                                    refine sx_iconst (v := 5) k312_235 (by decide) ?_
                                    obtain ⟨r54, e55, h⟩ := Option.bind_eq_some_iff.mp h
                                    refine cx_S (sk := []) (vs := [.int p2, .int (1 : Int32), .int (2 : Int32), .int (4 : Int32), .int (5 : Int32), .int (5 : Int32)]) st_312_311 k312_236 ow_312 cl_12_468 (by decide) rfl (Nat.le_of_ble_eq_true rfl) (ok311 p2 (1 : Int32) (2 : Int32) (4 : Int32) (5 : Int32) (5 : Int32) _ _ e55) (sk3 := [.int r54.2]) rfl rfl ?_
                                    exact cx_retz k312_239 rt_312 h
                                  · rw [if_neg hb56] at h
                                    refine sx_tableOut (tgt := 240) k312_1 (sw_out (n := 17) (fun j hj => ?_)) (by decide) ?_
                                    · intro hj2
                                      exact sw_no [(3 : Int32), (4 : Int32), (5 : Int32), (6 : Int32), (7 : Int32), (8 : Int32), (9 : Int32), (10 : Int32), (11 : Int32), (12 : Int32), (13 : Int32), (14 : Int32), (15 : Int32), (16 : Int32), (17 : Int32), (18 : Int32), (19 : Int32)] (by decide) hj hj2 ⟨hb3, hb6, hb9, hb13, hb16, hb18, hb21, hb24, hb31, hb34, hb37, hb40, hb45, hb48, hb50, hb53, hb56, trivial⟩
                                    ·
                                      refine sx_iload_n (i := 1) k312_240 rfl rfl ?_
                                      refine sx_iconst (v := 1) k312_241 (by decide) ?_
                                      by_cases hb57 : p2 = (1 : Int32)
                                      · rw [if_pos hb57] at h
                                        refine sx_icmp_eq (tgt := 250) k312_242 (by decide) (fun _ => ?_) (fun q => absurd hb57 q)
                                        refine sx_pick (lo2 := []) [] rfl ?_
                                        exact c312_250_ok _ _ h
                                      · rw [if_neg hb57] at h
                                        refine sx_icmp_eq (tgt := 250) k312_242 (by decide) (fun q => absurd q hb57) (fun _ => ?_)
                                        refine sx_iload_n (i := 1) k312_245 rfl rfl ?_
                                        refine sx_iconst (v := 3) k312_246 (by decide) ?_
                                        by_cases hb58 : p2 = (3 : Int32)
                                        · rw [if_pos hb58] at h
                                          refine sx_icmp_ne (tgt := 254) k312_247 (by decide) (fun q => absurd hb58 q) (fun _ => ?_)
                                          refine sx_pick (lo2 := []) [] rfl ?_
                                          exact c312_250_ok _ _ h
                                        · rw [if_neg hb58] at h
                                          refine sx_icmp_ne (tgt := 254) k312_247 (by decide) (fun _ => ?_) (fun q => absurd q hb58)
                                          refine sx_iconst (v := 0) k312_254 (by decide) ?_
                                          exact cx_retz k312_255 rt_312 h
theorem k315_0 : decode (gb 315) 0 = .ok (.aload_n 0, 1) := by decide +kernel
theorem k315_1 : decode (gb 315) 1 = .ok (.getfield 167, 3) := by decide +kernel
theorem k315_4 : decode (gb 315) 4 = .ok (.astore 4, 2) := by decide +kernel
theorem k315_6 : decode (gb 315) 6 = .ok (.iload_n 3, 1) := by decide +kernel
theorem k315_7 : decode (gb 315) 7 = .ok (.ifCond .le 11, 3) := by decide +kernel
theorem k315_10 : decode (gb 315) 10 = .ok (.aload 4, 2) := by decide +kernel
theorem k315_12 : decode (gb 315) 12 = .ok (.bipush 11, 2) := by decide +kernel
theorem k315_14 : decode (gb 315) 14 = .ok (.iaload, 1) := by decide +kernel
theorem k315_15 : decode (gb 315) 15 = .ok (.goto 4, 3) := by decide +kernel
theorem k315_18 : decode (gb 315) 18 = .ok (.iconst 0, 1) := by decide +kernel
theorem k315_19 : decode (gb 315) 19 = .ok (.istore 5, 2) := by decide +kernel
theorem k315_21 : decode (gb 315) 21 = .ok (.sipush 256, 3) := by decide +kernel
theorem k315_24 : decode (gb 315) 24 = .ok (.iload_n 1, 1) := by decide +kernel
theorem k315_25 : decode (gb 315) 25 = .ok (.imul, 1) := by decide +kernel
theorem k315_26 : decode (gb 315) 26 = .ok (.iload_n 2, 1) := by decide +kernel
theorem k315_27 : decode (gb 315) 27 = .ok (.iadd, 1) := by decide +kernel
theorem k315_28 : decode (gb 315) 28 = .ok (.lookupswitch 553 #[(769, 356), (1538, 262), (1541, 303), (1545, 333), (2049, 409), (2817, 188), (2818, 188), (2819, 188), (2820, 459), (2821, 477), (2831, 488), (2832, 188), (3077, 420), (3085, 188), (3843, 519), (3849, 530), (3851, 542), (3852, 499), (4353, 188), (4865, 432), (5121, 198), (5123, 229)], 188) := by decide +kernel
theorem k315_216 : decode (gb 315) 216 = .ok (.iload_n 3, 1) := by decide +kernel
theorem k315_217 : decode (gb 315) 217 = .ok (.ifCond .ne 7, 3) := by decide +kernel
theorem k315_220 : decode (gb 315) 220 = .ok (.iconst 1, 1) := by decide +kernel
theorem k315_221 : decode (gb 315) 221 = .ok (.goto 4, 3) := by decide +kernel
theorem k315_224 : decode (gb 315) 224 = .ok (.iconst 0, 1) := by decide +kernel
theorem k315_225 : decode (gb 315) 225 = .ok (.ireturn, 1) := by decide +kernel
theorem k315_226 : decode (gb 315) 226 = .ok (.iload_n 3, 1) := by decide +kernel
theorem k315_227 : decode (gb 315) 227 = .ok (.ifCond .le 28, 3) := by decide +kernel
theorem k315_230 : decode (gb 315) 230 = .ok (.iload 5, 2) := by decide +kernel
theorem k315_232 : decode (gb 315) 232 = .ok (.iconst 1, 1) := by decide +kernel
theorem k315_233 : decode (gb 315) 233 = .ok (.if_icmp .lt 22, 3) := by decide +kernel
theorem k315_236 : decode (gb 315) 236 = .ok (.iload 5, 2) := by decide +kernel
theorem k315_238 : decode (gb 315) 238 = .ok (.bipush 8, 2) := by decide +kernel
theorem k315_240 : decode (gb 315) 240 = .ok (.if_icmp .gt 15, 3) := by decide +kernel
theorem k315_243 : decode (gb 315) 243 = .ok (.iload_n 3, 1) := by decide +kernel
theorem k315_244 : decode (gb 315) 244 = .ok (.iconst 1, 1) := by decide +kernel
theorem k315_245 : decode (gb 315) 245 = .ok (.iload 5, 2) := by decide +kernel
theorem k315_247 : decode (gb 315) 247 = .ok (.iadd, 1) := by decide +kernel
theorem k315_248 : decode (gb 315) 248 = .ok (.if_icmp .ne 7, 3) := by decide +kernel
theorem k315_251 : decode (gb 315) 251 = .ok (.iconst 1, 1) := by decide +kernel
theorem k315_252 : decode (gb 315) 252 = .ok (.goto 4, 3) := by decide +kernel
theorem k315_255 : decode (gb 315) 255 = .ok (.iconst 0, 1) := by decide +kernel
theorem k315_256 : decode (gb 315) 256 = .ok (.ireturn, 1) := by decide +kernel
theorem k315_257 : decode (gb 315) 257 = .ok (.iload_n 3, 1) := by decide +kernel
theorem k315_258 : decode (gb 315) 258 = .ok (.ifCond .le 30, 3) := by decide +kernel
theorem k315_261 : decode (gb 315) 261 = .ok (.iload 5, 2) := by decide +kernel
theorem k315_263 : decode (gb 315) 263 = .ok (.iconst 1, 1) := by decide +kernel
theorem k315_264 : decode (gb 315) 264 = .ok (.if_icmp .lt 24, 3) := by decide +kernel
theorem k315_267 : decode (gb 315) 267 = .ok (.iload 5, 2) := by decide +kernel
theorem k315_269 : decode (gb 315) 269 = .ok (.bipush 6, 2) := by decide +kernel
theorem k315_271 : decode (gb 315) 271 = .ok (.if_icmp .gt 17, 3) := by decide +kernel
theorem k315_274 : decode (gb 315) 274 = .ok (.iload_n 3, 1) := by decide +kernel
theorem k315_275 : decode (gb 315) 275 = .ok (.iconst 1, 1) := by decide +kernel
theorem k315_276 : decode (gb 315) 276 = .ok (.iconst 5, 1) := by decide +kernel
theorem k315_277 : decode (gb 315) 277 = .ok (.iload 5, 2) := by decide +kernel
theorem k315_279 : decode (gb 315) 279 = .ok (.imul, 1) := by decide +kernel
theorem k315_280 : decode (gb 315) 280 = .ok (.iadd, 1) := by decide +kernel
theorem k315_281 : decode (gb 315) 281 = .ok (.if_icmp .ne 7, 3) := by decide +kernel
theorem k315_284 : decode (gb 315) 284 = .ok (.iconst 1, 1) := by decide +kernel
theorem k315_285 : decode (gb 315) 285 = .ok (.goto 4, 3) := by decide +kernel
theorem k315_288 : decode (gb 315) 288 = .ok (.iconst 0, 1) := by decide +kernel
theorem k315_289 : decode (gb 315) 289 = .ok (.ireturn, 1) := by decide +kernel
theorem k315_290 : decode (gb 315) 290 = .ok (.iload_n 3, 1) := by decide +kernel
theorem k315_291 : decode (gb 315) 291 = .ok (.iconst 3, 1) := by decide +kernel
theorem k315_292 : decode (gb 315) 292 = .ok (.if_icmp .lt 37, 3) := by decide +kernel
theorem k315_295 : decode (gb 315) 295 = .ok (.aload 4, 2) := by decide +kernel
theorem k315_297 : decode (gb 315) 297 = .ok (.bipush 13, 2) := by decide +kernel
theorem k315_299 : decode (gb 315) 299 = .ok (.iaload, 1) := by decide +kernel
theorem k315_300 : decode (gb 315) 300 = .ok (.iconst 1, 1) := by decide +kernel
theorem k315_301 : decode (gb 315) 301 = .ok (.if_icmp .lt 28, 3) := by decide +kernel
theorem k315_304 : decode (gb 315) 304 = .ok (.aload 4, 2) := by decide +kernel
theorem k315_306 : decode (gb 315) 306 = .ok (.bipush 13, 2) := by decide +kernel
theorem k315_308 : decode (gb 315) 308 = .ok (.iaload, 1) := by decide +kernel
theorem k315_309 : decode (gb 315) 309 = .ok (.bipush 32, 2) := by decide +kernel
theorem k315_311 : decode (gb 315) 311 = .ok (.if_icmp .gt 18, 3) := by decide +kernel
theorem k315_314 : decode (gb 315) 314 = .ok (.iload_n 3, 1) := by decide +kernel
theorem k315_315 : decode (gb 315) 315 = .ok (.iconst 3, 1) := by decide +kernel
theorem k315_316 : decode (gb 315) 316 = .ok (.aload 4, 2) := by decide +kernel
theorem k315_318 : decode (gb 315) 318 = .ok (.bipush 13, 2) := by decide +kernel
theorem k315_320 : decode (gb 315) 320 = .ok (.iaload, 1) := by decide +kernel
theorem k315_321 : decode (gb 315) 321 = .ok (.iadd, 1) := by decide +kernel
theorem k315_322 : decode (gb 315) 322 = .ok (.if_icmp .ne 7, 3) := by decide +kernel
theorem k315_325 : decode (gb 315) 325 = .ok (.iconst 1, 1) := by decide +kernel
theorem k315_326 : decode (gb 315) 326 = .ok (.goto 4, 3) := by decide +kernel
theorem k315_329 : decode (gb 315) 329 = .ok (.iconst 0, 1) := by decide +kernel
theorem k315_330 : decode (gb 315) 330 = .ok (.ireturn, 1) := by decide +kernel
theorem k315_331 : decode (gb 315) 331 = .ok (.iload_n 3, 1) := by decide +kernel
theorem k315_332 : decode (gb 315) 332 = .ok (.iconst 3, 1) := by decide +kernel
theorem k315_333 : decode (gb 315) 333 = .ok (.if_icmp .ne 26, 3) := by decide +kernel
theorem k315_336 : decode (gb 315) 336 = .ok (.aload 4, 2) := by decide +kernel
theorem k315_338 : decode (gb 315) 338 = .ok (.bipush 13, 2) := by decide +kernel
theorem k315_340 : decode (gb 315) 340 = .ok (.iaload, 1) := by decide +kernel
theorem k315_341 : decode (gb 315) 341 = .ok (.iconst 1, 1) := by decide +kernel
theorem k315_342 : decode (gb 315) 342 = .ok (.if_icmp .lt 17, 3) := by decide +kernel
theorem k315_345 : decode (gb 315) 345 = .ok (.aload 4, 2) := by decide +kernel
theorem k315_347 : decode (gb 315) 347 = .ok (.bipush 13, 2) := by decide +kernel
theorem k315_349 : decode (gb 315) 349 = .ok (.iaload, 1) := by decide +kernel
theorem k315_350 : decode (gb 315) 350 = .ok (.bipush 64, 2) := by decide +kernel
theorem k315_352 : decode (gb 315) 352 = .ok (.if_icmp .gt 7, 3) := by decide +kernel
theorem k315_355 : decode (gb 315) 355 = .ok (.iconst 1, 1) := by decide +kernel
theorem k315_356 : decode (gb 315) 356 = .ok (.goto 4, 3) := by decide +kernel
theorem k315_359 : decode (gb 315) 359 = .ok (.iconst 0, 1) := by decide +kernel
theorem k315_360 : decode (gb 315) 360 = .ok (.ireturn, 1) := by decide +kernel
theorem k315_361 : decode (gb 315) 361 = .ok (.iload_n 3, 1) := by decide +kernel
theorem k315_362 : decode (gb 315) 362 = .ok (.iconst 4, 1) := by decide +kernel
theorem k315_363 : decode (gb 315) 363 = .ok (.if_icmp .ne 19, 3) := by decide +kernel
theorem k315_366 : decode (gb 315) 366 = .ok (.aload_n 0, 1) := by decide +kernel
theorem k315_367 : decode (gb 315) 367 = .ok (.aload 4, 2) := by decide +kernel
theorem k315_369 : decode (gb 315) 369 = .ok (.bipush 13, 2) := by decide +kernel
theorem k315_371 : decode (gb 315) 371 = .ok (.invokevirtual 472, 3) := by decide +kernel
theorem k315_374 : decode (gb 315) 374 = .ok (.iconst 1, 1) := by decide +kernel
theorem k315_375 : decode (gb 315) 375 = .ok (.if_icmp .lt 7, 3) := by decide +kernel
theorem k315_378 : decode (gb 315) 378 = .ok (.iconst 1, 1) := by decide +kernel
theorem k315_379 : decode (gb 315) 379 = .ok (.goto 4, 3) := by decide +kernel
theorem k315_382 : decode (gb 315) 382 = .ok (.iconst 0, 1) := by decide +kernel
theorem k315_383 : decode (gb 315) 383 = .ok (.ireturn, 1) := by decide +kernel
theorem k315_384 : decode (gb 315) 384 = .ok (.iload_n 3, 1) := by decide +kernel
theorem k315_385 : decode (gb 315) 385 = .ok (.iconst 4, 1) := by decide +kernel
theorem k315_386 : decode (gb 315) 386 = .ok (.if_icmp .lt 49, 3) := by decide +kernel
theorem k315_389 : decode (gb 315) 389 = .ok (.aload_n 0, 1) := by decide +kernel
theorem k315_390 : decode (gb 315) 390 = .ok (.aload 4, 2) := by decide +kernel
theorem k315_392 : decode (gb 315) 392 = .ok (.bipush 12, 2) := by decide +kernel
theorem k315_394 : decode (gb 315) 394 = .ok (.invokevirtual 472, 3) := by decide +kernel
theorem k315_397 : decode (gb 315) 397 = .ok (.iconst 1, 1) := by decide +kernel
theorem k315_398 : decode (gb 315) 398 = .ok (.if_icmp .lt 37, 3) := by decide +kernel
theorem k315_401 : decode (gb 315) 401 = .ok (.aload 4, 2) := by decide +kernel
theorem k315_403 : decode (gb 315) 403 = .ok (.bipush 14, 2) := by decide +kernel
theorem k315_405 : decode (gb 315) 405 = .ok (.iaload, 1) := by decide +kernel
theorem k315_406 : decode (gb 315) 406 = .ok (.iconst 1, 1) := by decide +kernel
theorem k315_407 : decode (gb 315) 407 = .ok (.if_icmp .lt 28, 3) := by decide +kernel
theorem k315_410 : decode (gb 315) 410 = .ok (.aload 4, 2) := by decide +kernel
theorem k315_412 : decode (gb 315) 412 = .ok (.bipush 14, 2) := by decide +kernel
theorem k315_414 : decode (gb 315) 414 = .ok (.iaload, 1) := by decide +kernel
theorem k315_415 : decode (gb 315) 415 = .ok (.bipush 8, 2) := by decide +kernel
theorem k315_417 : decode (gb 315) 417 = .ok (.if_icmp .gt 18, 3) := by decide +kernel
theorem k315_420 : decode (gb 315) 420 = .ok (.iload_n 3, 1) := by decide +kernel
theorem k315_421 : decode (gb 315) 421 = .ok (.iconst 4, 1) := by decide +kernel
theorem k315_422 : decode (gb 315) 422 = .ok (.aload 4, 2) := by decide +kernel
theorem k315_424 : decode (gb 315) 424 = .ok (.bipush 14, 2) := by decide +kernel
theorem k315_426 : decode (gb 315) 426 = .ok (.iaload, 1) := by decide +kernel
theorem k315_427 : decode (gb 315) 427 = .ok (.iadd, 1) := by decide +kernel
theorem k315_428 : decode (gb 315) 428 = .ok (.if_icmp .ne 7, 3) := by decide +kernel
theorem k315_431 : decode (gb 315) 431 = .ok (.iconst 1, 1) := by decide +kernel
theorem k315_432 : decode (gb 315) 432 = .ok (.goto 4, 3) := by decide +kernel
theorem k315_435 : decode (gb 315) 435 = .ok (.iconst 0, 1) := by decide +kernel
theorem k315_436 : decode (gb 315) 436 = .ok (.ireturn, 1) := by decide +kernel
theorem k315_437 : decode (gb 315) 437 = .ok (.iload_n 3, 1) := by decide +kernel
theorem k315_438 : decode (gb 315) 438 = .ok (.iconst 5, 1) := by decide +kernel
theorem k315_439 : decode (gb 315) 439 = .ok (.if_icmp .ne 7, 3) := by decide +kernel
theorem k315_442 : decode (gb 315) 442 = .ok (.iconst 1, 1) := by decide +kernel
theorem k315_443 : decode (gb 315) 443 = .ok (.goto 4, 3) := by decide +kernel
theorem k315_446 : decode (gb 315) 446 = .ok (.iconst 0, 1) := by decide +kernel
theorem k315_447 : decode (gb 315) 447 = .ok (.ireturn, 1) := by decide +kernel
theorem k315_448 : decode (gb 315) 448 = .ok (.iload_n 3, 1) := by decide +kernel
theorem k315_449 : decode (gb 315) 449 = .ok (.bipush 12, 2) := by decide +kernel
theorem k315_451 : decode (gb 315) 451 = .ok (.if_icmp .ne 7, 3) := by decide +kernel
theorem k315_454 : decode (gb 315) 454 = .ok (.iconst 1, 1) := by decide +kernel
theorem k315_455 : decode (gb 315) 455 = .ok (.goto 4, 3) := by decide +kernel
theorem k315_458 : decode (gb 315) 458 = .ok (.iconst 0, 1) := by decide +kernel
theorem k315_459 : decode (gb 315) 459 = .ok (.ireturn, 1) := by decide +kernel
theorem k315_460 : decode (gb 315) 460 = .ok (.iload_n 3, 1) := by decide +kernel
theorem k315_461 : decode (gb 315) 461 = .ok (.bipush 15, 2) := by decide +kernel
theorem k315_463 : decode (gb 315) 463 = .ok (.if_icmp .lt 22, 3) := by decide +kernel
theorem k315_466 : decode (gb 315) 466 = .ok (.iload_n 3, 1) := by decide +kernel
theorem k315_467 : decode (gb 315) 467 = .ok (.bipush 42, 2) := by decide +kernel
theorem k315_469 : decode (gb 315) 469 = .ok (.if_icmp .gt 16, 3) := by decide +kernel
theorem k315_472 : decode (gb 315) 472 = .ok (.aload 4, 2) := by decide +kernel
theorem k315_474 : decode (gb 315) 474 = .ok (.bipush 12, 2) := by decide +kernel
theorem k315_476 : decode (gb 315) 476 = .ok (.iaload, 1) := by decide +kernel
theorem k315_477 : decode (gb 315) 477 = .ok (.iconst 1, 1) := by decide +kernel
theorem k315_478 : decode (gb 315) 478 = .ok (.if_icmp .gt 7, 3) := by decide +kernel
theorem k315_481 : decode (gb 315) 481 = .ok (.iconst 1, 1) := by decide +kernel
theorem k315_482 : decode (gb 315) 482 = .ok (.goto 4, 3) := by decide +kernel
theorem k315_485 : decode (gb 315) 485 = .ok (.iconst 0, 1) := by decide +kernel
theorem k315_486 : decode (gb 315) 486 = .ok (.ireturn, 1) := by decide +kernel
theorem k315_487 : decode (gb 315) 487 = .ok (.iload_n 3, 1) := by decide +kernel
theorem k315_488 : decode (gb 315) 488 = .ok (.bipush 18, 2) := by decide +kernel
theorem k315_490 : decode (gb 315) 490 = .ok (.if_icmp .lt 13, 3) := by decide +kernel
theorem k315_493 : decode (gb 315) 493 = .ok (.iload_n 3, 1) := by decide +kernel
theorem k315_494 : decode (gb 315) 494 = .ok (.bipush 45, 2) := by decide +kernel
theorem k315_496 : decode (gb 315) 496 = .ok (.if_icmp .gt 7, 3) := by decide +kernel
theorem k315_499 : decode (gb 315) 499 = .ok (.iconst 1, 1) := by decide +kernel
theorem k315_500 : decode (gb 315) 500 = .ok (.goto 4, 3) := by decide +kernel
theorem k315_503 : decode (gb 315) 503 = .ok (.iconst 0, 1) := by decide +kernel
theorem k315_504 : decode (gb 315) 504 = .ok (.ireturn, 1) := by decide +kernel
theorem k315_505 : decode (gb 315) 505 = .ok (.iload_n 3, 1) := by decide +kernel
theorem k315_506 : decode (gb 315) 506 = .ok (.iconst 2, 1) := by decide +kernel
theorem k315_507 : decode (gb 315) 507 = .ok (.if_icmp .ne 7, 3) := by decide +kernel
theorem k315_510 : decode (gb 315) 510 = .ok (.iconst 1, 1) := by decide +kernel
theorem k315_511 : decode (gb 315) 511 = .ok (.goto 4, 3) := by decide +kernel
theorem k315_514 : decode (gb 315) 514 = .ok (.iconst 0, 1) := by decide +kernel
theorem k315_515 : decode (gb 315) 515 = .ok (.ireturn, 1) := by decide +kernel
theorem k315_516 : decode (gb 315) 516 = .ok (.iload_n 3, 1) := by decide +kernel
theorem k315_517 : decode (gb 315) 517 = .ok (.iconst 4, 1) := by decide +kernel
theorem k315_518 : decode (gb 315) 518 = .ok (.if_icmp .ne 7, 3) := by decide +kernel
theorem k315_521 : decode (gb 315) 521 = .ok (.iconst 1, 1) := by decide +kernel
theorem k315_522 : decode (gb 315) 522 = .ok (.goto 4, 3) := by decide +kernel
theorem k315_525 : decode (gb 315) 525 = .ok (.iconst 0, 1) := by decide +kernel
theorem k315_526 : decode (gb 315) 526 = .ok (.ireturn, 1) := by decide +kernel
theorem k315_527 : decode (gb 315) 527 = .ok (.iload_n 3, 1) := by decide +kernel
theorem k315_528 : decode (gb 315) 528 = .ok (.iconst 2, 1) := by decide +kernel
theorem k315_529 : decode (gb 315) 529 = .ok (.if_icmp .ne 16, 3) := by decide +kernel
theorem k315_532 : decode (gb 315) 532 = .ok (.aload 4, 2) := by decide +kernel
theorem k315_534 : decode (gb 315) 534 = .ok (.bipush 12, 2) := by decide +kernel
theorem k315_536 : decode (gb 315) 536 = .ok (.iaload, 1) := by decide +kernel
theorem k315_537 : decode (gb 315) 537 = .ok (.iconst 1, 1) := by decide +kernel
theorem k315_538 : decode (gb 315) 538 = .ok (.if_icmp .gt 7, 3) := by decide +kernel
theorem k315_541 : decode (gb 315) 541 = .ok (.iconst 1, 1) := by decide +kernel
theorem k315_542 : decode (gb 315) 542 = .ok (.goto 4, 3) := by decide +kernel
theorem k315_545 : decode (gb 315) 545 = .ok (.iconst 0, 1) := by decide +kernel
theorem k315_546 : decode (gb 315) 546 = .ok (.ireturn, 1) := by decide +kernel
theorem k315_547 : decode (gb 315) 547 = .ok (.iload_n 3, 1) := by decide +kernel
theorem k315_548 : decode (gb 315) 548 = .ok (.iconst 3, 1) := by decide +kernel
theorem k315_549 : decode (gb 315) 549 = .ok (.if_icmp .ne 7, 3) := by decide +kernel
theorem k315_552 : decode (gb 315) 552 = .ok (.iconst 1, 1) := by decide +kernel
theorem k315_553 : decode (gb 315) 553 = .ok (.goto 4, 3) := by decide +kernel
theorem k315_556 : decode (gb 315) 556 = .ok (.iconst 0, 1) := by decide +kernel
theorem k315_557 : decode (gb 315) 557 = .ok (.ireturn, 1) := by decide +kernel
theorem k315_558 : decode (gb 315) 558 = .ok (.iload_n 3, 1) := by decide +kernel
theorem k315_559 : decode (gb 315) 559 = .ok (.bipush 9, 2) := by decide +kernel
theorem k315_561 : decode (gb 315) 561 = .ok (.if_icmp .ne 7, 3) := by decide +kernel
theorem k315_564 : decode (gb 315) 564 = .ok (.iconst 1, 1) := by decide +kernel
theorem k315_565 : decode (gb 315) 565 = .ok (.goto 4, 3) := by decide +kernel
theorem k315_568 : decode (gb 315) 568 = .ok (.iconst 0, 1) := by decide +kernel
theorem k315_569 : decode (gb 315) 569 = .ok (.ireturn, 1) := by decide +kernel
theorem k315_570 : decode (gb 315) 570 = .ok (.iload_n 3, 1) := by decide +kernel
theorem k315_571 : decode (gb 315) 571 = .ok (.iconst 5, 1) := by decide +kernel
theorem k315_572 : decode (gb 315) 572 = .ok (.if_icmp .ne 7, 3) := by decide +kernel
theorem k315_575 : decode (gb 315) 575 = .ok (.iconst 1, 1) := by decide +kernel
theorem k315_576 : decode (gb 315) 576 = .ok (.goto 4, 3) := by decide +kernel
theorem k315_579 : decode (gb 315) 579 = .ok (.iconst 0, 1) := by decide +kernel
theorem k315_580 : decode (gb 315) 580 = .ok (.ireturn, 1) := by decide +kernel
theorem k315_581 : decode (gb 315) 581 = .ok (.iload_n 3, 1) := by decide +kernel
theorem k315_582 : decode (gb 315) 582 = .ok (.iconst 1, 1) := by decide +kernel
theorem k315_583 : decode (gb 315) 583 = .ok (.if_icmp .ne 7, 3) := by decide +kernel
theorem k315_586 : decode (gb 315) 586 = .ok (.iconst 1, 1) := by decide +kernel
theorem k315_587 : decode (gb 315) 587 = .ok (.goto 4, 3) := by decide +kernel
theorem k315_590 : decode (gb 315) 590 = .ok (.iconst 0, 1) := by decide +kernel
theorem k315_591 : decode (gb 315) 591 = .ok (.ireturn, 1) := by decide +kernel
def c315_19 (v1 : Int32) (v2 : Int32) (v3 : Int32) (s0 : Int32) (μ : Mem) : Option (Mem × Int32) :=
  nm (((256 : Int32) * v1) + v2) fun x1 =>
  if x1 = (769 : Int32) then
    if v3 < (4 : Int32) then
      rtZ (0 : Int32) μ
    else
      (f313 140 (12 : Int32) μ).bind fun r3 =>
      if r3.2 < (1 : Int32) then
        rtZ (0 : Int32) r3.1
      else
        (ldA 140 (14 : Int32) r3.1).bind fun x6 =>
        if x6 < (1 : Int32) then
          rtZ (0 : Int32) r3.1
        else
          (ldA 140 (14 : Int32) r3.1).bind fun x9 =>
          if (8 : Int32) < x9 then
            rtZ (0 : Int32) r3.1
          else
            (ldA 140 (14 : Int32) r3.1).bind fun x12 =>
            if v3 = ((4 : Int32) + x12) then
              rtZ (1 : Int32) r3.1
            else
              rtZ (0 : Int32) r3.1
  else if x1 = (1538 : Int32) then
    if v3 < (3 : Int32) then
      rtZ (0 : Int32) μ
    else
      (ldA 140 (13 : Int32) μ).bind fun x17 =>
      if x17 < (1 : Int32) then
        rtZ (0 : Int32) μ
      else
        (ldA 140 (13 : Int32) μ).bind fun x20 =>
        if (32 : Int32) < x20 then
          rtZ (0 : Int32) μ
        else
          (ldA 140 (13 : Int32) μ).bind fun x23 =>
          if v3 = ((3 : Int32) + x23) then
            rtZ (1 : Int32) μ
          else
            rtZ (0 : Int32) μ
  else if x1 = (1541 : Int32) then
    if v3 = (3 : Int32) then
      (ldA 140 (13 : Int32) μ).bind fun x28 =>
      if x28 < (1 : Int32) then
        rtZ (0 : Int32) μ
      else
        (ldA 140 (13 : Int32) μ).bind fun x31 =>
        if (64 : Int32) < x31 then
          rtZ (0 : Int32) μ
        else
          rtZ (1 : Int32) μ
    else
      rtZ (0 : Int32) μ
  else if x1 = (1545 : Int32) then
    if v3 = (4 : Int32) then
      (f313 140 (13 : Int32) μ).bind fun r36 =>
      if r36.2 < (1 : Int32) then
        rtZ (0 : Int32) r36.1
      else
        rtZ (1 : Int32) r36.1
    else
      rtZ (0 : Int32) μ
  else if x1 = (2049 : Int32) then
    if v3 = (5 : Int32) then
      rtZ (1 : Int32) μ
    else
      rtZ (0 : Int32) μ
  else if x1 = (2817 : Int32) then
    if v3 = 0 then
      rtZ (1 : Int32) μ
    else
      rtZ (0 : Int32) μ
  else if x1 = (2818 : Int32) then
    if v3 = 0 then
      rtZ (1 : Int32) μ
    else
      rtZ (0 : Int32) μ
  else if x1 = (2819 : Int32) then
    if v3 = 0 then
      rtZ (1 : Int32) μ
    else
      rtZ (0 : Int32) μ
  else if x1 = (2820 : Int32) then
    if v3 < (18 : Int32) then
      rtZ (0 : Int32) μ
    else
      if (45 : Int32) < v3 then
        rtZ (0 : Int32) μ
      else
        rtZ (1 : Int32) μ
  else if x1 = (2821 : Int32) then
    if v3 = (2 : Int32) then
      rtZ (1 : Int32) μ
    else
      rtZ (0 : Int32) μ
  else if x1 = (2831 : Int32) then
    if v3 = (4 : Int32) then
      rtZ (1 : Int32) μ
    else
      rtZ (0 : Int32) μ
  else if x1 = (2832 : Int32) then
    if v3 = 0 then
      rtZ (1 : Int32) μ
    else
      rtZ (0 : Int32) μ
  else if x1 = (3077 : Int32) then
    if v3 = (12 : Int32) then
      rtZ (1 : Int32) μ
    else
      rtZ (0 : Int32) μ
  else if x1 = (3085 : Int32) then
    if v3 = 0 then
      rtZ (1 : Int32) μ
    else
      rtZ (0 : Int32) μ
  else if x1 = (3843 : Int32) then
    if v3 = (3 : Int32) then
      rtZ (1 : Int32) μ
    else
      rtZ (0 : Int32) μ
  else if x1 = (3849 : Int32) then
    if v3 = (9 : Int32) then
      rtZ (1 : Int32) μ
    else
      rtZ (0 : Int32) μ
  else if x1 = (3851 : Int32) then
    if v3 = (5 : Int32) then
      rtZ (1 : Int32) μ
    else
      rtZ (0 : Int32) μ
  else if x1 = (3852 : Int32) then
    if v3 = (2 : Int32) then
      (ldA 140 (12 : Int32) μ).bind fun x68 =>
      if (1 : Int32) < x68 then
        rtZ (0 : Int32) μ
      else
        rtZ (1 : Int32) μ
    else
      rtZ (0 : Int32) μ
  else if x1 = (4353 : Int32) then
    if v3 = 0 then
      rtZ (1 : Int32) μ
    else
      rtZ (0 : Int32) μ
  else if x1 = (4865 : Int32) then
    if v3 < (15 : Int32) then
      rtZ (0 : Int32) μ
    else
      if (42 : Int32) < v3 then
        rtZ (0 : Int32) μ
      else
        (ldA 140 (12 : Int32) μ).bind fun x76 =>
        if (1 : Int32) < x76 then
          rtZ (0 : Int32) μ
        else
          rtZ (1 : Int32) μ
  else if x1 = (5121 : Int32) then
    if v3 ≤ 0 then
      rtZ (0 : Int32) μ
    else
      if s0 < (1 : Int32) then
        rtZ (0 : Int32) μ
      else
        if (8 : Int32) < s0 then
          rtZ (0 : Int32) μ
        else
          if v3 = ((1 : Int32) + s0) then
            rtZ (1 : Int32) μ
          else
            rtZ (0 : Int32) μ
  else if x1 = (5123 : Int32) then
    if v3 ≤ 0 then
      rtZ (0 : Int32) μ
    else
      if s0 < (1 : Int32) then
        rtZ (0 : Int32) μ
      else
        if (6 : Int32) < s0 then
          rtZ (0 : Int32) μ
        else
          if v3 = ((1 : Int32) + ((5 : Int32) * s0)) then
            rtZ (1 : Int32) μ
          else
            rtZ (0 : Int32) μ
  else 
    if v3 = (1 : Int32) then
      rtZ (1 : Int32) μ
    else
      rtZ (0 : Int32) μ
theorem c315_19_ok {L : Nat} (v1 : Int32) (v2 : Int32) (v3 : Int32) (s0 : Int32) (μ : Mem) (res : Mem × Int32) (h : c315_19 v1 v2 v3 s0 μ = some res) : Sx 315 19 [(0, .ref 129), (1, .int v1), (2, .int v2), (3, .int v3), (4, .ref 140)] [.int s0] 0 0 (mk L μ) (mk L res.1, some (.int res.2)) := by
  unfold c315_19 at h
  refine cx_istore (lo2 := [(5, .int s0), (0, .ref 129), (1, .int v1), (2, .int v2), (3, .int v3), (4, .ref 140)]) k315_19 (by rw [mx_315]; decide) rfl ?_
  refine sx_sipush (v := 256) k315_21 (by decide) ?_
  refine sx_iload_n (i := 1) k315_24 rfl rfl ?_
  refine sx_imul k315_25 ?_
  refine sx_iload_n (i := 2) k315_26 rfl rfl ?_
  refine sx_iadd k315_27 ?_
  refine cx_nm h (fun x1 h => ?_)
  by_cases hb15 : x1 = (769 : Int32)
  · rw [if_pos hb15] at h
    refine sx_lookup (off := 356) (tgt := 384) k315_28 (by decide) (by rw [hb15]; rfl) (by decide) ?_
    refine sx_iload_n (i := 3) k315_384 rfl rfl ?_
    refine sx_iconst (v := 4) k315_385 (by decide) ?_
    by_cases hb2 : v3 < (4 : Int32)
    · rw [if_pos hb2] at h
      refine sx_icmp_lt (tgt := 435) k315_386 (by decide) (fun _ => ?_) (fun q => absurd hb2 q)
      refine sx_iconst (v := 0) k315_435 (by decide) ?_
      exact cx_retz k315_436 rt_315 h
    · rw [if_neg hb2] at h
      refine sx_icmp_lt (tgt := 435) k315_386 (by decide) (fun q => absurd q hb2) (fun _ => ?_)
      refine sx_aload_n (i := 0) k315_389 rfl rfl ?_
      refine sx_aload k315_390 rfl ?_
      refine sx_bipush (v := 12) k315_392 (by decide) ?_
      obtain ⟨r3, e4, h⟩ := Option.bind_eq_some_iff.mp h
      refine cx_V (sk := []) (vs := [.ref 140, .int (12 : Int32)]) st_315_313 k315_394 ow_315 cl_12_472 (by decide) rfl (Nat.le_of_ble_eq_true rfl) sk_129 (ok313 140 (12 : Int32) sk_140 _ _ e4) (sk3 := [.int r3.2]) rfl rfl ?_
      refine sx_iconst (v := 1) k315_397 (by decide) ?_
      by_cases hb5 : r3.2 < (1 : Int32)
      · rw [if_pos hb5] at h
        refine sx_icmp_lt (tgt := 435) k315_398 (by decide) (fun _ => ?_) (fun q => absurd hb5 q)
        refine sx_iconst (v := 0) k315_435 (by decide) ?_
        exact cx_retz k315_436 rt_315 h
      · rw [if_neg hb5] at h
        refine sx_icmp_lt (tgt := 435) k315_398 (by decide) (fun q => absurd q hb5) (fun _ => ?_)
        refine sx_aload k315_401 rfl ?_
        refine sx_bipush (v := 14) k315_403 (by decide) ?_
        obtain ⟨x6, e7, h⟩ := Option.bind_eq_some_iff.mp h
        refine cx_iald k315_405 sk_140 e7 ?_
        refine sx_iconst (v := 1) k315_406 (by decide) ?_
        by_cases hb8 : x6 < (1 : Int32)
        · rw [if_pos hb8] at h
          refine sx_icmp_lt (tgt := 435) k315_407 (by decide) (fun _ => ?_) (fun q => absurd hb8 q)
          refine sx_iconst (v := 0) k315_435 (by decide) ?_
          exact cx_retz k315_436 rt_315 h
        · rw [if_neg hb8] at h
          refine sx_icmp_lt (tgt := 435) k315_407 (by decide) (fun q => absurd q hb8) (fun _ => ?_)
          refine sx_aload k315_410 rfl ?_
          refine sx_bipush (v := 14) k315_412 (by decide) ?_
          obtain ⟨x9, e10, h⟩ := Option.bind_eq_some_iff.mp h
          refine cx_iald k315_414 sk_140 e10 ?_
          refine sx_bipush (v := 8) k315_415 (by decide) ?_
          by_cases hb11 : (8 : Int32) < x9
          · rw [if_pos hb11] at h
            refine sx_icmp_gt (tgt := 435) k315_417 (by decide) (fun _ => ?_) (fun q => absurd hb11 q)
            refine sx_iconst (v := 0) k315_435 (by decide) ?_
            exact cx_retz k315_436 rt_315 h
          · rw [if_neg hb11] at h
            refine sx_icmp_gt (tgt := 435) k315_417 (by decide) (fun q => absurd q hb11) (fun _ => ?_)
            refine sx_iload_n (i := 3) k315_420 rfl rfl ?_
            refine sx_iconst (v := 4) k315_421 (by decide) ?_
            refine sx_aload k315_422 rfl ?_
            refine sx_bipush (v := 14) k315_424 (by decide) ?_
            obtain ⟨x12, e13, h⟩ := Option.bind_eq_some_iff.mp h
            refine cx_iald k315_426 sk_140 e13 ?_
            refine sx_iadd k315_427 ?_
            by_cases hb14 : v3 = ((4 : Int32) + x12)
            · rw [if_pos hb14] at h
              refine sx_icmp_ne (tgt := 435) k315_428 (by decide) (fun q => absurd hb14 q) (fun _ => ?_)
              refine sx_iconst (v := 1) k315_431 (by decide) ?_
              refine sx_goto (tgt := 436) k315_432 (by decide) ?_
              exact cx_retz k315_436 rt_315 h
            · rw [if_neg hb14] at h
              refine sx_icmp_ne (tgt := 435) k315_428 (by decide) (fun _ => ?_) (fun q => absurd q hb14)
              refine sx_iconst (v := 0) k315_435 (by decide) ?_
              exact cx_retz k315_436 rt_315 h
  · rw [if_neg hb15] at h
    by_cases hb26 : x1 = (1538 : Int32)
    · rw [if_pos hb26] at h
      refine sx_lookup (off := 262) (tgt := 290) k315_28 (by decide) (by rw [hb26]; rfl) (by decide) ?_
      refine sx_iload_n (i := 3) k315_290 rfl rfl ?_
      refine sx_iconst (v := 3) k315_291 (by decide) ?_
      by_cases hb16 : v3 < (3 : Int32)
      · rw [if_pos hb16] at h
        refine sx_icmp_lt (tgt := 329) k315_292 (by decide) (fun _ => ?_) (fun q => absurd hb16 q)
        refine sx_iconst (v := 0) k315_329 (by decide) ?_
        exact cx_retz k315_330 rt_315 h
      · rw [if_neg hb16] at h
        refine sx_icmp_lt (tgt := 329) k315_292 (by decide) (fun q => absurd q hb16) (fun _ => ?_)
        refine sx_aload k315_295 rfl ?_
        refine sx_bipush (v := 13) k315_297 (by decide) ?_
        obtain ⟨x17, e18, h⟩ := Option.bind_eq_some_iff.mp h
        refine cx_iald k315_299 sk_140 e18 ?_
        refine sx_iconst (v := 1) k315_300 (by decide) ?_
        by_cases hb19 : x17 < (1 : Int32)
        · rw [if_pos hb19] at h
          refine sx_icmp_lt (tgt := 329) k315_301 (by decide) (fun _ => ?_) (fun q => absurd hb19 q)
          refine sx_iconst (v := 0) k315_329 (by decide) ?_
          exact cx_retz k315_330 rt_315 h
        · rw [if_neg hb19] at h
          refine sx_icmp_lt (tgt := 329) k315_301 (by decide) (fun q => absurd q hb19) (fun _ => ?_)
          refine sx_aload k315_304 rfl ?_
          refine sx_bipush (v := 13) k315_306 (by decide) ?_
          obtain ⟨x20, e21, h⟩ := Option.bind_eq_some_iff.mp h
          refine cx_iald k315_308 sk_140 e21 ?_
          refine sx_bipush (v := 32) k315_309 (by decide) ?_
          by_cases hb22 : (32 : Int32) < x20
          · rw [if_pos hb22] at h
            refine sx_icmp_gt (tgt := 329) k315_311 (by decide) (fun _ => ?_) (fun q => absurd hb22 q)
            refine sx_iconst (v := 0) k315_329 (by decide) ?_
            exact cx_retz k315_330 rt_315 h
          · rw [if_neg hb22] at h
            refine sx_icmp_gt (tgt := 329) k315_311 (by decide) (fun q => absurd q hb22) (fun _ => ?_)
            refine sx_iload_n (i := 3) k315_314 rfl rfl ?_
            refine sx_iconst (v := 3) k315_315 (by decide) ?_
            refine sx_aload k315_316 rfl ?_
            refine sx_bipush (v := 13) k315_318 (by decide) ?_
            obtain ⟨x23, e24, h⟩ := Option.bind_eq_some_iff.mp h
            refine cx_iald k315_320 sk_140 e24 ?_
            refine sx_iadd k315_321 ?_
            by_cases hb25 : v3 = ((3 : Int32) + x23)
            · rw [if_pos hb25] at h
              refine sx_icmp_ne (tgt := 329) k315_322 (by decide) (fun q => absurd hb25 q) (fun _ => ?_)
              refine sx_iconst (v := 1) k315_325 (by decide) ?_
              refine sx_goto (tgt := 330) k315_326 (by decide) ?_
              exact cx_retz k315_330 rt_315 h
            · rw [if_neg hb25] at h
              refine sx_icmp_ne (tgt := 329) k315_322 (by decide) (fun _ => ?_) (fun q => absurd q hb25)
              refine sx_iconst (v := 0) k315_329 (by decide) ?_
              exact cx_retz k315_330 rt_315 h
    · rw [if_neg hb26] at h
      by_cases hb34 : x1 = (1541 : Int32)
      · rw [if_pos hb34] at h
        refine sx_lookup (off := 303) (tgt := 331) k315_28 (by decide) (by rw [hb34]; rfl) (by decide) ?_
        refine sx_iload_n (i := 3) k315_331 rfl rfl ?_
        refine sx_iconst (v := 3) k315_332 (by decide) ?_
        by_cases hb27 : v3 = (3 : Int32)
        · rw [if_pos hb27] at h
          refine sx_icmp_ne (tgt := 359) k315_333 (by decide) (fun q => absurd hb27 q) (fun _ => ?_)
          refine sx_aload k315_336 rfl ?_
          refine sx_bipush (v := 13) k315_338 (by decide) ?_
          obtain ⟨x28, e29, h⟩ := Option.bind_eq_some_iff.mp h
          refine cx_iald k315_340 sk_140 e29 ?_
          refine sx_iconst (v := 1) k315_341 (by decide) ?_
          by_cases hb30 : x28 < (1 : Int32)
          · rw [if_pos hb30] at h
            refine sx_icmp_lt (tgt := 359) k315_342 (by decide) (fun _ => ?_) (fun q => absurd hb30 q)
            refine sx_iconst (v := 0) k315_359 (by decide) ?_
            exact cx_retz k315_360 rt_315 h
          · rw [if_neg hb30] at h
            refine sx_icmp_lt (tgt := 359) k315_342 (by decide) (fun q => absurd q hb30) (fun _ => ?_)
            refine sx_aload k315_345 rfl ?_
            refine sx_bipush (v := 13) k315_347 (by decide) ?_
            obtain ⟨x31, e32, h⟩ := Option.bind_eq_some_iff.mp h
            refine cx_iald k315_349 sk_140 e32 ?_
            refine sx_bipush (v := 64) k315_350 (by decide) ?_
            by_cases hb33 : (64 : Int32) < x31
            · rw [if_pos hb33] at h
              refine sx_icmp_gt (tgt := 359) k315_352 (by decide) (fun _ => ?_) (fun q => absurd hb33 q)
              refine sx_iconst (v := 0) k315_359 (by decide) ?_
              exact cx_retz k315_360 rt_315 h
            · rw [if_neg hb33] at h
              refine sx_icmp_gt (tgt := 359) k315_352 (by decide) (fun q => absurd q hb33) (fun _ => ?_)
              refine sx_iconst (v := 1) k315_355 (by decide) ?_
              refine sx_goto (tgt := 360) k315_356 (by decide) ?_
              exact cx_retz k315_360 rt_315 h
        · rw [if_neg hb27] at h
          refine sx_icmp_ne (tgt := 359) k315_333 (by decide) (fun _ => ?_) (fun q => absurd q hb27)
          refine sx_iconst (v := 0) k315_359 (by decide) ?_
          exact cx_retz k315_360 rt_315 h
      · rw [if_neg hb34] at h
        by_cases hb39 : x1 = (1545 : Int32)
        · rw [if_pos hb39] at h
          refine sx_lookup (off := 333) (tgt := 361) k315_28 (by decide) (by rw [hb39]; rfl) (by decide) ?_
          refine sx_iload_n (i := 3) k315_361 rfl rfl ?_
          refine sx_iconst (v := 4) k315_362 (by decide) ?_
          by_cases hb35 : v3 = (4 : Int32)
          · rw [if_pos hb35] at h
            refine sx_icmp_ne (tgt := 382) k315_363 (by decide) (fun q => absurd hb35 q) (fun _ => ?_)
            refine sx_aload_n (i := 0) k315_366 rfl rfl ?_
            refine sx_aload k315_367 rfl ?_
            refine sx_bipush (v := 13) k315_369 (by decide) ?_
            obtain ⟨r36, e37, h⟩ := Option.bind_eq_some_iff.mp h
            refine cx_V (sk := []) (vs := [.ref 140, .int (13 : Int32)]) st_315_313 k315_371 ow_315 cl_12_472 (by decide) rfl (Nat.le_of_ble_eq_true rfl) sk_129 (ok313 140 (13 : Int32) sk_140 _ _ e37) (sk3 := [.int r36.2]) rfl rfl ?_
            refine sx_iconst (v := 1) k315_374 (by decide) ?_
            by_cases hb38 : r36.2 < (1 : Int32)
            · rw [if_pos hb38] at h
              refine sx_icmp_lt (tgt := 382) k315_375 (by decide) (fun _ => ?_) (fun q => absurd hb38 q)
              refine sx_iconst (v := 0) k315_382 (by decide) ?_
              exact cx_retz k315_383 rt_315 h
            · rw [if_neg hb38] at h
              refine sx_icmp_lt (tgt := 382) k315_375 (by decide) (fun q => absurd q hb38) (fun _ => ?_)
              refine sx_iconst (v := 1) k315_378 (by decide) ?_
              refine sx_goto (tgt := 383) k315_379 (by decide) ?_
              exact cx_retz k315_383 rt_315 h
          · rw [if_neg hb35] at h
            refine sx_icmp_ne (tgt := 382) k315_363 (by decide) (fun _ => ?_) (fun q => absurd q hb35)
            refine sx_iconst (v := 0) k315_382 (by decide) ?_
            exact cx_retz k315_383 rt_315 h
        · rw [if_neg hb39] at h
          by_cases hb41 : x1 = (2049 : Int32)
          · rw [if_pos hb41] at h
            refine sx_lookup (off := 409) (tgt := 437) k315_28 (by decide) (by rw [hb41]; rfl) (by decide) ?_
            refine sx_iload_n (i := 3) k315_437 rfl rfl ?_
            refine sx_iconst (v := 5) k315_438 (by decide) ?_
            by_cases hb40 : v3 = (5 : Int32)
            · rw [if_pos hb40] at h
              refine sx_icmp_ne (tgt := 446) k315_439 (by decide) (fun q => absurd hb40 q) (fun _ => ?_)
              refine sx_iconst (v := 1) k315_442 (by decide) ?_
              refine sx_goto (tgt := 447) k315_443 (by decide) ?_
              exact cx_retz k315_447 rt_315 h
            · rw [if_neg hb40] at h
              refine sx_icmp_ne (tgt := 446) k315_439 (by decide) (fun _ => ?_) (fun q => absurd q hb40)
              refine sx_iconst (v := 0) k315_446 (by decide) ?_
              exact cx_retz k315_447 rt_315 h
          · rw [if_neg hb41] at h
            by_cases hb43 : x1 = (2817 : Int32)
            · rw [if_pos hb43] at h
              refine sx_lookup (off := 188) (tgt := 216) k315_28 (by decide) (by rw [hb43]; rfl) (by decide) ?_
              refine sx_iload_n (i := 3) k315_216 rfl rfl ?_
              by_cases hb42 : v3 = 0
              · rw [if_pos hb42] at h
                refine sx_if_ne (tgt := 224) k315_217 (by decide) (fun q => absurd hb42 q) (fun _ => ?_)
                refine sx_iconst (v := 1) k315_220 (by decide) ?_
                refine sx_goto (tgt := 225) k315_221 (by decide) ?_
                exact cx_retz k315_225 rt_315 h
              · rw [if_neg hb42] at h
                refine sx_if_ne (tgt := 224) k315_217 (by decide) (fun _ => ?_) (fun q => absurd q hb42)
                refine sx_iconst (v := 0) k315_224 (by decide) ?_
                exact cx_retz k315_225 rt_315 h
            · rw [if_neg hb43] at h
              by_cases hb45 : x1 = (2818 : Int32)
              · rw [if_pos hb45] at h
                refine sx_lookup (off := 188) (tgt := 216) k315_28 (by decide) (by rw [hb45]; rfl) (by decide) ?_
                refine sx_iload_n (i := 3) k315_216 rfl rfl ?_
                by_cases hb44 : v3 = 0
                · rw [if_pos hb44] at h
                  refine sx_if_ne (tgt := 224) k315_217 (by decide) (fun q => absurd hb44 q) (fun _ => ?_)
                  refine sx_iconst (v := 1) k315_220 (by decide) ?_
                  refine sx_goto (tgt := 225) k315_221 (by decide) ?_
                  exact cx_retz k315_225 rt_315 h
                · rw [if_neg hb44] at h
                  refine sx_if_ne (tgt := 224) k315_217 (by decide) (fun _ => ?_) (fun q => absurd q hb44)
                  refine sx_iconst (v := 0) k315_224 (by decide) ?_
                  exact cx_retz k315_225 rt_315 h
              · rw [if_neg hb45] at h
                by_cases hb47 : x1 = (2819 : Int32)
                · rw [if_pos hb47] at h
                  refine sx_lookup (off := 188) (tgt := 216) k315_28 (by decide) (by rw [hb47]; rfl) (by decide) ?_
                  refine sx_iload_n (i := 3) k315_216 rfl rfl ?_
                  by_cases hb46 : v3 = 0
                  · rw [if_pos hb46] at h
                    refine sx_if_ne (tgt := 224) k315_217 (by decide) (fun q => absurd hb46 q) (fun _ => ?_)
                    refine sx_iconst (v := 1) k315_220 (by decide) ?_
                    refine sx_goto (tgt := 225) k315_221 (by decide) ?_
                    exact cx_retz k315_225 rt_315 h
                  · rw [if_neg hb46] at h
                    refine sx_if_ne (tgt := 224) k315_217 (by decide) (fun _ => ?_) (fun q => absurd q hb46)
                    refine sx_iconst (v := 0) k315_224 (by decide) ?_
                    exact cx_retz k315_225 rt_315 h
                · rw [if_neg hb47] at h
                  by_cases hb50 : x1 = (2820 : Int32)
                  · rw [if_pos hb50] at h
                    refine sx_lookup (off := 459) (tgt := 487) k315_28 (by decide) (by rw [hb50]; rfl) (by decide) ?_
                    refine sx_iload_n (i := 3) k315_487 rfl rfl ?_
                    refine sx_bipush (v := 18) k315_488 (by decide) ?_
                    by_cases hb48 : v3 < (18 : Int32)
                    · rw [if_pos hb48] at h
                      refine sx_icmp_lt (tgt := 503) k315_490 (by decide) (fun _ => ?_) (fun q => absurd hb48 q)
                      refine sx_iconst (v := 0) k315_503 (by decide) ?_
                      exact cx_retz k315_504 rt_315 h
                    · rw [if_neg hb48] at h
                      refine sx_icmp_lt (tgt := 503) k315_490 (by decide) (fun q => absurd q hb48) (fun _ => ?_)
                      refine sx_iload_n (i := 3) k315_493 rfl rfl ?_
                      refine sx_bipush (v := 45) k315_494 (by decide) ?_
                      by_cases hb49 : (45 : Int32) < v3
                      · rw [if_pos hb49] at h
                        refine sx_icmp_gt (tgt := 503) k315_496 (by decide) (fun _ => ?_) (fun q => absurd hb49 q)
                        refine sx_iconst (v := 0) k315_503 (by decide) ?_
                        exact cx_retz k315_504 rt_315 h
                      · rw [if_neg hb49] at h
                        refine sx_icmp_gt (tgt := 503) k315_496 (by decide) (fun q => absurd q hb49) (fun _ => ?_)
                        refine sx_iconst (v := 1) k315_499 (by decide) ?_
                        refine sx_goto (tgt := 504) k315_500 (by decide) ?_
                        exact cx_retz k315_504 rt_315 h
                  · rw [if_neg hb50] at h
                    by_cases hb52 : x1 = (2821 : Int32)
                    · rw [if_pos hb52] at h
                      refine sx_lookup (off := 477) (tgt := 505) k315_28 (by decide) (by rw [hb52]; rfl) (by decide) ?_
                      refine sx_iload_n (i := 3) k315_505 rfl rfl ?_
                      refine sx_iconst (v := 2) k315_506 (by decide) ?_
                      by_cases hb51 : v3 = (2 : Int32)
                      · rw [if_pos hb51] at h
                        refine sx_icmp_ne (tgt := 514) k315_507 (by decide) (fun q => absurd hb51 q) (fun _ => ?_)
                        refine sx_iconst (v := 1) k315_510 (by decide) ?_
                        refine sx_goto (tgt := 515) k315_511 (by decide) ?_
                        exact cx_retz k315_515 rt_315 h
                      · rw [if_neg hb51] at h
                        refine sx_icmp_ne (tgt := 514) k315_507 (by decide) (fun _ => ?_) (fun q => absurd q hb51)
                        refine sx_iconst (v := 0) k315_514 (by decide) ?_
                        exact cx_retz k315_515 rt_315 h
                    · rw [if_neg hb52] at h
                      by_cases hb54 : x1 = (2831 : Int32)
                      · rw [if_pos hb54] at h
                        refine sx_lookup (off := 488) (tgt := 516) k315_28 (by decide) (by rw [hb54]; rfl) (by decide) ?_
                        refine sx_iload_n (i := 3) k315_516 rfl rfl ?_
                        refine sx_iconst (v := 4) k315_517 (by decide) ?_
                        by_cases hb53 : v3 = (4 : Int32)
                        · rw [if_pos hb53] at h
                          refine sx_icmp_ne (tgt := 525) k315_518 (by decide) (fun q => absurd hb53 q) (fun _ => ?_)
                          refine sx_iconst (v := 1) k315_521 (by decide) ?_
                          refine sx_goto (tgt := 526) k315_522 (by decide) ?_
                          exact cx_retz k315_526 rt_315 h
                        · rw [if_neg hb53] at h
                          refine sx_icmp_ne (tgt := 525) k315_518 (by decide) (fun _ => ?_) (fun q => absurd q hb53)
                          refine sx_iconst (v := 0) k315_525 (by decide) ?_
                          exact cx_retz k315_526 rt_315 h
                      · rw [if_neg hb54] at h
                        by_cases hb56 : x1 = (2832 : Int32)
                        · rw [if_pos hb56] at h
                          refine sx_lookup (off := 188) (tgt := 216) k315_28 (by decide) (by rw [hb56]; rfl) (by decide) ?_
                          refine sx_iload_n (i := 3) k315_216 rfl rfl ?_
                          by_cases hb55 : v3 = 0
                          · rw [if_pos hb55] at h
                            refine sx_if_ne (tgt := 224) k315_217 (by decide) (fun q => absurd hb55 q) (fun _ => ?_)
                            refine sx_iconst (v := 1) k315_220 (by decide) ?_
                            refine sx_goto (tgt := 225) k315_221 (by decide) ?_
                            exact cx_retz k315_225 rt_315 h
                          · rw [if_neg hb55] at h
                            refine sx_if_ne (tgt := 224) k315_217 (by decide) (fun _ => ?_) (fun q => absurd q hb55)
                            refine sx_iconst (v := 0) k315_224 (by decide) ?_
                            exact cx_retz k315_225 rt_315 h
                        · rw [if_neg hb56] at h
                          by_cases hb58 : x1 = (3077 : Int32)
                          · rw [if_pos hb58] at h
                            refine sx_lookup (off := 420) (tgt := 448) k315_28 (by decide) (by rw [hb58]; rfl) (by decide) ?_
                            refine sx_iload_n (i := 3) k315_448 rfl rfl ?_
                            refine sx_bipush (v := 12) k315_449 (by decide) ?_
                            by_cases hb57 : v3 = (12 : Int32)
                            · rw [if_pos hb57] at h
                              refine sx_icmp_ne (tgt := 458) k315_451 (by decide) (fun q => absurd hb57 q) (fun _ => ?_)
                              refine sx_iconst (v := 1) k315_454 (by decide) ?_
                              refine sx_goto (tgt := 459) k315_455 (by decide) ?_
                              exact cx_retz k315_459 rt_315 h
                            · rw [if_neg hb57] at h
                              refine sx_icmp_ne (tgt := 458) k315_451 (by decide) (fun _ => ?_) (fun q => absurd q hb57)
                              refine sx_iconst (v := 0) k315_458 (by decide) ?_
                              exact cx_retz k315_459 rt_315 h
                          · rw [if_neg hb58] at h
                            by_cases hb60 : x1 = (3085 : Int32)
                            · rw [if_pos hb60] at h
                              refine sx_lookup (off := 188) (tgt := 216) k315_28 (by decide) (by rw [hb60]; rfl) (by decide) ?_
                              refine sx_iload_n (i := 3) k315_216 rfl rfl ?_
                              by_cases hb59 : v3 = 0
                              · rw [if_pos hb59] at h
                                refine sx_if_ne (tgt := 224) k315_217 (by decide) (fun q => absurd hb59 q) (fun _ => ?_)
                                refine sx_iconst (v := 1) k315_220 (by decide) ?_
                                refine sx_goto (tgt := 225) k315_221 (by decide) ?_
                                exact cx_retz k315_225 rt_315 h
                              · rw [if_neg hb59] at h
                                refine sx_if_ne (tgt := 224) k315_217 (by decide) (fun _ => ?_) (fun q => absurd q hb59)
                                refine sx_iconst (v := 0) k315_224 (by decide) ?_
                                exact cx_retz k315_225 rt_315 h
                            · rw [if_neg hb60] at h
                              by_cases hb62 : x1 = (3843 : Int32)
                              · rw [if_pos hb62] at h
                                refine sx_lookup (off := 519) (tgt := 547) k315_28 (by decide) (by rw [hb62]; rfl) (by decide) ?_
                                refine sx_iload_n (i := 3) k315_547 rfl rfl ?_
                                refine sx_iconst (v := 3) k315_548 (by decide) ?_
                                by_cases hb61 : v3 = (3 : Int32)
                                · rw [if_pos hb61] at h
                                  refine sx_icmp_ne (tgt := 556) k315_549 (by decide) (fun q => absurd hb61 q) (fun _ => ?_)
                                  refine sx_iconst (v := 1) k315_552 (by decide) ?_
                                  refine sx_goto (tgt := 557) k315_553 (by decide) ?_
                                  exact cx_retz k315_557 rt_315 h
                                · rw [if_neg hb61] at h
                                  refine sx_icmp_ne (tgt := 556) k315_549 (by decide) (fun _ => ?_) (fun q => absurd q hb61)
                                  refine sx_iconst (v := 0) k315_556 (by decide) ?_
                                  exact cx_retz k315_557 rt_315 h
                              · rw [if_neg hb62] at h
                                by_cases hb64 : x1 = (3849 : Int32)
                                · rw [if_pos hb64] at h
                                  refine sx_lookup (off := 530) (tgt := 558) k315_28 (by decide) (by rw [hb64]; rfl) (by decide) ?_
                                  refine sx_iload_n (i := 3) k315_558 rfl rfl ?_
                                  refine sx_bipush (v := 9) k315_559 (by decide) ?_
                                  by_cases hb63 : v3 = (9 : Int32)
                                  · rw [if_pos hb63] at h
                                    refine sx_icmp_ne (tgt := 568) k315_561 (by decide) (fun q => absurd hb63 q) (fun _ => ?_)
                                    refine sx_iconst (v := 1) k315_564 (by decide) ?_
                                    refine sx_goto (tgt := 569) k315_565 (by decide) ?_
                                    exact cx_retz k315_569 rt_315 h
                                  · rw [if_neg hb63] at h
                                    refine sx_icmp_ne (tgt := 568) k315_561 (by decide) (fun _ => ?_) (fun q => absurd q hb63)
                                    refine sx_iconst (v := 0) k315_568 (by decide) ?_
                                    exact cx_retz k315_569 rt_315 h
                                · rw [if_neg hb64] at h
                                  by_cases hb66 : x1 = (3851 : Int32)
                                  · rw [if_pos hb66] at h
                                    refine sx_lookup (off := 542) (tgt := 570) k315_28 (by decide) (by rw [hb66]; rfl) (by decide) ?_
                                    refine sx_iload_n (i := 3) k315_570 rfl rfl ?_
                                    refine sx_iconst (v := 5) k315_571 (by decide) ?_
                                    by_cases hb65 : v3 = (5 : Int32)
                                    · rw [if_pos hb65] at h
                                      refine sx_icmp_ne (tgt := 579) k315_572 (by decide) (fun q => absurd hb65 q) (fun _ => ?_)
                                      refine sx_iconst (v := 1) k315_575 (by decide) ?_
                                      refine sx_goto (tgt := 580) k315_576 (by decide) ?_
                                      exact cx_retz k315_580 rt_315 h
                                    · rw [if_neg hb65] at h
                                      refine sx_icmp_ne (tgt := 579) k315_572 (by decide) (fun _ => ?_) (fun q => absurd q hb65)
                                      refine sx_iconst (v := 0) k315_579 (by decide) ?_
                                      exact cx_retz k315_580 rt_315 h
                                  · rw [if_neg hb66] at h
                                    by_cases hb71 : x1 = (3852 : Int32)
                                    · rw [if_pos hb71] at h
                                      refine sx_lookup (off := 499) (tgt := 527) k315_28 (by decide) (by rw [hb71]; rfl) (by decide) ?_
                                      refine sx_iload_n (i := 3) k315_527 rfl rfl ?_
                                      refine sx_iconst (v := 2) k315_528 (by decide) ?_
                                      by_cases hb67 : v3 = (2 : Int32)
                                      · rw [if_pos hb67] at h
                                        refine sx_icmp_ne (tgt := 545) k315_529 (by decide) (fun q => absurd hb67 q) (fun _ => ?_)
                                        refine sx_aload k315_532 rfl ?_
                                        refine sx_bipush (v := 12) k315_534 (by decide) ?_
                                        obtain ⟨x68, e69, h⟩ := Option.bind_eq_some_iff.mp h
                                        refine cx_iald k315_536 sk_140 e69 ?_
                                        refine sx_iconst (v := 1) k315_537 (by decide) ?_
                                        by_cases hb70 : (1 : Int32) < x68
                                        · rw [if_pos hb70] at h
                                          refine sx_icmp_gt (tgt := 545) k315_538 (by decide) (fun _ => ?_) (fun q => absurd hb70 q)
                                          refine sx_iconst (v := 0) k315_545 (by decide) ?_
                                          exact cx_retz k315_546 rt_315 h
                                        · rw [if_neg hb70] at h
                                          refine sx_icmp_gt (tgt := 545) k315_538 (by decide) (fun q => absurd q hb70) (fun _ => ?_)
                                          refine sx_iconst (v := 1) k315_541 (by decide) ?_
                                          refine sx_goto (tgt := 546) k315_542 (by decide) ?_
                                          exact cx_retz k315_546 rt_315 h
                                      · rw [if_neg hb67] at h
                                        refine sx_icmp_ne (tgt := 545) k315_529 (by decide) (fun _ => ?_) (fun q => absurd q hb67)
                                        refine sx_iconst (v := 0) k315_545 (by decide) ?_
                                        exact cx_retz k315_546 rt_315 h
                                    · rw [if_neg hb71] at h
                                      by_cases hb73 : x1 = (4353 : Int32)
                                      · rw [if_pos hb73] at h
                                        refine sx_lookup (off := 188) (tgt := 216) k315_28 (by decide) (by rw [hb73]; rfl) (by decide) ?_
                                        refine sx_iload_n (i := 3) k315_216 rfl rfl ?_
                                        by_cases hb72 : v3 = 0
                                        · rw [if_pos hb72] at h
                                          refine sx_if_ne (tgt := 224) k315_217 (by decide) (fun q => absurd hb72 q) (fun _ => ?_)
                                          refine sx_iconst (v := 1) k315_220 (by decide) ?_
                                          refine sx_goto (tgt := 225) k315_221 (by decide) ?_
                                          exact cx_retz k315_225 rt_315 h
                                        · rw [if_neg hb72] at h
                                          refine sx_if_ne (tgt := 224) k315_217 (by decide) (fun _ => ?_) (fun q => absurd q hb72)
                                          refine sx_iconst (v := 0) k315_224 (by decide) ?_
                                          exact cx_retz k315_225 rt_315 h
                                      · rw [if_neg hb73] at h
                                        by_cases hb79 : x1 = (4865 : Int32)
                                        · rw [if_pos hb79] at h
                                          refine sx_lookup (off := 432) (tgt := 460) k315_28 (by decide) (by rw [hb79]; rfl) (by decide) ?_
                                          refine sx_iload_n (i := 3) k315_460 rfl rfl ?_
                                          refine sx_bipush (v := 15) k315_461 (by decide) ?_
                                          by_cases hb74 : v3 < (15 : Int32)
                                          · rw [if_pos hb74] at h
                                            refine sx_icmp_lt (tgt := 485) k315_463 (by decide) (fun _ => ?_) (fun q => absurd hb74 q)
                                            refine sx_iconst (v := 0) k315_485 (by decide) ?_
                                            exact cx_retz k315_486 rt_315 h
                                          · rw [if_neg hb74] at h
                                            refine sx_icmp_lt (tgt := 485) k315_463 (by decide) (fun q => absurd q hb74) (fun _ => ?_)
                                            refine sx_iload_n (i := 3) k315_466 rfl rfl ?_
                                            refine sx_bipush (v := 42) k315_467 (by decide) ?_
                                            by_cases hb75 : (42 : Int32) < v3
                                            · rw [if_pos hb75] at h
                                              refine sx_icmp_gt (tgt := 485) k315_469 (by decide) (fun _ => ?_) (fun q => absurd hb75 q)
                                              refine sx_iconst (v := 0) k315_485 (by decide) ?_
                                              exact cx_retz k315_486 rt_315 h
                                            · rw [if_neg hb75] at h
                                              refine sx_icmp_gt (tgt := 485) k315_469 (by decide) (fun q => absurd q hb75) (fun _ => ?_)
                                              refine sx_aload k315_472 rfl ?_
                                              refine sx_bipush (v := 12) k315_474 (by decide) ?_
                                              obtain ⟨x76, e77, h⟩ := Option.bind_eq_some_iff.mp h
                                              refine cx_iald k315_476 sk_140 e77 ?_
                                              refine sx_iconst (v := 1) k315_477 (by decide) ?_
                                              by_cases hb78 : (1 : Int32) < x76
                                              · rw [if_pos hb78] at h
                                                refine sx_icmp_gt (tgt := 485) k315_478 (by decide) (fun _ => ?_) (fun q => absurd hb78 q)
                                                refine sx_iconst (v := 0) k315_485 (by decide) ?_
                                                exact cx_retz k315_486 rt_315 h
                                              · rw [if_neg hb78] at h
                                                refine sx_icmp_gt (tgt := 485) k315_478 (by decide) (fun q => absurd q hb78) (fun _ => ?_)
                                                refine sx_iconst (v := 1) k315_481 (by decide) ?_
                                                refine sx_goto (tgt := 486) k315_482 (by decide) ?_
                                                exact cx_retz k315_486 rt_315 h
                                        · rw [if_neg hb79] at h
                                          by_cases hb84 : x1 = (5121 : Int32)
                                          · rw [if_pos hb84] at h
                                            refine sx_lookup (off := 198) (tgt := 226) k315_28 (by decide) (by rw [hb84]; rfl) (by decide) ?_
                                            refine sx_iload_n (i := 3) k315_226 rfl rfl ?_
                                            by_cases hb80 : v3 ≤ 0
                                            · rw [if_pos hb80] at h
                                              refine sx_if_le (tgt := 255) k315_227 (by decide) (fun _ => ?_) (fun q => absurd hb80 q)
                                              refine sx_iconst (v := 0) k315_255 (by decide) ?_
                                              exact cx_retz k315_256 rt_315 h
                                            · rw [if_neg hb80] at h
                                              refine sx_if_le (tgt := 255) k315_227 (by decide) (fun q => absurd q hb80) (fun _ => ?_)
                                              refine sx_iload k315_230 rfl ?_
                                              refine sx_iconst (v := 1) k315_232 (by decide) ?_
                                              by_cases hb81 : s0 < (1 : Int32)
                                              · rw [if_pos hb81] at h
                                                refine sx_icmp_lt (tgt := 255) k315_233 (by decide) (fun _ => ?_) (fun q => absurd hb81 q)
                                                refine sx_iconst (v := 0) k315_255 (by decide) ?_
                                                exact cx_retz k315_256 rt_315 h
                                              · rw [if_neg hb81] at h
                                                refine sx_icmp_lt (tgt := 255) k315_233 (by decide) (fun q => absurd q hb81) (fun _ => ?_)
                                                refine sx_iload k315_236 rfl ?_
                                                refine sx_bipush (v := 8) k315_238 (by decide) ?_
                                                by_cases hb82 : (8 : Int32) < s0
                                                · rw [if_pos hb82] at h
                                                  refine sx_icmp_gt (tgt := 255) k315_240 (by decide) (fun _ => ?_) (fun q => absurd hb82 q)
                                                  refine sx_iconst (v := 0) k315_255 (by decide) ?_
                                                  exact cx_retz k315_256 rt_315 h
                                                · rw [if_neg hb82] at h
                                                  refine sx_icmp_gt (tgt := 255) k315_240 (by decide) (fun q => absurd q hb82) (fun _ => ?_)
                                                  refine sx_iload_n (i := 3) k315_243 rfl rfl ?_
                                                  refine sx_iconst (v := 1) k315_244 (by decide) ?_
                                                  refine sx_iload k315_245 rfl ?_
                                                  refine sx_iadd k315_247 ?_
                                                  by_cases hb83 : v3 = ((1 : Int32) + s0)
                                                  · rw [if_pos hb83] at h
                                                    refine sx_icmp_ne (tgt := 255) k315_248 (by decide) (fun q => absurd hb83 q) (fun _ => ?_)
                                                    refine sx_iconst (v := 1) k315_251 (by decide) ?_
                                                    refine sx_goto (tgt := 256) k315_252 (by decide) ?_
                                                    exact cx_retz k315_256 rt_315 h
                                                  · rw [if_neg hb83] at h
                                                    refine sx_icmp_ne (tgt := 255) k315_248 (by decide) (fun _ => ?_) (fun q => absurd q hb83)
                                                    refine sx_iconst (v := 0) k315_255 (by decide) ?_
                                                    exact cx_retz k315_256 rt_315 h
                                          · rw [if_neg hb84] at h
                                            by_cases hb89 : x1 = (5123 : Int32)
                                            · rw [if_pos hb89] at h
                                              refine sx_lookup (off := 229) (tgt := 257) k315_28 (by decide) (by rw [hb89]; rfl) (by decide) ?_
                                              refine sx_iload_n (i := 3) k315_257 rfl rfl ?_
                                              by_cases hb85 : v3 ≤ 0
                                              · rw [if_pos hb85] at h
                                                refine sx_if_le (tgt := 288) k315_258 (by decide) (fun _ => ?_) (fun q => absurd hb85 q)
                                                refine sx_iconst (v := 0) k315_288 (by decide) ?_
                                                exact cx_retz k315_289 rt_315 h
                                              · rw [if_neg hb85] at h
                                                refine sx_if_le (tgt := 288) k315_258 (by decide) (fun q => absurd q hb85) (fun _ => ?_)
                                                refine sx_iload k315_261 rfl ?_
                                                refine sx_iconst (v := 1) k315_263 (by decide) ?_
                                                by_cases hb86 : s0 < (1 : Int32)
                                                · rw [if_pos hb86] at h
                                                  refine sx_icmp_lt (tgt := 288) k315_264 (by decide) (fun _ => ?_) (fun q => absurd hb86 q)
                                                  refine sx_iconst (v := 0) k315_288 (by decide) ?_
                                                  exact cx_retz k315_289 rt_315 h
                                                · rw [if_neg hb86] at h
                                                  refine sx_icmp_lt (tgt := 288) k315_264 (by decide) (fun q => absurd q hb86) (fun _ => ?_)
                                                  refine sx_iload k315_267 rfl ?_
                                                  refine sx_bipush (v := 6) k315_269 (by decide) ?_
                                                  by_cases hb87 : (6 : Int32) < s0
                                                  · rw [if_pos hb87] at h
                                                    refine sx_icmp_gt (tgt := 288) k315_271 (by decide) (fun _ => ?_) (fun q => absurd hb87 q)
                                                    refine sx_iconst (v := 0) k315_288 (by decide) ?_
                                                    exact cx_retz k315_289 rt_315 h
                                                  · rw [if_neg hb87] at h
                                                    refine sx_icmp_gt (tgt := 288) k315_271 (by decide) (fun q => absurd q hb87) (fun _ => ?_)
                                                    refine sx_iload_n (i := 3) k315_274 rfl rfl ?_
                                                    refine sx_iconst (v := 1) k315_275 (by decide) ?_
                                                    refine sx_iconst (v := 5) k315_276 (by decide) ?_
                                                    refine sx_iload k315_277 rfl ?_
                                                    refine sx_imul k315_279 ?_
                                                    refine sx_iadd k315_280 ?_
                                                    by_cases hb88 : v3 = ((1 : Int32) + ((5 : Int32) * s0))
                                                    · rw [if_pos hb88] at h
                                                      refine sx_icmp_ne (tgt := 288) k315_281 (by decide) (fun q => absurd hb88 q) (fun _ => ?_)
                                                      refine sx_iconst (v := 1) k315_284 (by decide) ?_
                                                      refine sx_goto (tgt := 289) k315_285 (by decide) ?_
                                                      exact cx_retz k315_289 rt_315 h
                                                    · rw [if_neg hb88] at h
                                                      refine sx_icmp_ne (tgt := 288) k315_281 (by decide) (fun _ => ?_) (fun q => absurd q hb88)
                                                      refine sx_iconst (v := 0) k315_288 (by decide) ?_
                                                      exact cx_retz k315_289 rt_315 h
                                            · rw [if_neg hb89] at h
                                              refine sx_lookup (off := 553) (tgt := 581) k315_28 (by decide) (lsw_out (cs := [(769 : Int32), (1538 : Int32), (1541 : Int32), (1545 : Int32), (2049 : Int32), (2817 : Int32), (2818 : Int32), (2819 : Int32), (2820 : Int32), (2821 : Int32), (2831 : Int32), (2832 : Int32), (3077 : Int32), (3085 : Int32), (3843 : Int32), (3849 : Int32), (3851 : Int32), (3852 : Int32), (4353 : Int32), (4865 : Int32), (5121 : Int32), (5123 : Int32)]) (by decide) ⟨hb15, hb26, hb34, hb39, hb41, hb43, hb45, hb47, hb50, hb52, hb54, hb56, hb58, hb60, hb62, hb64, hb66, hb71, hb73, hb79, hb84, hb89, trivial⟩) (by decide) ?_
                                              refine sx_iload_n (i := 3) k315_581 rfl rfl ?_
                                              refine sx_iconst (v := 1) k315_582 (by decide) ?_
                                              by_cases hb90 : v3 = (1 : Int32)
                                              · rw [if_pos hb90] at h
                                                refine sx_icmp_ne (tgt := 590) k315_583 (by decide) (fun q => absurd hb90 q) (fun _ => ?_)
                                                refine sx_iconst (v := 1) k315_586 (by decide) ?_
                                                refine sx_goto (tgt := 591) k315_587 (by decide) ?_
                                                exact cx_retz k315_591 rt_315 h
                                              · rw [if_neg hb90] at h
                                                refine sx_icmp_ne (tgt := 590) k315_583 (by decide) (fun _ => ?_) (fun q => absurd q hb90)
                                                refine sx_iconst (v := 0) k315_590 (by decide) ?_
                                                exact cx_retz k315_591 rt_315 h
/-- CraftHouseModel.isData(III)Z -/
def f315 (p1 : Int32) (p2 : Int32) (p3 : Int32) (μ : Mem) : Option (Mem × Int32) :=
  if p3 ≤ 0 then
    c315_19 p1 p2 p3 (0 : Int32) μ
  else
    (ldA 140 (11 : Int32) μ).bind fun x2 =>
    c315_19 p1 p2 p3 x2 μ
theorem ok315 {L : Nat} (p1 : Int32) (p2 : Int32) (p3 : Int32) (μ : Mem) (res : Mem × Int32) (h : f315 p1 p2 p3 μ = some res) : Mx 315 [.ref 129, .int p1, .int p2, .int p3] (mk L μ) (mk L res.1, some (.int res.2)) := by
  refine Mx_of ml_315 (by rw [mx_315]; exact Nat.le_of_ble_eq_true rfl) ?_
  show Sx 315 0 [(0, .ref 129), (1, .int p1), (2, .int p2), (3, .int p3)] [] 0 0 (mk L μ) _
  unfold f315 at h
  refine sx_aload_n (i := 0) k315_0 rfl rfl ?_
  refine cx_getR (k := 26) k315_1 ow_315 fl_12_167 (by decide) sk_129 ft_11_26 sr_129_26 ?_
  refine cx_astore (lo2 := [(4, .ref 140), (0, .ref 129), (1, .int p1), (2, .int p2), (3, .int p3)]) k315_4 (by rw [mx_315]; decide) rfl ?_
  refine sx_iload_n (i := 3) k315_6 rfl rfl ?_
  by_cases hb1 : p3 ≤ 0
  · rw [if_pos hb1] at h
    refine sx_if_le (tgt := 18) k315_7 (by decide) (fun _ => ?_) (fun q => absurd hb1 q)
    refine sx_iconst (v := 0) k315_18 (by decide) ?_
    refine sx_pick (lo2 := [(0, .ref 129), (1, .int p1), (2, .int p2), (3, .int p3), (4, .ref 140)]) [1, 2, 3, 4, 0] rfl ?_
    exact c315_19_ok p1 p2 p3 (0 : Int32) _ _ h
  · rw [if_neg hb1] at h
    refine sx_if_le (tgt := 18) k315_7 (by decide) (fun q => absurd q hb1) (fun _ => ?_)
    refine sx_aload k315_10 rfl ?_
    refine sx_bipush (v := 11) k315_12 (by decide) ?_
    obtain ⟨x2, e3, h⟩ := Option.bind_eq_some_iff.mp h
    refine cx_iald k315_14 sk_140 e3 ?_
    refine sx_goto (tgt := 19) k315_15 (by decide) ?_
    refine sx_pick (lo2 := [(0, .ref 129), (1, .int p1), (2, .int p2), (3, .int p3), (4, .ref 140)]) [1, 2, 3, 4, 0] rfl ?_
    exact c315_19_ok p1 p2 p3 x2 _ _ h
