theorem k197_0 : decode (gb 197) 0 = .ok (.iload_n 2, 1) := by decide +kernel
theorem k197_1 : decode (gb 197) 1 = .ok (.iconst 1, 1) := by decide +kernel
theorem k197_2 : decode (gb 197) 2 = .ok (.if_icmp .lt 8, 3) := by decide +kernel
theorem k197_5 : decode (gb 197) 5 = .ok (.iload_n 2, 1) := by decide +kernel
theorem k197_6 : decode (gb 197) 6 = .ok (.iconst 4, 1) := by decide +kernel
theorem k197_7 : decode (gb 197) 7 = .ok (.if_icmp .le 5, 3) := by decide +kernel
theorem k197_10 : decode (gb 197) 10 = .ok (.iconst (-1), 1) := by decide +kernel
theorem k197_11 : decode (gb 197) 11 = .ok (.ireturn, 1) := by decide +kernel
theorem k197_12 : decode (gb 197) 12 = .ok (.aload_n 0, 1) := by decide +kernel
theorem k197_13 : decode (gb 197) 13 = .ok (.getfield 12, 3) := by decide +kernel
theorem k197_16 : decode (gb 197) 16 = .ok (.getfield 88, 3) := by decide +kernel
theorem k197_19 : decode (gb 197) 19 = .ok (.iload_n 2, 1) := by decide +kernel
theorem k197_20 : decode (gb 197) 20 = .ok (.iadd, 1) := by decide +kernel
theorem k197_21 : decode (gb 197) 21 = .ok (.sipush 256, 3) := by decide +kernel
theorem k197_24 : decode (gb 197) 24 = .ok (.if_icmp .le 6, 3) := by decide +kernel
theorem k197_27 : decode (gb 197) 27 = .ok (.bipush (-3), 2) := by decide +kernel
theorem k197_29 : decode (gb 197) 29 = .ok (.ireturn, 1) := by decide +kernel
theorem k197_30 : decode (gb 197) 30 = .ok (.iload_n 2, 1) := by decide +kernel
theorem k197_31 : decode (gb 197) 31 = .ok (.iconst 1, 1) := by decide +kernel
theorem k197_32 : decode (gb 197) 32 = .ok (.isub, 1) := by decide +kernel
theorem k197_33 : decode (gb 197) 33 = .ok (.istore_n 3, 1) := by decide +kernel
theorem k197_34 : decode (gb 197) 34 = .ok (.iload_n 3, 1) := by decide +kernel
theorem k197_35 : decode (gb 197) 35 = .ok (.ifCond .lt 22, 3) := by decide +kernel
theorem k197_38 : decode (gb 197) 38 = .ok (.aload_n 0, 1) := by decide +kernel
theorem k197_39 : decode (gb 197) 39 = .ok (.getfield 12, 3) := by decide +kernel
theorem k197_42 : decode (gb 197) 42 = .ok (.iload_n 1, 1) := by decide +kernel
theorem k197_43 : decode (gb 197) 43 = .ok (.bipush 8, 2) := by decide +kernel
theorem k197_45 : decode (gb 197) 45 = .ok (.iload_n 3, 1) := by decide +kernel
theorem k197_46 : decode (gb 197) 46 = .ok (.imul, 1) := by decide +kernel
theorem k197_47 : decode (gb 197) 47 = .ok (.ishr, 1) := by decide +kernel
theorem k197_48 : decode (gb 197) 48 = .ok (.invokevirtual 92, 3) := by decide +kernel
theorem k197_51 : decode (gb 197) 51 = .ok (.iinc 3 (-1), 3) := by decide +kernel
theorem k197_54 : decode (gb 197) 54 = .ok (.goto (-20), 3) := by decide +kernel
theorem k197_57 : decode (gb 197) 57 = .ok (.aload_n 0, 1) := by decide +kernel
theorem k197_58 : decode (gb 197) 58 = .ok (.getfield 12, 3) := by decide +kernel
theorem k197_61 : decode (gb 197) 61 = .ok (.getfield 88, 3) := by decide +kernel
theorem k197_64 : decode (gb 197) 64 = .ok (.ireturn, 1) := by decide +kernel
def b197_34 (kl34 : Int32 → Int32 → Mem → Option (Mem × Int32)) (v1 : Int32) (v3 : Int32) (μ : Mem) : Option (Mem × Int32) :=
  if v3 < 0 then
    some (μ, (μ.1 1 1))
  else
    (f65 1 (jshr v1 ((8 : Int32) * v3)) μ).bind fun r2 =>
    nm (v3 + (-1 : Int32)) fun x4 =>
    kl34 v1 x4 r2
theorem b197_34_ok {L : Nat} (kl34 : Int32 → Int32 → Mem → Option (Mem × Int32)) (hk34 : (∀ (v1 : Int32) (v3 : Int32) (μ : Mem) (res : Mem × Int32), kl34 v1 v3 μ = some res → Sx 197 34 [(0, .ref 0), (1, .int v1), (3, .int v3)] [] 0 0 (mk L μ) (mk L res.1, some (.int res.2)))) (v1 : Int32) (v3 : Int32) (μ : Mem) (res : Mem × Int32) (h : b197_34 kl34 v1 v3 μ = some res) : Sx 197 34 [(0, .ref 0), (1, .int v1), (3, .int v3)] [] 0 0 (mk L μ) (mk L res.1, some (.int res.2)) := by
  unfold b197_34 at h
  refine sx_iload_n (i := 3) k197_34 rfl rfl ?_
  by_cases hb1 : v3 < 0
  · rw [if_pos hb1] at h
    refine sx_if_lt (tgt := 57) k197_35 (by decide) (fun _ => ?_) (fun q => absurd hb1 q)
    refine sx_aload_n (i := 0) k197_57 rfl rfl ?_
    refine cx_getR (k := 0) k197_58 ow_197 fl_11_12 (by decide) sk_0 ft_10_0 sr_0_0 ?_
    refine cx_getI (k := 1) k197_61 ow_197 fl_11_88 (by decide) sk_1 ft_1_1 ?_
    exact cx_reti k197_64 rt_197 h
  · rw [if_neg hb1] at h
    refine sx_if_lt (tgt := 57) k197_35 (by decide) (fun q => absurd q hb1) (fun _ => ?_)
    refine sx_aload_n (i := 0) k197_38 rfl rfl ?_
    refine cx_getR (k := 0) k197_39 ow_197 fl_11_12 (by decide) sk_0 ft_10_0 sr_0_0 ?_
    refine sx_iload_n (i := 1) k197_42 rfl rfl ?_
    refine sx_bipush (v := 8) k197_43 (by decide) ?_
    refine sx_iload_n (i := 3) k197_45 rfl rfl ?_
    refine sx_imul k197_46 ?_
    refine sx_ishr k197_47 ?_
    obtain ⟨r2, e3, h⟩ := Option.bind_eq_some_iff.mp h
    refine cx_V (sk := []) (vs := [.int (jshr v1 ((8 : Int32) * v3))]) st_197_65 k197_48 ow_197 cl_11_92 (by decide) rfl (Nat.le_of_ble_eq_true rfl) sk_1 (ok65 1 (jshr v1 ((8 : Int32) * v3)) sk_1 _ _ e3) (sk3 := []) rfl rfl ?_
    refine cx_iinc (c := -1) (lo2 := fun x4 => [(3, .int x4), (0, .ref 0), (1, .int v1)]) k197_51 rfl (by decide) (by rw [mx_197]; decide) (fun _ => rfl) h (fun x4 h => ?_)
    refine sx_goto (tgt := 34) k197_54 (by decide) ?_
    refine sx_pick (lo2 := [(0, .ref 0), (1, .int v1), (3, .int x4)]) [1, 2, 0] rfl ?_
    exact hk34 v1 x4 _ _ h
def l197_34 : Nat → Int32 × Int32 × Mem → Option (Mem × Int32) :=
  fixN (fun self x => b197_34 (fun v1 v3 μ => self (v1, v3, μ)) (x.1) (x.2.1) (x.2.2))
theorem l197_34_ok {L : Nat} (n : Nat) (v1 : Int32) (v3 : Int32) (μ : Mem) (res : Mem × Int32) (h : l197_34 n (v1, v3, μ) = some res) : Sx 197 34 [(0, .ref 0), (1, .int v1), (3, .int v3)] [] 0 0 (mk L μ) (mk L res.1, some (.int res.2)) := by
  have key := fixN_ind (P := fun x res => Sx 197 34 [(0, .ref 0), (1, .int (x.1)), (3, .int (x.2.1))] [] 0 0 (mk L (x.2.2)) (mk L res.1, some (.int res.2))) (F := fun self x => b197_34 (fun v1 v3 μ => self (v1, v3, μ)) (x.1) (x.2.1) (x.2.2)) (fun self hself x res h => b197_34_ok (fun v1 v3 μ => self (v1, v3, μ)) (fun v1 v3 μ res hh => hself (v1, v3, μ) res hh) (x.1) (x.2.1) (x.2.2) res h) n (v1, v3, μ) res h
  exact key
/-- CraftHouse.feed(II)I -/
def f197 (p1 : Int32) (p2 : Int32) (μ : Mem) : Option (Mem × Int32) :=
  if p2 < (1 : Int32) then
    some (μ, (-1 : Int32))
  else
    if p2 ≤ (4 : Int32) then
      if ((μ.1 1 1) + p2) ≤ (256 : Int32) then
        nm (p2 - (1 : Int32)) fun x4 =>
        l197_34 gF (p1, x4, μ)
      else
        some (μ, (-3 : Int32))
    else
      some (μ, (-1 : Int32))
theorem ok197 {L : Nat} (p1 : Int32) (p2 : Int32) (μ : Mem) (res : Mem × Int32) (h : f197 p1 p2 μ = some res) : Mx 197 [.ref 0, .int p1, .int p2] (mk L μ) (mk L res.1, some (.int res.2)) := by
  refine Mx_of ml_197 (by rw [mx_197]; exact Nat.le_of_ble_eq_true rfl) ?_
  show Sx 197 0 [(0, .ref 0), (1, .int p1), (2, .int p2)] [] 0 0 (mk L μ) _
  unfold f197 at h
  refine sx_iload_n (i := 2) k197_0 rfl rfl ?_
  refine sx_iconst (v := 1) k197_1 (by decide) ?_
  by_cases hb1 : p2 < (1 : Int32)
  · rw [if_pos hb1] at h
    refine sx_icmp_lt (tgt := 10) k197_2 (by decide) (fun _ => ?_) (fun q => absurd hb1 q)
    refine sx_iconst (v := -1) k197_10 (by decide) ?_
    exact cx_reti k197_11 rt_197 h
  · rw [if_neg hb1] at h
    refine sx_icmp_lt (tgt := 10) k197_2 (by decide) (fun q => absurd q hb1) (fun _ => ?_)
    refine sx_iload_n (i := 2) k197_5 rfl rfl ?_
    refine sx_iconst (v := 4) k197_6 (by decide) ?_
    by_cases hb2 : p2 ≤ (4 : Int32)
    · rw [if_pos hb2] at h
      refine sx_icmp_le (tgt := 12) k197_7 (by decide) (fun _ => ?_) (fun q => absurd hb2 q)
      refine sx_aload_n (i := 0) k197_12 rfl rfl ?_
      refine cx_getR (k := 0) k197_13 ow_197 fl_11_12 (by decide) sk_0 ft_10_0 sr_0_0 ?_
      refine cx_getI (k := 1) k197_16 ow_197 fl_11_88 (by decide) sk_1 ft_1_1 ?_
      refine sx_iload_n (i := 2) k197_19 rfl rfl ?_
      refine sx_iadd k197_20 ?_
      refine sx_sipush (v := 256) k197_21 (by decide) ?_
      by_cases hb3 : ((μ.1 1 1) + p2) ≤ (256 : Int32)
      · rw [if_pos hb3] at h
        refine sx_icmp_le (tgt := 30) k197_24 (by decide) (fun _ => ?_) (fun q => absurd hb3 q)
        refine sx_iload_n (i := 2) k197_30 rfl rfl ?_
        refine sx_iconst (v := 1) k197_31 (by decide) ?_
        refine sx_isub k197_32 ?_
        refine cx_nm h (fun x4 h => ?_)
        refine cx_istore_n (lo2 := [(3, .int x4), (0, .ref 0), (1, .int p1), (2, .int p2)]) k197_33 rfl (by rw [mx_197]; decide) rfl ?_
        refine sx_pick (lo2 := [(0, .ref 0), (1, .int p1), (3, .int x4)]) [1, 2, 0] rfl ?_
        exact l197_34_ok gF p1 x4 _ _ h
      · rw [if_neg hb3] at h
        refine sx_icmp_le (tgt := 30) k197_24 (by decide) (fun q => absurd q hb3) (fun _ => ?_)
        refine sx_bipush (v := -3) k197_27 (by decide) ?_
        exact cx_reti k197_29 rt_197 h
    · rw [if_neg hb2] at h
      refine sx_icmp_le (tgt := 12) k197_7 (by decide) (fun q => absurd q hb2) (fun _ => ?_)
      refine sx_iconst (v := -1) k197_10 (by decide) ?_
      exact cx_reti k197_11 rt_197 h
theorem k198_0 : decode (gb 198) 0 = .ok (.iload_n 1, 1) := by decide +kernel
theorem k198_1 : decode (gb 198) 1 = .ok (.ifCond .lt 14, 3) := by decide +kernel
theorem k198_4 : decode (gb 198) 4 = .ok (.iload_n 1, 1) := by decide +kernel
theorem k198_5 : decode (gb 198) 5 = .ok (.aload_n 0, 1) := by decide +kernel
theorem k198_6 : decode (gb 198) 6 = .ok (.getfield 12, 3) := by decide +kernel
theorem k198_9 : decode (gb 198) 9 = .ok (.getfield 88, 3) := by decide +kernel
theorem k198_12 : decode (gb 198) 12 = .ok (.if_icmp .lt 7, 3) := by decide +kernel
theorem k198_15 : decode (gb 198) 15 = .ok (.iconst (-1), 1) := by decide +kernel
theorem k198_16 : decode (gb 198) 16 = .ok (.goto 11, 3) := by decide +kernel
theorem k198_19 : decode (gb 198) 19 = .ok (.aload_n 0, 1) := by decide +kernel
theorem k198_20 : decode (gb 198) 20 = .ok (.getfield 12, 3) := by decide +kernel
theorem k198_23 : decode (gb 198) 23 = .ok (.iload_n 1, 1) := by decide +kernel
theorem k198_24 : decode (gb 198) 24 = .ok (.invokevirtual 95, 3) := by decide +kernel
theorem k198_27 : decode (gb 198) 27 = .ok (.ireturn, 1) := by decide +kernel
def c198_15 (μ : Mem) : Option (Mem × Int32) :=
  some (μ, (-1 : Int32))
theorem c198_15_ok {L : Nat} (μ : Mem) (res : Mem × Int32) (h : c198_15 μ = some res) : Sx 198 15 [] [] 0 0 (mk L μ) (mk L res.1, some (.int res.2)) := by
  unfold c198_15 at h
  refine sx_iconst (v := -1) k198_15 (by decide) ?_
  refine sx_goto (tgt := 27) k198_16 (by decide) ?_
  exact cx_reti k198_27 rt_198 h
/-- CraftHouse.taped(I)I -/
def f198 (p1 : Int32) (μ : Mem) : Option (Mem × Int32) :=
  if p1 < 0 then
    c198_15 μ
  else
    if p1 < (μ.1 1 1) then
      (f75 1 p1 μ).bind fun r3 =>
      some (r3.1, r3.2)
    else
      c198_15 μ
theorem ok198 {L : Nat} (p1 : Int32) (μ : Mem) (res : Mem × Int32) (h : f198 p1 μ = some res) : Mx 198 [.ref 0, .int p1] (mk L μ) (mk L res.1, some (.int res.2)) := by
  refine Mx_of ml_198 (by rw [mx_198]; exact Nat.le_of_ble_eq_true rfl) ?_
  show Sx 198 0 [(0, .ref 0), (1, .int p1)] [] 0 0 (mk L μ) _
  unfold f198 at h
  refine sx_iload_n (i := 1) k198_0 rfl rfl ?_
  by_cases hb1 : p1 < 0
  · rw [if_pos hb1] at h
    refine sx_if_lt (tgt := 15) k198_1 (by decide) (fun _ => ?_) (fun q => absurd hb1 q)
    refine sx_pick (lo2 := []) [] rfl ?_
    exact c198_15_ok _ _ h
  · rw [if_neg hb1] at h
    refine sx_if_lt (tgt := 15) k198_1 (by decide) (fun q => absurd q hb1) (fun _ => ?_)
    refine sx_iload_n (i := 1) k198_4 rfl rfl ?_
    refine sx_aload_n (i := 0) k198_5 rfl rfl ?_
    refine cx_getR (k := 0) k198_6 ow_198 fl_11_12 (by decide) sk_0 ft_10_0 sr_0_0 ?_
    refine cx_getI (k := 1) k198_9 ow_198 fl_11_88 (by decide) sk_1 ft_1_1 ?_
    by_cases hb2 : p1 < (μ.1 1 1)
    · rw [if_pos hb2] at h
      refine sx_icmp_lt (tgt := 19) k198_12 (by decide) (fun _ => ?_) (fun q => absurd hb2 q)
      refine sx_aload_n (i := 0) k198_19 rfl rfl ?_
      refine cx_getR (k := 0) k198_20 ow_198 fl_11_12 (by decide) sk_0 ft_10_0 sr_0_0 ?_
      refine sx_iload_n (i := 1) k198_23 rfl rfl ?_
      obtain ⟨r3, e4, h⟩ := Option.bind_eq_some_iff.mp h
      refine cx_V (sk := []) (vs := [.int p1]) st_198_75 k198_24 ow_198 cl_11_95 (by decide) rfl (Nat.le_of_ble_eq_true rfl) sk_1 (ok75 1 p1 sk_1 _ _ e4) (sk3 := [.int r3.2]) rfl rfl ?_
      exact cx_reti k198_27 rt_198 h
    · rw [if_neg hb2] at h
      refine sx_icmp_lt (tgt := 19) k198_12 (by decide) (fun q => absurd q hb2) (fun _ => ?_)
      refine sx_pick (lo2 := []) [] rfl ?_
      exact c198_15_ok _ _ h
theorem k199_0 : decode (gb 199) 0 = .ok (.aload_n 0, 1) := by decide +kernel
theorem k199_1 : decode (gb 199) 1 = .ok (.getfield 12, 3) := by decide +kernel
theorem k199_4 : decode (gb 199) 4 = .ok (.getfield 88, 3) := by decide +kernel
theorem k199_7 : decode (gb 199) 7 = .ok (.istore_n 1, 1) := by decide +kernel
theorem k199_8 : decode (gb 199) 8 = .ok (.aload_n 0, 1) := by decide +kernel
theorem k199_9 : decode (gb 199) 9 = .ok (.getfield 12, 3) := by decide +kernel
theorem k199_12 : decode (gb 199) 12 = .ok (.invokevirtual 99, 3) := by decide +kernel
theorem k199_15 : decode (gb 199) 15 = .ok (.iload_n 1, 1) := by decide +kernel
theorem k199_16 : decode (gb 199) 16 = .ok (.ireturn, 1) := by decide +kernel
/-- CraftHouse.wipe()I -/
def f199 (μ : Mem) : Option (Mem × Int32) :=
  (f64 1 μ).bind fun r1 =>
  some (r1, (μ.1 1 1))
theorem ok199 {L : Nat} (μ : Mem) (res : Mem × Int32) (h : f199 μ = some res) : Mx 199 [.ref 0] (mk L μ) (mk L res.1, some (.int res.2)) := by
  refine Mx_of ml_199 (by rw [mx_199]; exact Nat.le_of_ble_eq_true rfl) ?_
  show Sx 199 0 [(0, .ref 0)] [] 0 0 (mk L μ) _
  unfold f199 at h
  refine sx_aload_n (i := 0) k199_0 rfl rfl ?_
  refine cx_getR (k := 0) k199_1 ow_199 fl_11_12 (by decide) sk_0 ft_10_0 sr_0_0 ?_
  refine cx_getI (k := 1) k199_4 ow_199 fl_11_88 (by decide) sk_1 ft_1_1 ?_
  refine cx_istore_n (lo2 := [(1, .int (μ.1 1 1)), (0, .ref 0)]) k199_7 rfl (by rw [mx_199]; decide) rfl ?_
  refine sx_aload_n (i := 0) k199_8 rfl rfl ?_
  refine cx_getR (k := 0) k199_9 ow_199 fl_11_12 (by decide) sk_0 ft_10_0 sr_0_0 ?_
  obtain ⟨r1, e2, h⟩ := Option.bind_eq_some_iff.mp h
  refine cx_V (sk := []) (vs := []) st_199_64 k199_12 ow_199 cl_11_99 (by decide) rfl (Nat.le_of_ble_eq_true rfl) sk_1 (ok64 1 sk_1 _ _ e2) (sk3 := []) rfl rfl ?_
  refine sx_iload_n (i := 1) k199_15 rfl rfl ?_
  exact cx_reti k199_16 rt_199 h
theorem k200_0 : decode (gb 200) 0 = .ok (.aload_n 0, 1) := by decide +kernel
theorem k200_1 : decode (gb 200) 1 = .ok (.getfield 12, 3) := by decide +kernel
theorem k200_4 : decode (gb 200) 4 = .ok (.iconst 0, 1) := by decide +kernel
theorem k200_5 : decode (gb 200) 5 = .ok (.aload_n 0, 1) := by decide +kernel
theorem k200_6 : decode (gb 200) 6 = .ok (.getfield 12, 3) := by decide +kernel
theorem k200_9 : decode (gb 200) 9 = .ok (.getfield 88, 3) := by decide +kernel
theorem k200_12 : decode (gb 200) 12 = .ok (.invokevirtual 102, 3) := by decide +kernel
theorem k200_15 : decode (gb 200) 15 = .ok (.ireturn, 1) := by decide +kernel
/-- CraftHouse.check()I -/
def f200 (μ : Mem) : Option (Mem × Int32) :=
  (f78 1 (0 : Int32) (μ.1 1 1) μ).bind fun r1 =>
  some (r1.1, r1.2)
theorem ok200 {L : Nat} (μ : Mem) (res : Mem × Int32) (h : f200 μ = some res) : Mx 200 [.ref 0] (mk L μ) (mk L res.1, some (.int res.2)) := by
  refine Mx_of ml_200 (by rw [mx_200]; exact Nat.le_of_ble_eq_true rfl) ?_
  show Sx 200 0 [(0, .ref 0)] [] 0 0 (mk L μ) _
  unfold f200 at h
  refine sx_aload_n (i := 0) k200_0 rfl rfl ?_
  refine cx_getR (k := 0) k200_1 ow_200 fl_11_12 (by decide) sk_0 ft_10_0 sr_0_0 ?_
  refine sx_iconst (v := 0) k200_4 (by decide) ?_
  refine sx_aload_n (i := 0) k200_5 rfl rfl ?_
  refine cx_getR (k := 0) k200_6 ow_200 fl_11_12 (by decide) sk_0 ft_10_0 sr_0_0 ?_
  refine cx_getI (k := 1) k200_9 ow_200 fl_11_88 (by decide) sk_1 ft_1_1 ?_
  obtain ⟨r1, e2, h⟩ := Option.bind_eq_some_iff.mp h
  refine cx_V (sk := []) (vs := [.int (0 : Int32), .int (μ.1 1 1)]) st_200_78 k200_12 ow_200 cl_11_102 (by decide) rfl (Nat.le_of_ble_eq_true rfl) sk_1 (ok78 1 (0 : Int32) (μ.1 1 1) sk_1 _ _ e2) (sk3 := [.int r1.2]) rfl rfl ?_
  exact cx_reti k200_15 rt_200 h
theorem k204_0 : decode (gb 204) 0 = .ok (.aload_n 0, 1) := by decide +kernel
theorem k204_1 : decode (gb 204) 1 = .ok (.getfield 12, 3) := by decide +kernel
theorem k204_4 : decode (gb 204) 4 = .ok (.invokevirtual 99, 3) := by decide +kernel
theorem k204_7 : decode (gb 204) 7 = .ok (.iload_n 1, 1) := by decide +kernel
theorem k204_8 : decode (gb 204) 8 = .ok (.ireturn, 1) := by decide +kernel
/-- CraftHouse.refuseTape(I)I -/
def f204 (p1 : Int32) (μ : Mem) : Option (Mem × Int32) :=
  (f64 1 μ).bind fun r1 =>
  some (r1, p1)
theorem ok204 {L : Nat} (p1 : Int32) (μ : Mem) (res : Mem × Int32) (h : f204 p1 μ = some res) : Mx 204 [.ref 0, .int p1] (mk L μ) (mk L res.1, some (.int res.2)) := by
  refine Mx_of ml_204 (by rw [mx_204]; exact Nat.le_of_ble_eq_true rfl) ?_
  show Sx 204 0 [(0, .ref 0), (1, .int p1)] [] 0 0 (mk L μ) _
  unfold f204 at h
  refine sx_aload_n (i := 0) k204_0 rfl rfl ?_
  refine cx_getR (k := 0) k204_1 ow_204 fl_11_12 (by decide) sk_0 ft_10_0 sr_0_0 ?_
  obtain ⟨r1, e2, h⟩ := Option.bind_eq_some_iff.mp h
  refine cx_V (sk := []) (vs := []) st_204_64 k204_4 ow_204 cl_11_99 (by decide) rfl (Nat.le_of_ble_eq_true rfl) sk_1 (ok64 1 sk_1 _ _ e2) (sk3 := []) rfl rfl ?_
  refine sx_iload_n (i := 1) k204_7 rfl rfl ?_
  exact cx_reti k204_8 rt_204 h
theorem k202_0 : decode (gb 202) 0 = .ok (.aload_n 0, 1) := by decide +kernel
theorem k202_1 : decode (gb 202) 1 = .ok (.getfield 12, 3) := by decide +kernel
theorem k202_4 : decode (gb 202) 4 = .ok (.getfield 88, 3) := by decide +kernel
theorem k202_7 : decode (gb 202) 7 = .ok (.bipush 112, 2) := by decide +kernel
theorem k202_9 : decode (gb 202) 9 = .ok (.if_icmp .le 10, 3) := by decide +kernel
theorem k202_12 : decode (gb 202) 12 = .ok (.aload_n 0, 1) := by decide +kernel
theorem k202_13 : decode (gb 202) 13 = .ok (.bipush (-3), 2) := by decide +kernel
theorem k202_15 : decode (gb 202) 15 = .ok (.invokevirtual 113, 3) := by decide +kernel
theorem k202_18 : decode (gb 202) 18 = .ok (.ireturn, 1) := by decide +kernel
theorem k202_19 : decode (gb 202) 19 = .ok (.aload_n 0, 1) := by decide +kernel
theorem k202_20 : decode (gb 202) 20 = .ok (.getfield 12, 3) := by decide +kernel
theorem k202_23 : decode (gb 202) 23 = .ok (.aload_n 0, 1) := by decide +kernel
theorem k202_24 : decode (gb 202) 24 = .ok (.getfield 20, 3) := by decide +kernel
theorem k202_27 : decode (gb 202) 27 = .ok (.invokestatic 116, 3) := by decide +kernel
theorem k202_30 : decode (gb 202) 30 = .ok (.aload_n 0, 1) := by decide +kernel
theorem k202_31 : decode (gb 202) 31 = .ok (.getfield 12, 3) := by decide +kernel
theorem k202_34 : decode (gb 202) 34 = .ok (.invokevirtual 99, 3) := by decide +kernel
theorem k202_37 : decode (gb 202) 37 = .ok (.aload_n 0, 1) := by decide +kernel
theorem k202_38 : decode (gb 202) 38 = .ok (.getfield 12, 3) := by decide +kernel
theorem k202_41 : decode (gb 202) 41 = .ok (.aload_n 0, 1) := by decide +kernel
theorem k202_42 : decode (gb 202) 42 = .ok (.getfield 20, 3) := by decide +kernel
theorem k202_45 : decode (gb 202) 45 = .ok (.invokevirtual 120, 3) := by decide +kernel
theorem k202_48 : decode (gb 202) 48 = .ok (.aload_n 0, 1) := by decide +kernel
theorem k202_49 : decode (gb 202) 49 = .ok (.getfield 12, 3) := by decide +kernel
theorem k202_52 : decode (gb 202) 52 = .ok (.getfield 88, 3) := by decide +kernel
theorem k202_55 : decode (gb 202) 55 = .ok (.ireturn, 1) := by decide +kernel
/-- CraftHouse.tapeToUnit()I -/
def f202 (μ : Mem) : Option (Mem × Int32) :=
  if (μ.1 1 1) ≤ (112 : Int32) then
    (f3 1 3 μ).bind fun r2 =>
    (f64 1 r2).bind fun r4 =>
    (f71 1 3 r4).bind fun r6 =>
    some (r6, (r6.1 1 1))
  else
    (f204 (-3 : Int32) μ).bind fun r8 =>
    some (r8.1, r8.2)
theorem ok202 {L : Nat} (μ : Mem) (res : Mem × Int32) (h : f202 μ = some res) : Mx 202 [.ref 0] (mk L μ) (mk L res.1, some (.int res.2)) := by
  refine Mx_of ml_202 (by rw [mx_202]; exact Nat.le_of_ble_eq_true rfl) ?_
  show Sx 202 0 [(0, .ref 0)] [] 0 0 (mk L μ) _
  unfold f202 at h
  refine sx_aload_n (i := 0) k202_0 rfl rfl ?_
  refine cx_getR (k := 0) k202_1 ow_202 fl_11_12 (by decide) sk_0 ft_10_0 sr_0_0 ?_
  refine cx_getI (k := 1) k202_4 ow_202 fl_11_88 (by decide) sk_1 ft_1_1 ?_
  refine sx_bipush (v := 112) k202_7 (by decide) ?_
  by_cases hb1 : (μ.1 1 1) ≤ (112 : Int32)
  · rw [if_pos hb1] at h
    refine sx_icmp_le (tgt := 19) k202_9 (by decide) (fun _ => ?_) (fun q => absurd hb1 q)
    refine sx_aload_n (i := 0) k202_19 rfl rfl ?_
    refine cx_getR (k := 0) k202_20 ow_202 fl_11_12 (by decide) sk_0 ft_10_0 sr_0_0 ?_
    refine sx_aload_n (i := 0) k202_23 rfl rfl ?_
    refine cx_getR (k := 1) k202_24 ow_202 fl_11_20 (by decide) sk_0 ft_10_1 sr_0_1 ?_
    obtain ⟨r2, e3, h⟩ := Option.bind_eq_some_iff.mp h
    refine cx_S (sk := []) (vs := [.ref 1, .ref 3]) st_202_3 k202_27 ow_202 cl_11_116 (by decide) rfl (Nat.le_of_ble_eq_true rfl) (ok3 1 3 sk_1 sk_3 _ _ e3) (sk3 := []) rfl rfl ?_
    refine sx_aload_n (i := 0) k202_30 rfl rfl ?_
    refine cx_getR (k := 0) k202_31 ow_202 fl_11_12 (by decide) sk_0 ft_10_0 sr_0_0 ?_
    obtain ⟨r4, e5, h⟩ := Option.bind_eq_some_iff.mp h
    refine cx_V (sk := []) (vs := []) st_202_64 k202_34 ow_202 cl_11_99 (by decide) rfl (Nat.le_of_ble_eq_true rfl) sk_1 (ok64 1 sk_1 _ _ e5) (sk3 := []) rfl rfl ?_
    refine sx_aload_n (i := 0) k202_37 rfl rfl ?_
    refine cx_getR (k := 0) k202_38 ow_202 fl_11_12 (by decide) sk_0 ft_10_0 sr_0_0 ?_
    refine sx_aload_n (i := 0) k202_41 rfl rfl ?_
    refine cx_getR (k := 1) k202_42 ow_202 fl_11_20 (by decide) sk_0 ft_10_1 sr_0_1 ?_
    obtain ⟨r6, e7, h⟩ := Option.bind_eq_some_iff.mp h
    refine cx_V (sk := []) (vs := [.ref 3]) st_202_71 k202_45 ow_202 cl_11_120 (by decide) rfl (Nat.le_of_ble_eq_true rfl) sk_1 (ok71 1 3 sk_1 sk_3 _ _ e7) (sk3 := []) rfl rfl ?_
    refine sx_aload_n (i := 0) k202_48 rfl rfl ?_
    refine cx_getR (k := 0) k202_49 ow_202 fl_11_12 (by decide) sk_0 ft_10_0 sr_0_0 ?_
    refine cx_getI (k := 1) k202_52 ow_202 fl_11_88 (by decide) sk_1 ft_1_1 ?_
    exact cx_reti k202_55 rt_202 h
  · rw [if_neg hb1] at h
    refine sx_icmp_le (tgt := 19) k202_9 (by decide) (fun q => absurd q hb1) (fun _ => ?_)
    refine sx_aload_n (i := 0) k202_12 rfl rfl ?_
    refine sx_bipush (v := -3) k202_13 (by decide) ?_
    obtain ⟨r8, e9, h⟩ := Option.bind_eq_some_iff.mp h
    refine cx_V (sk := []) (vs := [.int (-3 : Int32)]) st_202_204 k202_15 ow_202 cl_11_113 (by decide) rfl (Nat.le_of_ble_eq_true rfl) sk_0 (ok204 (-3 : Int32) _ _ e9) (sk3 := [.int r8.2]) rfl rfl ?_
    exact cx_reti k202_18 rt_202 h
theorem k203_0 : decode (gb 203) 0 = .ok (.aload_n 0, 1) := by decide +kernel
theorem k203_1 : decode (gb 203) 1 = .ok (.getfield 12, 3) := by decide +kernel
theorem k203_4 : decode (gb 203) 4 = .ok (.getfield 88, 3) := by decide +kernel
theorem k203_7 : decode (gb 203) 7 = .ok (.bipush 8, 2) := by decide +kernel
theorem k203_9 : decode (gb 203) 9 = .ok (.if_icmp .eq 5, 3) := by decide +kernel
theorem k203_12 : decode (gb 203) 12 = .ok (.iconst (-1), 1) := by decide +kernel
theorem k203_13 : decode (gb 203) 13 = .ok (.ireturn, 1) := by decide +kernel
theorem k203_14 : decode (gb 203) 14 = .ok (.aload_n 0, 1) := by decide +kernel
theorem k203_15 : decode (gb 203) 15 = .ok (.getfield 12, 3) := by decide +kernel
theorem k203_18 : decode (gb 203) 18 = .ok (.iconst 0, 1) := by decide +kernel
theorem k203_19 : decode (gb 203) 19 = .ok (.invokevirtual 124, 3) := by decide +kernel
theorem k203_22 : decode (gb 203) 22 = .ok (.i2l, 1) := by decide +kernel
theorem k203_23 : decode (gb 203) 23 = .ok (.bipush 32, 2) := by decide +kernel
theorem k203_25 : decode (gb 203) 25 = .ok (.lshl, 1) := by decide +kernel
theorem k203_26 : decode (gb 203) 26 = .ok (.aload_n 0, 1) := by decide +kernel
theorem k203_27 : decode (gb 203) 27 = .ok (.getfield 12, 3) := by decide +kernel
theorem k203_30 : decode (gb 203) 30 = .ok (.iconst 4, 1) := by decide +kernel
theorem k203_31 : decode (gb 203) 31 = .ok (.invokevirtual 124, 3) := by decide +kernel
theorem k203_34 : decode (gb 203) 34 = .ok (.i2l, 1) := by decide +kernel
theorem k203_35 : decode (gb 203) 35 = .ok (.ldc2_w 127, 3) := by decide +kernel
theorem k203_38 : decode (gb 203) 38 = .ok (.land, 1) := by decide +kernel
theorem k203_39 : decode (gb 203) 39 = .ok (.lor, 1) := by decide +kernel
theorem k203_40 : decode (gb 203) 40 = .ok (.lstore_n 1, 1) := by decide +kernel
theorem k203_41 : decode (gb 203) 41 = .ok (.lload_n 1, 1) := by decide +kernel
theorem k203_42 : decode (gb 203) 42 = .ok (.invokestatic 129, 3) := by decide +kernel
theorem k203_45 : decode (gb 203) 45 = .ok (.lstore_n 3, 1) := by decide +kernel
theorem k203_46 : decode (gb 203) 46 = .ok (.lload_n 3, 1) := by decide +kernel
theorem k203_47 : decode (gb 203) 47 = .ok (.lconst 1, 1) := by decide +kernel
theorem k203_48 : decode (gb 203) 48 = .ok (.lcmp, 1) := by decide +kernel
theorem k203_49 : decode (gb 203) 49 = .ok (.ifCond .ne 10, 3) := by decide +kernel
theorem k203_52 : decode (gb 203) 52 = .ok (.aload_n 0, 1) := by decide +kernel
theorem k203_53 : decode (gb 203) 53 = .ok (.bipush (-2), 2) := by decide +kernel
theorem k203_55 : decode (gb 203) 55 = .ok (.invokevirtual 113, 3) := by decide +kernel
theorem k203_58 : decode (gb 203) 58 = .ok (.ireturn, 1) := by decide +kernel
theorem k203_59 : decode (gb 203) 59 = .ok (.aload_n 0, 1) := by decide +kernel
theorem k203_60 : decode (gb 203) 60 = .ok (.getfield 12, 3) := by decide +kernel
theorem k203_63 : decode (gb 203) 63 = .ok (.invokevirtual 99, 3) := by decide +kernel
theorem k203_66 : decode (gb 203) 66 = .ok (.aload_n 0, 1) := by decide +kernel
theorem k203_67 : decode (gb 203) 67 = .ok (.getfield 12, 3) := by decide +kernel
theorem k203_70 : decode (gb 203) 70 = .ok (.lload_n 1, 1) := by decide +kernel
theorem k203_71 : decode (gb 203) 71 = .ok (.lload_n 3, 1) := by decide +kernel
theorem k203_72 : decode (gb 203) 72 = .ok (.lxor, 1) := by decide +kernel
theorem k203_73 : decode (gb 203) 73 = .ok (.invokevirtual 133, 3) := by decide +kernel
theorem k203_76 : decode (gb 203) 76 = .ok (.aload_n 0, 1) := by decide +kernel
theorem k203_77 : decode (gb 203) 77 = .ok (.getfield 12, 3) := by decide +kernel
theorem k203_80 : decode (gb 203) 80 = .ok (.getfield 88, 3) := by decide +kernel
theorem k203_83 : decode (gb 203) 83 = .ok (.ireturn, 1) := by decide +kernel
/-- CraftHouse.tapeToMended()I -/
def f203 (μ : Mem) : Option (Mem × Int32) :=
  if (μ.1 1 1) = (8 : Int32) then
    (f77 1 (0 : Int32) μ).bind fun r2 =>
    (f77 1 (4 : Int32) r2.1).bind fun r4 =>
    nm ((jlshl (Int32.toInt64 r2.2) (32 : Int32)) ||| ((Int32.toInt64 r4.2) &&& (4294967295 : Int64))) fun y6 =>
    (f2 y6 r4.1).bind fun r7 =>
    if (lg_cmp r7.2 (1 : Int64)) = 0 then
      (f204 (-2 : Int32) r7.1).bind fun r14 =>
      some (r14.1, r14.2)
    else
      (f64 1 r7.1).bind fun r10 =>
      (f68 1 (y6 ^^^ r7.2) r10).bind fun r12 =>
      some (r12, (r12.1 1 1))
  else
    some (μ, (-1 : Int32))
theorem ok203 {L : Nat} (μ : Mem) (res : Mem × Int32) (h : f203 μ = some res) : Mx 203 [.ref 0] (mk L μ) (mk L res.1, some (.int res.2)) := by
  refine Mx_of ml_203 (by rw [mx_203]; exact Nat.le_of_ble_eq_true rfl) ?_
  show Sx 203 0 [(0, .ref 0)] [] 0 0 (mk L μ) _
  unfold f203 at h
  refine sx_aload_n (i := 0) k203_0 rfl rfl ?_
  refine cx_getR (k := 0) k203_1 ow_203 fl_11_12 (by decide) sk_0 ft_10_0 sr_0_0 ?_
  refine cx_getI (k := 1) k203_4 ow_203 fl_11_88 (by decide) sk_1 ft_1_1 ?_
  refine sx_bipush (v := 8) k203_7 (by decide) ?_
  by_cases hb1 : (μ.1 1 1) = (8 : Int32)
  · rw [if_pos hb1] at h
    refine sx_icmp_eq (tgt := 14) k203_9 (by decide) (fun _ => ?_) (fun q => absurd hb1 q)
    refine sx_aload_n (i := 0) k203_14 rfl rfl ?_
    refine cx_getR (k := 0) k203_15 ow_203 fl_11_12 (by decide) sk_0 ft_10_0 sr_0_0 ?_
    refine sx_iconst (v := 0) k203_18 (by decide) ?_
    obtain ⟨r2, e3, h⟩ := Option.bind_eq_some_iff.mp h
    refine cx_V (sk := []) (vs := [.int (0 : Int32)]) st_203_77 k203_19 ow_203 cl_11_124 (by decide) rfl (Nat.le_of_ble_eq_true rfl) sk_1 (ok77 1 (0 : Int32) sk_1 _ _ e3) (sk3 := [.int r2.2]) rfl rfl ?_
    refine sx_i2l k203_22 ?_
    refine sx_bipush (v := 32) k203_23 (by decide) ?_
    refine sx_lshl k203_25 ?_
    refine sx_aload_n (i := 0) k203_26 rfl rfl ?_
    refine cx_getR (k := 0) k203_27 ow_203 fl_11_12 (by decide) sk_0 ft_10_0 sr_0_0 ?_
    refine sx_iconst (v := 4) k203_30 (by decide) ?_
    obtain ⟨r4, e5, h⟩ := Option.bind_eq_some_iff.mp h
    refine cx_V (sk := [.long (jlshl (Int32.toInt64 r2.2) (32 : Int32))]) (vs := [.int (4 : Int32)]) st_203_77 k203_31 ow_203 cl_11_124 (by decide) rfl (Nat.le_of_ble_eq_true rfl) sk_1 (ok77 1 (4 : Int32) sk_1 _ _ e5) (sk3 := [.int r4.2, .long (jlshl (Int32.toInt64 r2.2) (32 : Int32))]) rfl rfl ?_
    refine sx_i2l k203_34 ?_
    refine cx_ldc2 (v := 4294967295) k203_35 ow_203 kl_11_127 (by decide) ?_
    refine sx_land k203_38 ?_
    refine sx_lor k203_39 ?_
    refine cx_nmL h (fun y6 h => ?_)
    refine cx_lstore_n (lo2 := [(1, .long y6), (0, .ref 0)]) k203_40 rfl (by rw [mx_203]; decide) rfl ?_
    refine sx_lload_n (i := 1) k203_41 rfl rfl ?_
    obtain ⟨r7, e8, h⟩ := Option.bind_eq_some_iff.mp h
    refine cx_S (sk := []) (vs := [.long y6]) st_203_2 k203_42 ow_203 cl_11_129 (by decide) rfl (Nat.le_of_ble_eq_true rfl) (ok2 y6 _ _ e8) (sk3 := [.long r7.2]) rfl rfl ?_
    refine cx_lstore_n (lo2 := [(3, .long r7.2), (1, .long y6), (0, .ref 0)]) k203_45 rfl (by rw [mx_203]; decide) rfl ?_
    refine sx_lload_n (i := 3) k203_46 rfl rfl ?_
    refine sx_lconst (v := 1) k203_47 (by decide) ?_
    refine sx_lcmp k203_48 ?_
    by_cases hb9 : (lg_cmp r7.2 (1 : Int64)) = 0
    · rw [if_pos hb9] at h
      refine sx_if_ne (tgt := 59) k203_49 (by decide) (fun q => absurd hb9 q) (fun _ => ?_)
      refine sx_aload_n (i := 0) k203_52 rfl rfl ?_
      refine sx_bipush (v := -2) k203_53 (by decide) ?_
      obtain ⟨r14, e15, h⟩ := Option.bind_eq_some_iff.mp h
      refine cx_V (sk := []) (vs := [.int (-2 : Int32)]) st_203_204 k203_55 ow_203 cl_11_113 (by decide) rfl (Nat.le_of_ble_eq_true rfl) sk_0 (ok204 (-2 : Int32) _ _ e15) (sk3 := [.int r14.2]) rfl rfl ?_
      exact cx_reti k203_58 rt_203 h
    · rw [if_neg hb9] at h
      refine sx_if_ne (tgt := 59) k203_49 (by decide) (fun _ => ?_) (fun q => absurd q hb9)
      refine sx_aload_n (i := 0) k203_59 rfl rfl ?_
      refine cx_getR (k := 0) k203_60 ow_203 fl_11_12 (by decide) sk_0 ft_10_0 sr_0_0 ?_
      obtain ⟨r10, e11, h⟩ := Option.bind_eq_some_iff.mp h
      refine cx_V (sk := []) (vs := []) st_203_64 k203_63 ow_203 cl_11_99 (by decide) rfl (Nat.le_of_ble_eq_true rfl) sk_1 (ok64 1 sk_1 _ _ e11) (sk3 := []) rfl rfl ?_
      refine sx_aload_n (i := 0) k203_66 rfl rfl ?_
      refine cx_getR (k := 0) k203_67 ow_203 fl_11_12 (by decide) sk_0 ft_10_0 sr_0_0 ?_
      refine sx_lload_n (i := 1) k203_70 rfl rfl ?_
      refine sx_lload_n (i := 3) k203_71 rfl rfl ?_
      refine sx_lxor k203_72 ?_
      obtain ⟨r12, e13, h⟩ := Option.bind_eq_some_iff.mp h
      refine cx_V (sk := []) (vs := [.long (y6 ^^^ r7.2)]) st_203_68 k203_73 ow_203 cl_11_133 (by decide) rfl (Nat.le_of_ble_eq_true rfl) sk_1 (ok68 1 (y6 ^^^ r7.2) sk_1 _ _ e13) (sk3 := []) rfl rfl ?_
      refine sx_aload_n (i := 0) k203_76 rfl rfl ?_
      refine cx_getR (k := 0) k203_77 ow_203 fl_11_12 (by decide) sk_0 ft_10_0 sr_0_0 ?_
      refine cx_getI (k := 1) k203_80 ow_203 fl_11_88 (by decide) sk_1 ft_1_1 ?_
      exact cx_reti k203_83 rt_203 h
  · rw [if_neg hb1] at h
    refine sx_icmp_eq (tgt := 14) k203_9 (by decide) (fun q => absurd q hb1) (fun _ => ?_)
    refine sx_iconst (v := -1) k203_12 (by decide) ?_
    exact cx_reti k203_13 rt_203 h
theorem k201_0 : decode (gb 201) 0 = .ok (.iload_n 1, 1) := by decide +kernel
theorem k201_1 : decode (gb 201) 1 = .ok (.ifCond .ne 8, 3) := by decide +kernel
theorem k201_4 : decode (gb 201) 4 = .ok (.aload_n 0, 1) := by decide +kernel
theorem k201_5 : decode (gb 201) 5 = .ok (.invokevirtual 106, 3) := by decide +kernel
theorem k201_8 : decode (gb 201) 8 = .ok (.ireturn, 1) := by decide +kernel
theorem k201_9 : decode (gb 201) 9 = .ok (.iload_n 1, 1) := by decide +kernel
theorem k201_10 : decode (gb 201) 10 = .ok (.iconst 1, 1) := by decide +kernel
theorem k201_11 : decode (gb 201) 11 = .ok (.if_icmp .ne 10, 3) := by decide +kernel
theorem k201_14 : decode (gb 201) 14 = .ok (.aload_n 0, 1) := by decide +kernel
theorem k201_15 : decode (gb 201) 15 = .ok (.invokevirtual 110, 3) := by decide +kernel
theorem k201_18 : decode (gb 201) 18 = .ok (.goto 4, 3) := by decide +kernel
theorem k201_21 : decode (gb 201) 21 = .ok (.iconst (-1), 1) := by decide +kernel
theorem k201_22 : decode (gb 201) 22 = .ok (.ireturn, 1) := by decide +kernel
/-- CraftHouse.code(I)I -/
def f201 (p1 : Int32) (μ : Mem) : Option (Mem × Int32) :=
  if p1 = 0 then
    (f202 μ).bind fun r5 =>
    some (r5.1, r5.2)
  else
    if p1 = (1 : Int32) then
      (f203 μ).bind fun r3 =>
      some (r3.1, r3.2)
    else
      some (μ, (-1 : Int32))
theorem ok201 {L : Nat} (p1 : Int32) (μ : Mem) (res : Mem × Int32) (h : f201 p1 μ = some res) : Mx 201 [.ref 0, .int p1] (mk L μ) (mk L res.1, some (.int res.2)) := by
  refine Mx_of ml_201 (by rw [mx_201]; exact Nat.le_of_ble_eq_true rfl) ?_
  show Sx 201 0 [(0, .ref 0), (1, .int p1)] [] 0 0 (mk L μ) _
  unfold f201 at h
  refine sx_iload_n (i := 1) k201_0 rfl rfl ?_
  by_cases hb1 : p1 = 0
  · rw [if_pos hb1] at h
    refine sx_if_ne (tgt := 9) k201_1 (by decide) (fun q => absurd hb1 q) (fun _ => ?_)
    refine sx_aload_n (i := 0) k201_4 rfl rfl ?_
    obtain ⟨r5, e6, h⟩ := Option.bind_eq_some_iff.mp h
    refine cx_V (sk := []) (vs := []) st_201_202 k201_5 ow_201 cl_11_106 (by decide) rfl (Nat.le_of_ble_eq_true rfl) sk_0 (ok202 _ _ e6) (sk3 := [.int r5.2]) rfl rfl ?_
    exact cx_reti k201_8 rt_201 h
  · rw [if_neg hb1] at h
    refine sx_if_ne (tgt := 9) k201_1 (by decide) (fun _ => ?_) (fun q => absurd q hb1)
    refine sx_iload_n (i := 1) k201_9 rfl rfl ?_
    refine sx_iconst (v := 1) k201_10 (by decide) ?_
    by_cases hb2 : p1 = (1 : Int32)
    · rw [if_pos hb2] at h
      refine sx_icmp_ne (tgt := 21) k201_11 (by decide) (fun q => absurd hb2 q) (fun _ => ?_)
      refine sx_aload_n (i := 0) k201_14 rfl rfl ?_
      obtain ⟨r3, e4, h⟩ := Option.bind_eq_some_iff.mp h
      refine cx_V (sk := []) (vs := []) st_201_203 k201_15 ow_201 cl_11_110 (by decide) rfl (Nat.le_of_ble_eq_true rfl) sk_0 (ok203 _ _ e4) (sk3 := [.int r3.2]) rfl rfl ?_
      refine sx_goto (tgt := 22) k201_18 (by decide) ?_
      exact cx_reti k201_22 rt_201 h
    · rw [if_neg hb2] at h
      refine sx_icmp_ne (tgt := 21) k201_11 (by decide) (fun _ => ?_) (fun q => absurd q hb2)
      refine sx_iconst (v := -1) k201_21 (by decide) ?_
      exact cx_reti k201_22 rt_201 h
theorem k212_0 : decode (gb 212) 0 = .ok (.iload_n 1, 1) := by decide +kernel
theorem k212_1 : decode (gb 212) 1 = .ok (.ifCond .eq 8, 3) := by decide +kernel
theorem k212_4 : decode (gb 212) 4 = .ok (.iload_n 1, 1) := by decide +kernel
theorem k212_5 : decode (gb 212) 5 = .ok (.iconst 1, 1) := by decide +kernel
theorem k212_6 : decode (gb 212) 6 = .ok (.if_icmp .ne 7, 3) := by decide +kernel
theorem k212_9 : decode (gb 212) 9 = .ok (.iconst 1, 1) := by decide +kernel
theorem k212_10 : decode (gb 212) 10 = .ok (.goto 4, 3) := by decide +kernel
theorem k212_13 : decode (gb 212) 13 = .ok (.iconst 0, 1) := by decide +kernel
theorem k212_14 : decode (gb 212) 14 = .ok (.ireturn, 1) := by decide +kernel
def c212_9 (μ : Mem) : Option (Mem × Int32) :=
  rtZ (1 : Int32) μ
theorem c212_9_ok {L : Nat} (μ : Mem) (res : Mem × Int32) (h : c212_9 μ = some res) : Sx 212 9 [] [] 0 0 (mk L μ) (mk L res.1, some (.int res.2)) := by
  unfold c212_9 at h
  refine sx_iconst (v := 1) k212_9 (by decide) ?_
  refine sx_goto (tgt := 14) k212_10 (by decide) ?_
  exact cx_retz k212_14 rt_212 h
/-- CraftHouse.isLine(I)Z -/
def f212 (p1 : Int32) (μ : Mem) : Option (Mem × Int32) :=
  if p1 = 0 then
    c212_9 μ
  else
    if p1 = (1 : Int32) then
      c212_9 μ
    else
      rtZ (0 : Int32) μ
theorem ok212 {L : Nat} (p1 : Int32) (μ : Mem) (res : Mem × Int32) (h : f212 p1 μ = some res) : Mx 212 [.ref 0, .int p1] (mk L μ) (mk L res.1, some (.int res.2)) := by
  refine Mx_of ml_212 (by rw [mx_212]; exact Nat.le_of_ble_eq_true rfl) ?_
  show Sx 212 0 [(0, .ref 0), (1, .int p1)] [] 0 0 (mk L μ) _
  unfold f212 at h
  refine sx_iload_n (i := 1) k212_0 rfl rfl ?_
  by_cases hb1 : p1 = 0
  · rw [if_pos hb1] at h
    refine sx_if_eq (tgt := 9) k212_1 (by decide) (fun _ => ?_) (fun q => absurd hb1 q)
    refine sx_pick (lo2 := []) [] rfl ?_
    exact c212_9_ok _ _ h
  · rw [if_neg hb1] at h
    refine sx_if_eq (tgt := 9) k212_1 (by decide) (fun q => absurd q hb1) (fun _ => ?_)
    refine sx_iload_n (i := 1) k212_4 rfl rfl ?_
    refine sx_iconst (v := 1) k212_5 (by decide) ?_
    by_cases hb2 : p1 = (1 : Int32)
    · rw [if_pos hb2] at h
      refine sx_icmp_ne (tgt := 13) k212_6 (by decide) (fun q => absurd hb2 q) (fun _ => ?_)
      refine sx_pick (lo2 := []) [] rfl ?_
      exact c212_9_ok _ _ h
    · rw [if_neg hb2] at h
      refine sx_icmp_ne (tgt := 13) k212_6 (by decide) (fun _ => ?_) (fun q => absurd q hb2)
      refine sx_iconst (v := 0) k212_13 (by decide) ?_
      exact cx_retz k212_14 rt_212 h
theorem k214_0 : decode (gb 214) 0 = .ok (.iload_n 1, 1) := by decide +kernel
theorem k214_1 : decode (gb 214) 1 = .ok (.ifCond .ne 10, 3) := by decide +kernel
theorem k214_4 : decode (gb 214) 4 = .ok (.aload_n 0, 1) := by decide +kernel
theorem k214_5 : decode (gb 214) 5 = .ok (.getfield 26, 3) := by decide +kernel
theorem k214_8 : decode (gb 214) 8 = .ok (.goto 7, 3) := by decide +kernel
theorem k214_11 : decode (gb 214) 11 = .ok (.aload_n 0, 1) := by decide +kernel
theorem k214_12 : decode (gb 214) 12 = .ok (.getfield 31, 3) := by decide +kernel
theorem k214_15 : decode (gb 214) 15 = .ok (.areturn, 1) := by decide +kernel
/-- CraftHouse.lineOf(I)LCraftHouse$Line; -/
def f214 (p1 : Int32) (μ : Mem) : Option (Mem × Nat) :=
  if p1 = 0 then
    some (μ, 5)
  else
    some (μ, 7)
theorem ok214 {L : Nat} (p1 : Int32) (μ : Mem) (res : Mem × Nat) (h : f214 p1 μ = some res) : Mx 214 [.ref 0, .int p1] (mk L μ) (mk L res.1, some (.ref res.2)) := by
  refine Mx_of ml_214 (by rw [mx_214]; exact Nat.le_of_ble_eq_true rfl) ?_
  show Sx 214 0 [(0, .ref 0), (1, .int p1)] [] 0 0 (mk L μ) _
  unfold f214 at h
  refine sx_iload_n (i := 1) k214_0 rfl rfl ?_
  by_cases hb1 : p1 = 0
  · rw [if_pos hb1] at h
    refine sx_if_ne (tgt := 11) k214_1 (by decide) (fun q => absurd hb1 q) (fun _ => ?_)
    refine sx_aload_n (i := 0) k214_4 rfl rfl ?_
    refine cx_getR (k := 2) k214_5 ow_214 fl_11_26 (by decide) sk_0 ft_10_2 sr_0_2 ?_
    refine sx_goto (tgt := 15) k214_8 (by decide) ?_
    exact cx_reta k214_15 rt_214 h
  · rw [if_neg hb1] at h
    refine sx_if_ne (tgt := 11) k214_1 (by decide) (fun _ => ?_) (fun q => absurd q hb1)
    refine sx_aload_n (i := 0) k214_11 rfl rfl ?_
    refine cx_getR (k := 3) k214_12 ow_214 fl_11_31 (by decide) sk_0 ft_10_3 sr_0_3 ?_
    exact cx_reta k214_15 rt_214 h
theorem rk_214 {p1 : Int32} {μ : Mem} {r : Mem × Nat} (h : f214 p1 μ = some r) : SK0 r.2 = (0, 4) := by
  unfold f214 at h
  split at h <;> cases h <;> first | exact sk_5 | exact sk_7
theorem k205_0 : decode (gb 205) 0 = .ok (.aload_n 0, 1) := by decide +kernel
theorem k205_1 : decode (gb 205) 1 = .ok (.iload_n 1, 1) := by decide +kernel
theorem k205_2 : decode (gb 205) 2 = .ok (.invokevirtual 137, 3) := by decide +kernel
theorem k205_5 : decode (gb 205) 5 = .ok (.ifCond .eq 14, 3) := by decide +kernel
theorem k205_8 : decode (gb 205) 8 = .ok (.aload_n 0, 1) := by decide +kernel
theorem k205_9 : decode (gb 205) 9 = .ok (.iload_n 1, 1) := by decide +kernel
theorem k205_10 : decode (gb 205) 10 = .ok (.invokevirtual 141, 3) := by decide +kernel
theorem k205_13 : decode (gb 205) 13 = .ok (.getfield 145, 3) := by decide +kernel
theorem k205_16 : decode (gb 205) 16 = .ok (.goto 4, 3) := by decide +kernel
theorem k205_19 : decode (gb 205) 19 = .ok (.iconst (-1), 1) := by decide +kernel
theorem k205_20 : decode (gb 205) 20 = .ok (.ireturn, 1) := by decide +kernel
/-- CraftHouse.bits(I)I -/
def f205 (p1 : Int32) (μ : Mem) : Option (Mem × Int32) :=
  (f212 p1 μ).bind fun r1 =>
  if r1.2 = 0 then
    some (r1.1, (-1 : Int32))
  else
    (f214 p1 r1.1).bind fun r4 =>
    some (r4.1, (r4.1.1 r4.2 2))
theorem ok205 {L : Nat} (p1 : Int32) (μ : Mem) (res : Mem × Int32) (h : f205 p1 μ = some res) : Mx 205 [.ref 0, .int p1] (mk L μ) (mk L res.1, some (.int res.2)) := by
  refine Mx_of ml_205 (by rw [mx_205]; exact Nat.le_of_ble_eq_true rfl) ?_
  show Sx 205 0 [(0, .ref 0), (1, .int p1)] [] 0 0 (mk L μ) _
  unfold f205 at h
  refine sx_aload_n (i := 0) k205_0 rfl rfl ?_
  refine sx_iload_n (i := 1) k205_1 rfl rfl ?_
  obtain ⟨r1, e2, h⟩ := Option.bind_eq_some_iff.mp h
  refine cx_V (sk := []) (vs := [.int p1]) st_205_212 k205_2 ow_205 cl_11_137 (by decide) rfl (Nat.le_of_ble_eq_true rfl) sk_0 (ok212 p1 _ _ e2) (sk3 := [.int r1.2]) rfl rfl ?_
  by_cases hb3 : r1.2 = 0
  · rw [if_pos hb3] at h
    refine sx_if_eq (tgt := 19) k205_5 (by decide) (fun _ => ?_) (fun q => absurd hb3 q)
    refine sx_iconst (v := -1) k205_19 (by decide) ?_
    exact cx_reti k205_20 rt_205 h
  · rw [if_neg hb3] at h
    refine sx_if_eq (tgt := 19) k205_5 (by decide) (fun q => absurd q hb3) (fun _ => ?_)
    refine sx_aload_n (i := 0) k205_8 rfl rfl ?_
    refine sx_iload_n (i := 1) k205_9 rfl rfl ?_
    obtain ⟨r4, e5, h⟩ := Option.bind_eq_some_iff.mp h
    refine cx_V (sk := []) (vs := [.int p1]) st_205_214 k205_10 ow_205 cl_11_141 (by decide) rfl (Nat.le_of_ble_eq_true rfl) sk_0 (ok214 p1 _ _ e5) (sk3 := [.ref r4.2]) rfl rfl ?_
    refine cx_getI (k := 2) k205_13 ow_205 fl_11_145 (by decide) (rk_214 e5) ft_4_2 ?_
    refine sx_goto (tgt := 20) k205_16 (by decide) ?_
    exact cx_reti k205_20 rt_205 h
theorem k213_0 : decode (gb 213) 0 = .ok (.aload_n 0, 1) := by decide +kernel
theorem k213_1 : decode (gb 213) 1 = .ok (.iload_n 1, 1) := by decide +kernel
theorem k213_2 : decode (gb 213) 2 = .ok (.invokevirtual 137, 3) := by decide +kernel
theorem k213_5 : decode (gb 213) 5 = .ok (.ifCond .eq 23, 3) := by decide +kernel
theorem k213_8 : decode (gb 213) 8 = .ok (.iload_n 2, 1) := by decide +kernel
theorem k213_9 : decode (gb 213) 9 = .ok (.ifCond .lt 19, 3) := by decide +kernel
theorem k213_12 : decode (gb 213) 12 = .ok (.iload_n 2, 1) := by decide +kernel
theorem k213_13 : decode (gb 213) 13 = .ok (.aload_n 0, 1) := by decide +kernel
theorem k213_14 : decode (gb 213) 14 = .ok (.iload_n 1, 1) := by decide +kernel
theorem k213_15 : decode (gb 213) 15 = .ok (.invokevirtual 141, 3) := by decide +kernel
theorem k213_18 : decode (gb 213) 18 = .ok (.getfield 145, 3) := by decide +kernel
theorem k213_21 : decode (gb 213) 21 = .ok (.if_icmp .ge 7, 3) := by decide +kernel
theorem k213_24 : decode (gb 213) 24 = .ok (.iconst 1, 1) := by decide +kernel
theorem k213_25 : decode (gb 213) 25 = .ok (.goto 4, 3) := by decide +kernel
theorem k213_28 : decode (gb 213) 28 = .ok (.iconst 0, 1) := by decide +kernel
theorem k213_29 : decode (gb 213) 29 = .ok (.ireturn, 1) := by decide +kernel
/-- CraftHouse.isOnLine(II)Z -/
def f213 (p1 : Int32) (p2 : Int32) (μ : Mem) : Option (Mem × Int32) :=
  (f212 p1 μ).bind fun r1 =>
  if r1.2 = 0 then
    rtZ (0 : Int32) r1.1
  else
    if p2 < 0 then
      rtZ (0 : Int32) r1.1
    else
      (f214 p1 r1.1).bind fun r5 =>
      if (r5.1.1 r5.2 2) ≤ p2 then
        rtZ (0 : Int32) r5.1
      else
        rtZ (1 : Int32) r5.1
theorem ok213 {L : Nat} (p1 : Int32) (p2 : Int32) (μ : Mem) (res : Mem × Int32) (h : f213 p1 p2 μ = some res) : Mx 213 [.ref 0, .int p1, .int p2] (mk L μ) (mk L res.1, some (.int res.2)) := by
  refine Mx_of ml_213 (by rw [mx_213]; exact Nat.le_of_ble_eq_true rfl) ?_
  show Sx 213 0 [(0, .ref 0), (1, .int p1), (2, .int p2)] [] 0 0 (mk L μ) _
  unfold f213 at h
  refine sx_aload_n (i := 0) k213_0 rfl rfl ?_
  refine sx_iload_n (i := 1) k213_1 rfl rfl ?_
  obtain ⟨r1, e2, h⟩ := Option.bind_eq_some_iff.mp h
  refine cx_V (sk := []) (vs := [.int p1]) st_213_212 k213_2 ow_213 cl_11_137 (by decide) rfl (Nat.le_of_ble_eq_true rfl) sk_0 (ok212 p1 _ _ e2) (sk3 := [.int r1.2]) rfl rfl ?_
  by_cases hb3 : r1.2 = 0
  · rw [if_pos hb3] at h
    refine sx_if_eq (tgt := 28) k213_5 (by decide) (fun _ => ?_) (fun q => absurd hb3 q)
    refine sx_iconst (v := 0) k213_28 (by decide) ?_
    exact cx_retz k213_29 rt_213 h
  · rw [if_neg hb3] at h
    refine sx_if_eq (tgt := 28) k213_5 (by decide) (fun q => absurd q hb3) (fun _ => ?_)
    refine sx_iload_n (i := 2) k213_8 rfl rfl ?_
    by_cases hb4 : p2 < 0
    · rw [if_pos hb4] at h
      refine sx_if_lt (tgt := 28) k213_9 (by decide) (fun _ => ?_) (fun q => absurd hb4 q)
      refine sx_iconst (v := 0) k213_28 (by decide) ?_
      exact cx_retz k213_29 rt_213 h
    · rw [if_neg hb4] at h
      refine sx_if_lt (tgt := 28) k213_9 (by decide) (fun q => absurd q hb4) (fun _ => ?_)
      refine sx_iload_n (i := 2) k213_12 rfl rfl ?_
      refine sx_aload_n (i := 0) k213_13 rfl rfl ?_
      refine sx_iload_n (i := 1) k213_14 rfl rfl ?_
      obtain ⟨r5, e6, h⟩ := Option.bind_eq_some_iff.mp h
      refine cx_V (sk := [.int p2]) (vs := [.int p1]) st_213_214 k213_15 ow_213 cl_11_141 (by decide) rfl (Nat.le_of_ble_eq_true rfl) sk_0 (ok214 p1 _ _ e6) (sk3 := [.ref r5.2, .int p2]) rfl rfl ?_
      refine cx_getI (k := 2) k213_18 ow_213 fl_11_145 (by decide) (rk_214 e6) ft_4_2 ?_
      by_cases hb7 : (r5.1.1 r5.2 2) ≤ p2
      · rw [if_pos hb7] at h
        refine sx_icmp_ge (tgt := 28) k213_21 (by decide) (fun _ => ?_) (fun q => absurd hb7 q)
        refine sx_iconst (v := 0) k213_28 (by decide) ?_
        exact cx_retz k213_29 rt_213 h
      · rw [if_neg hb7] at h
        refine sx_icmp_ge (tgt := 28) k213_21 (by decide) (fun q => absurd q hb7) (fun _ => ?_)
        refine sx_iconst (v := 1) k213_24 (by decide) ?_
        refine sx_goto (tgt := 29) k213_25 (by decide) ?_
        exact cx_retz k213_29 rt_213 h
theorem k206_0 : decode (gb 206) 0 = .ok (.aload_n 0, 1) := by decide +kernel
theorem k206_1 : decode (gb 206) 1 = .ok (.iload_n 1, 1) := by decide +kernel
theorem k206_2 : decode (gb 206) 2 = .ok (.iload_n 2, 1) := by decide +kernel
theorem k206_3 : decode (gb 206) 3 = .ok (.invokevirtual 148, 3) := by decide +kernel
theorem k206_6 : decode (gb 206) 6 = .ok (.ifCond .eq 15, 3) := by decide +kernel
theorem k206_9 : decode (gb 206) 9 = .ok (.aload_n 0, 1) := by decide +kernel
theorem k206_10 : decode (gb 206) 10 = .ok (.iload_n 1, 1) := by decide +kernel
theorem k206_11 : decode (gb 206) 11 = .ok (.invokevirtual 141, 3) := by decide +kernel
theorem k206_14 : decode (gb 206) 14 = .ok (.iload_n 2, 1) := by decide +kernel
theorem k206_15 : decode (gb 206) 15 = .ok (.invokevirtual 152, 3) := by decide +kernel
theorem k206_18 : decode (gb 206) 18 = .ok (.goto 4, 3) := by decide +kernel
theorem k206_21 : decode (gb 206) 21 = .ok (.iconst (-1), 1) := by decide +kernel
theorem k206_22 : decode (gb 206) 22 = .ok (.ireturn, 1) := by decide +kernel
/-- CraftHouse.bit(II)I -/
def f206 (p1 : Int32) (p2 : Int32) (μ : Mem) : Option (Mem × Int32) :=
  (f213 p1 p2 μ).bind fun r1 =>
  if r1.2 = 0 then
    some (r1.1, (-1 : Int32))
  else
    (f214 p1 r1.1).bind fun r4 =>
    (f108 r4.2 p2 r4.1).bind fun r6 =>
    some (r6.1, r6.2)
theorem ok206 {L : Nat} (p1 : Int32) (p2 : Int32) (μ : Mem) (res : Mem × Int32) (h : f206 p1 p2 μ = some res) : Mx 206 [.ref 0, .int p1, .int p2] (mk L μ) (mk L res.1, some (.int res.2)) := by
  refine Mx_of ml_206 (by rw [mx_206]; exact Nat.le_of_ble_eq_true rfl) ?_
  show Sx 206 0 [(0, .ref 0), (1, .int p1), (2, .int p2)] [] 0 0 (mk L μ) _
  unfold f206 at h
  refine sx_aload_n (i := 0) k206_0 rfl rfl ?_
  refine sx_iload_n (i := 1) k206_1 rfl rfl ?_
  refine sx_iload_n (i := 2) k206_2 rfl rfl ?_
  obtain ⟨r1, e2, h⟩ := Option.bind_eq_some_iff.mp h
  refine cx_V (sk := []) (vs := [.int p1, .int p2]) st_206_213 k206_3 ow_206 cl_11_148 (by decide) rfl (Nat.le_of_ble_eq_true rfl) sk_0 (ok213 p1 p2 _ _ e2) (sk3 := [.int r1.2]) rfl rfl ?_
  by_cases hb3 : r1.2 = 0
  · rw [if_pos hb3] at h
    refine sx_if_eq (tgt := 21) k206_6 (by decide) (fun _ => ?_) (fun q => absurd hb3 q)
    refine sx_iconst (v := -1) k206_21 (by decide) ?_
    exact cx_reti k206_22 rt_206 h
  · rw [if_neg hb3] at h
    refine sx_if_eq (tgt := 21) k206_6 (by decide) (fun q => absurd q hb3) (fun _ => ?_)
    refine sx_aload_n (i := 0) k206_9 rfl rfl ?_
    refine sx_iload_n (i := 1) k206_10 rfl rfl ?_
    obtain ⟨r4, e5, h⟩ := Option.bind_eq_some_iff.mp h
    refine cx_V (sk := []) (vs := [.int p1]) st_206_214 k206_11 ow_206 cl_11_141 (by decide) rfl (Nat.le_of_ble_eq_true rfl) sk_0 (ok214 p1 _ _ e5) (sk3 := [.ref r4.2]) rfl rfl ?_
    refine sx_iload_n (i := 2) k206_14 rfl rfl ?_
    obtain ⟨r6, e7, h⟩ := Option.bind_eq_some_iff.mp h
    refine cx_V (sk := []) (vs := [.int p2]) st_206_108 k206_15 ow_206 cl_11_152 (by decide) rfl (Nat.le_of_ble_eq_true rfl) (rk_214 e5) (ok108 r4.2 p2 (rk_214 e5) _ _ e7) (sk3 := [.int r6.2]) rfl rfl ?_
    refine sx_goto (tgt := 22) k206_18 (by decide) ?_
    exact cx_reti k206_22 rt_206 h
theorem k215_0 : decode (gb 215) 0 = .ok (.iconst 0, 1) := by decide +kernel
theorem k215_1 : decode (gb 215) 1 = .ok (.istore_n 1, 1) := by decide +kernel
theorem k215_2 : decode (gb 215) 2 = .ok (.iconst 0, 1) := by decide +kernel
theorem k215_3 : decode (gb 215) 3 = .ok (.istore_n 2, 1) := by decide +kernel
theorem k215_4 : decode (gb 215) 4 = .ok (.iload_n 2, 1) := by decide +kernel
theorem k215_5 : decode (gb 215) 5 = .ok (.bipush 112, 2) := by decide +kernel
theorem k215_7 : decode (gb 215) 7 = .ok (.if_icmp .ge 72, 3) := by decide +kernel
theorem k215_10 : decode (gb 215) 10 = .ok (.aload_n 0, 1) := by decide +kernel
theorem k215_11 : decode (gb 215) 11 = .ok (.getfield 37, 3) := by decide +kernel
theorem k215_14 : decode (gb 215) 14 = .ok (.iload_n 1, 1) := by decide +kernel
theorem k215_15 : decode (gb 215) 15 = .ok (.invokevirtual 183, 3) := by decide +kernel
theorem k215_18 : decode (gb 215) 18 = .ok (.istore_n 3, 1) := by decide +kernel
theorem k215_19 : decode (gb 215) 19 = .ok (.iload_n 3, 1) := by decide +kernel
theorem k215_20 : decode (gb 215) 20 = .ok (.ifCond .ne 6, 3) := by decide +kernel
theorem k215_23 : decode (gb 215) 23 = .ok (.goto 56, 3) := by decide +kernel
theorem k215_26 : decode (gb 215) 26 = .ok (.aload_n 0, 1) := by decide +kernel
theorem k215_27 : decode (gb 215) 27 = .ok (.getfield 37, 3) := by decide +kernel
theorem k215_30 : decode (gb 215) 30 = .ok (.iload_n 1, 1) := by decide +kernel
theorem k215_31 : decode (gb 215) 31 = .ok (.iload_n 3, 1) := by decide +kernel
theorem k215_32 : decode (gb 215) 32 = .ok (.aload_n 0, 1) := by decide +kernel
theorem k215_33 : decode (gb 215) 33 = .ok (.getfield 84, 3) := by decide +kernel
theorem k215_36 : decode (gb 215) 36 = .ok (.invokevirtual 186, 3) := by decide +kernel
theorem k215_39 : decode (gb 215) 39 = .ok (.invokevirtual 190, 3) := by decide +kernel
theorem k215_42 : decode (gb 215) 42 = .ok (.ifCond .eq 27, 3) := by decide +kernel
theorem k215_45 : decode (gb 215) 45 = .ok (.aload_n 0, 1) := by decide +kernel
theorem k215_46 : decode (gb 215) 46 = .ok (.getfield 37, 3) := by decide +kernel
theorem k215_49 : decode (gb 215) 49 = .ok (.iload_n 1, 1) := by decide +kernel
theorem k215_50 : decode (gb 215) 50 = .ok (.iload_n 3, 1) := by decide +kernel
theorem k215_51 : decode (gb 215) 51 = .ok (.aload_n 0, 1) := by decide +kernel
theorem k215_52 : decode (gb 215) 52 = .ok (.getfield 84, 3) := by decide +kernel
theorem k215_55 : decode (gb 215) 55 = .ok (.getfield 194, 3) := by decide +kernel
theorem k215_58 : decode (gb 215) 58 = .ok (.invokevirtual 197, 3) := by decide +kernel
theorem k215_61 : decode (gb 215) 61 = .ok (.aload_n 0, 1) := by decide +kernel
theorem k215_62 : decode (gb 215) 62 = .ok (.getfield 84, 3) := by decide +kernel
theorem k215_65 : decode (gb 215) 65 = .ok (.iconst 0, 1) := by decide +kernel
theorem k215_66 : decode (gb 215) 66 = .ok (.invokevirtual 201, 3) := by decide +kernel
theorem k215_69 : decode (gb 215) 69 = .ok (.iload_n 1, 1) := by decide +kernel
theorem k215_70 : decode (gb 215) 70 = .ok (.iload_n 3, 1) := by decide +kernel
theorem k215_71 : decode (gb 215) 71 = .ok (.iadd, 1) := by decide +kernel
theorem k215_72 : decode (gb 215) 72 = .ok (.istore_n 1, 1) := by decide +kernel
theorem k215_73 : decode (gb 215) 73 = .ok (.iinc 2 1, 3) := by decide +kernel
theorem k215_76 : decode (gb 215) 76 = .ok (.goto (-72), 3) := by decide +kernel
theorem k215_79 : decode (gb 215) 79 = .ok (.aload_n 0, 1) := by decide +kernel
theorem k215_80 : decode (gb 215) 80 = .ok (.getfield 37, 3) := by decide +kernel
theorem k215_83 : decode (gb 215) 83 = .ok (.invokevirtual 204, 3) := by decide +kernel
theorem k215_86 : decode (gb 215) 86 = .ok (.return_, 1) := by decide +kernel
def c215_69 (kl4 : Int32 → Int32 → Mem → Option (Mem)) (v1 : Int32) (v2 : Int32) (v3 : Int32) (μ : Mem) : Option (Mem) :=
  nm (v1 + v3) fun x1 =>
  nm (v2 + (1 : Int32)) fun x2 =>
  kl4 x1 x2 μ
theorem c215_69_ok {L : Nat} (kl4 : Int32 → Int32 → Mem → Option (Mem)) (hk4 : (∀ (v1 : Int32) (v2 : Int32) (μ : Mem) (res : Mem), kl4 v1 v2 μ = some res → Sx 215 4 [(0, .ref 0), (1, .int v1), (2, .int v2)] [] 0 0 (mk L μ) (mk L res, none))) (v1 : Int32) (v2 : Int32) (v3 : Int32) (μ : Mem) (res : Mem) (h : c215_69 kl4 v1 v2 v3 μ = some res) : Sx 215 69 [(0, .ref 0), (1, .int v1), (2, .int v2), (3, .int v3)] [] 0 0 (mk L μ) (mk L res, none) := by
  unfold c215_69 at h
  refine sx_iload_n (i := 1) k215_69 rfl rfl ?_
  refine sx_iload_n (i := 3) k215_70 rfl rfl ?_
  refine sx_iadd k215_71 ?_
  refine cx_nm h (fun x1 h => ?_)
  refine cx_istore_n (lo2 := [(1, .int x1), (0, .ref 0), (2, .int v2), (3, .int v3)]) k215_72 rfl (by rw [mx_215]; decide) rfl ?_
  refine cx_iinc (c := 1) (lo2 := fun x2 => [(2, .int x2), (1, .int x1), (0, .ref 0), (3, .int v3)]) k215_73 rfl (by decide) (by rw [mx_215]; decide) (fun _ => rfl) h (fun x2 h => ?_)
  refine sx_goto (tgt := 4) k215_76 (by decide) ?_
  refine sx_pick (lo2 := [(0, .ref 0), (1, .int x1), (2, .int x2)]) [2, 1, 0] rfl ?_
  exact hk4 x1 x2 _ _ h
def c215_79 (μ : Mem) : Option (Mem) :=
  (f184 μ).bind fun r1 =>
  some r1
theorem c215_79_ok {L : Nat} (μ : Mem) (res : Mem) (h : c215_79 μ = some res) : Sx 215 79 [(0, .ref 0)] [] 0 0 (mk L μ) (mk L res, none) := by
  unfold c215_79 at h
  refine sx_aload_n (i := 0) k215_79 rfl rfl ?_
  refine cx_getR (k := 4) k215_80 ow_215 fl_11_37 (by decide) sk_0 ft_10_4 sr_0_4 ?_
  obtain ⟨r1, e2, h⟩ := Option.bind_eq_some_iff.mp h
  refine cx_V (sk := []) (vs := []) st_215_184 k215_83 ow_215 cl_11_204 (by decide) rfl (Nat.le_of_ble_eq_true rfl) sk_9 (ok184 _ _ e2) (sk3 := []) rfl rfl ?_
  exact cx_retv k215_86 rt_215 h
def b215_4 (kl4 : Int32 → Int32 → Mem → Option (Mem)) (v1 : Int32) (v2 : Int32) (μ : Mem) : Option (Mem) :=
  if (112 : Int32) ≤ v2 then
    c215_79 μ
  else
    (f185 v1 μ).bind fun r2 =>
    if r2.2 = 0 then
      c215_79 r2.1
    else
      (f5 r2.1).bind fun r5 =>
      (f186 v1 r2.2 r5.2 r5.1).bind fun r7 =>
      if r7.2 = 0 then
        c215_69 kl4 v1 v2 r2.2 r7.1
      else
        (f194 v1 r2.2 120 r7.1).bind fun r10 =>
        (f10 (0 : Int32) r10).bind fun r12 =>
        c215_69 kl4 v1 v2 r2.2 r12
theorem b215_4_ok {L : Nat} (kl4 : Int32 → Int32 → Mem → Option (Mem)) (hk4 : (∀ (v1 : Int32) (v2 : Int32) (μ : Mem) (res : Mem), kl4 v1 v2 μ = some res → Sx 215 4 [(0, .ref 0), (1, .int v1), (2, .int v2)] [] 0 0 (mk L μ) (mk L res, none))) (v1 : Int32) (v2 : Int32) (μ : Mem) (res : Mem) (h : b215_4 kl4 v1 v2 μ = some res) : Sx 215 4 [(0, .ref 0), (1, .int v1), (2, .int v2)] [] 0 0 (mk L μ) (mk L res, none) := by
  unfold b215_4 at h
  refine sx_iload_n (i := 2) k215_4 rfl rfl ?_
  refine sx_bipush (v := 112) k215_5 (by decide) ?_
  by_cases hb1 : (112 : Int32) ≤ v2
  · rw [if_pos hb1] at h
    refine sx_icmp_ge (tgt := 79) k215_7 (by decide) (fun _ => ?_) (fun q => absurd hb1 q)
    refine sx_pick (lo2 := [(0, .ref 0)]) [0] rfl ?_
    exact c215_79_ok _ _ h
  · rw [if_neg hb1] at h
    refine sx_icmp_ge (tgt := 79) k215_7 (by decide) (fun q => absurd q hb1) (fun _ => ?_)
    refine sx_aload_n (i := 0) k215_10 rfl rfl ?_
    refine cx_getR (k := 4) k215_11 ow_215 fl_11_37 (by decide) sk_0 ft_10_4 sr_0_4 ?_
    refine sx_iload_n (i := 1) k215_14 rfl rfl ?_
    obtain ⟨r2, e3, h⟩ := Option.bind_eq_some_iff.mp h
    refine cx_V (sk := []) (vs := [.int v1]) st_215_185 k215_15 ow_215 cl_11_183 (by decide) rfl (Nat.le_of_ble_eq_true rfl) sk_9 (ok185 v1 _ _ e3) (sk3 := [.int r2.2]) rfl rfl ?_
    refine cx_istore_n (lo2 := [(3, .int r2.2), (0, .ref 0), (1, .int v1), (2, .int v2)]) k215_18 rfl (by rw [mx_215]; decide) rfl ?_
    refine sx_iload_n (i := 3) k215_19 rfl rfl ?_
    by_cases hb4 : r2.2 = 0
    · rw [if_pos hb4] at h
      refine sx_if_ne (tgt := 26) k215_20 (by decide) (fun q => absurd hb4 q) (fun _ => ?_)
      refine sx_goto (tgt := 79) k215_23 (by decide) ?_
      refine sx_pick (lo2 := [(0, .ref 0)]) [1] rfl ?_
      exact c215_79_ok _ _ h
    · rw [if_neg hb4] at h
      refine sx_if_ne (tgt := 26) k215_20 (by decide) (fun _ => ?_) (fun q => absurd q hb4)
      refine sx_aload_n (i := 0) k215_26 rfl rfl ?_
      refine cx_getR (k := 4) k215_27 ow_215 fl_11_37 (by decide) sk_0 ft_10_4 sr_0_4 ?_
      refine sx_iload_n (i := 1) k215_30 rfl rfl ?_
      refine sx_iload_n (i := 3) k215_31 rfl rfl ?_
      refine sx_aload_n (i := 0) k215_32 rfl rfl ?_
      refine cx_getR (k := 9) k215_33 ow_215 fl_11_84 (by decide) sk_0 ft_10_9 sr_0_9 ?_
      obtain ⟨r5, e6, h⟩ := Option.bind_eq_some_iff.mp h
      refine cx_V (sk := [.int r2.2, .int v1, .ref 9]) (vs := []) st_215_5 k215_36 ow_215 cl_11_186 (by decide) rfl (Nat.le_of_ble_eq_true rfl) sk_101 (ok5 _ _ e6) (sk3 := [.int r5.2, .int r2.2, .int v1, .ref 9]) rfl rfl ?_
      obtain ⟨r7, e8, h⟩ := Option.bind_eq_some_iff.mp h
      refine cx_V (sk := []) (vs := [.int v1, .int r2.2, .int r5.2]) st_215_186 k215_39 ow_215 cl_11_190 (by decide) rfl (Nat.le_of_ble_eq_true rfl) sk_9 (ok186 v1 r2.2 r5.2 _ _ e8) (sk3 := [.int r7.2]) rfl rfl ?_
      by_cases hb9 : r7.2 = 0
      · rw [if_pos hb9] at h
        refine sx_if_eq (tgt := 69) k215_42 (by decide) (fun _ => ?_) (fun q => absurd hb9 q)
        refine sx_pick (lo2 := [(0, .ref 0), (1, .int v1), (2, .int v2), (3, .int r2.2)]) [1, 2, 3, 0] rfl ?_
        exact c215_69_ok kl4 hk4 v1 v2 r2.2 _ _ h
      · rw [if_neg hb9] at h
        refine sx_if_eq (tgt := 69) k215_42 (by decide) (fun q => absurd q hb9) (fun _ => ?_)
        refine sx_aload_n (i := 0) k215_45 rfl rfl ?_
        refine cx_getR (k := 4) k215_46 ow_215 fl_11_37 (by decide) sk_0 ft_10_4 sr_0_4 ?_
        refine sx_iload_n (i := 1) k215_49 rfl rfl ?_
        refine sx_iload_n (i := 3) k215_50 rfl rfl ?_
        refine sx_aload_n (i := 0) k215_51 rfl rfl ?_
        refine cx_getR (k := 9) k215_52 ow_215 fl_11_84 (by decide) sk_0 ft_10_9 sr_0_9 ?_
        refine cx_getR (k := 5) k215_55 ow_215 fl_11_194 (by decide) sk_101 ft_0_5 sr_101_5 ?_
        obtain ⟨r10, e11, h⟩ := Option.bind_eq_some_iff.mp h
        refine cx_V (sk := []) (vs := [.int v1, .int r2.2, .ref 120]) st_215_194 k215_58 ow_215 cl_11_197 (by decide) rfl (Nat.le_of_ble_eq_true rfl) sk_9 (ok194 v1 r2.2 120 sk_120 _ _ e11) (sk3 := []) rfl rfl ?_
        refine sx_aload_n (i := 0) k215_61 rfl rfl ?_
        refine cx_getR (k := 9) k215_62 ow_215 fl_11_84 (by decide) sk_0 ft_10_9 sr_0_9 ?_
        refine sx_iconst (v := 0) k215_65 (by decide) ?_
        obtain ⟨r12, e13, h⟩ := Option.bind_eq_some_iff.mp h
        refine cx_V (sk := []) (vs := [.int (0 : Int32)]) st_215_10 k215_66 ow_215 cl_11_201 (by decide) rfl (Nat.le_of_ble_eq_true rfl) sk_101 (ok10 (0 : Int32) _ _ e13) (sk3 := []) rfl rfl ?_
        refine sx_pick (lo2 := [(0, .ref 0), (1, .int v1), (2, .int v2), (3, .int r2.2)]) [1, 2, 3, 0] rfl ?_
        exact c215_69_ok kl4 hk4 v1 v2 r2.2 _ _ h
def l215_4 : Nat → Int32 × Int32 × Mem → Option (Mem) :=
  fixN (fun self x => b215_4 (fun v1 v2 μ => self (v1, v2, μ)) (x.1) (x.2.1) (x.2.2))
theorem l215_4_ok {L : Nat} (n : Nat) (v1 : Int32) (v2 : Int32) (μ : Mem) (res : Mem) (h : l215_4 n (v1, v2, μ) = some res) : Sx 215 4 [(0, .ref 0), (1, .int v1), (2, .int v2)] [] 0 0 (mk L μ) (mk L res, none) := by
  have key := fixN_ind (P := fun x res => Sx 215 4 [(0, .ref 0), (1, .int (x.1)), (2, .int (x.2.1))] [] 0 0 (mk L (x.2.2)) (mk L res, none)) (F := fun self x => b215_4 (fun v1 v2 μ => self (v1, v2, μ)) (x.1) (x.2.1) (x.2.2)) (fun self hself x res h => b215_4_ok (fun v1 v2 μ => self (v1, v2, μ)) (fun v1 v2 μ res hh => hself (v1, v2, μ) res hh) (x.1) (x.2.1) (x.2.2) res h) n (v1, v2, μ) res h
  exact key
/-- CraftHouse.dealUnit()V -/
def f215 (μ : Mem) : Option (Mem) :=
  l215_4 gF ((0 : Int32), (0 : Int32), μ)
theorem ok215 {L : Nat} (μ : Mem) (res : Mem) (h : f215 μ = some res) : Mx 215 [.ref 0] (mk L μ) (mk L res, none) := by
  refine Mx_of ml_215 (by rw [mx_215]; exact Nat.le_of_ble_eq_true rfl) ?_
  show Sx 215 0 [(0, .ref 0)] [] 0 0 (mk L μ) _
  unfold f215 at h
  refine sx_iconst (v := 0) k215_0 (by decide) ?_
  refine cx_istore_n (lo2 := [(1, .int (0 : Int32)), (0, .ref 0)]) k215_1 rfl (by rw [mx_215]; decide) rfl ?_
  refine sx_iconst (v := 0) k215_2 (by decide) ?_
  refine cx_istore_n (lo2 := [(2, .int (0 : Int32)), (1, .int (0 : Int32)), (0, .ref 0)]) k215_3 rfl (by rw [mx_215]; decide) rfl ?_
  refine sx_pick (lo2 := [(0, .ref 0), (1, .int (0 : Int32)), (2, .int (0 : Int32))]) [2, 1, 0] rfl ?_
  exact l215_4_ok gF (0 : Int32) (0 : Int32) _ _ h
theorem k216_0 : decode (gb 216) 0 = .ok (.aload_n 0, 1) := by decide +kernel
theorem k216_1 : decode (gb 216) 1 = .ok (.getfield 66, 3) := by decide +kernel
theorem k216_4 : decode (gb 216) 4 = .ok (.invokevirtual 207, 3) := by decide +kernel
theorem k216_7 : decode (gb 216) 7 = .ok (.ifCond .ne 4, 3) := by decide +kernel
theorem k216_10 : decode (gb 216) 10 = .ok (.return_, 1) := by decide +kernel
theorem k216_11 : decode (gb 216) 11 = .ok (.aload_n 0, 1) := by decide +kernel
theorem k216_12 : decode (gb 216) 12 = .ok (.getfield 66, 3) := by decide +kernel
theorem k216_15 : decode (gb 216) 15 = .ok (.invokevirtual 210, 3) := by decide +kernel
theorem k216_18 : decode (gb 216) 18 = .ok (.ifCond .eq 34, 3) := by decide +kernel
theorem k216_21 : decode (gb 216) 21 = .ok (.aload_n 0, 1) := by decide +kernel
theorem k216_22 : decode (gb 216) 22 = .ok (.getfield 57, 3) := by decide +kernel
theorem k216_25 : decode (gb 216) 25 = .ok (.aload_n 0, 1) := by decide +kernel
theorem k216_26 : decode (gb 216) 26 = .ok (.getfield 66, 3) := by decide +kernel
theorem k216_29 : decode (gb 216) 29 = .ok (.getfield 213, 3) := by decide +kernel
theorem k216_32 : decode (gb 216) 32 = .ok (.aload_n 0, 1) := by decide +kernel
theorem k216_33 : decode (gb 216) 33 = .ok (.getfield 66, 3) := by decide +kernel
theorem k216_36 : decode (gb 216) 36 = .ok (.getfield 216, 3) := by decide +kernel
theorem k216_39 : decode (gb 216) 39 = .ok (.invokevirtual 219, 3) := by decide +kernel
theorem k216_42 : decode (gb 216) 42 = .ok (.ifCond .eq 10, 3) := by decide +kernel
theorem k216_45 : decode (gb 216) 45 = .ok (.aload_n 0, 1) := by decide +kernel
theorem k216_46 : decode (gb 216) 46 = .ok (.getfield 57, 3) := by decide +kernel
theorem k216_49 : decode (gb 216) 49 = .ok (.invokevirtual 222, 3) := by decide +kernel
theorem k216_52 : decode (gb 216) 52 = .ok (.aload_n 0, 1) := by decide +kernel
theorem k216_53 : decode (gb 216) 53 = .ok (.getfield 66, 3) := by decide +kernel
theorem k216_56 : decode (gb 216) 56 = .ok (.invokevirtual 225, 3) := by decide +kernel
theorem k216_59 : decode (gb 216) 59 = .ok (.return_, 1) := by decide +kernel
def c216_52 (μ : Mem) : Option (Mem) :=
  (f105 μ).bind fun r1 =>
  some r1
theorem c216_52_ok {L : Nat} (μ : Mem) (res : Mem) (h : c216_52 μ = some res) : Sx 216 52 [(0, .ref 0)] [] 0 0 (mk L μ) (mk L res, none) := by
  unfold c216_52 at h
  refine sx_aload_n (i := 0) k216_52 rfl rfl ?_
  refine cx_getR (k := 7) k216_53 ow_216 fl_11_66 (by decide) sk_0 ft_10_7 sr_0_7 ?_
  obtain ⟨r1, e2, h⟩ := Option.bind_eq_some_iff.mp h
  refine cx_V (sk := []) (vs := []) st_216_105 k216_56 ow_216 cl_11_225 (by decide) rfl (Nat.le_of_ble_eq_true rfl) sk_49 (ok105 _ _ e2) (sk3 := []) rfl rfl ?_
  exact cx_retv k216_59 rt_216 h
/-- CraftHouse.hearFrame()V -/
def f216 (μ : Mem) : Option (Mem) :=
  (f103 μ).bind fun r1 =>
  if r1.2 = 0 then
    some r1.1
  else
    (f104 r1.1).bind fun r4 =>
    if r4.2 = 0 then
      c216_52 r4.1
    else
      (f143 (r4.1.1 49 18) (r4.1.1 49 17) r4.1).bind fun r7 =>
      if r7.2 = 0 then
        c216_52 r7.1
      else
        (f135 r7.1).bind fun r10 =>
        c216_52 r10
theorem ok216 {L : Nat} (μ : Mem) (res : Mem) (h : f216 μ = some res) : Mx 216 [.ref 0] (mk L μ) (mk L res, none) := by
  refine Mx_of ml_216 (by rw [mx_216]; exact Nat.le_of_ble_eq_true rfl) ?_
  show Sx 216 0 [(0, .ref 0)] [] 0 0 (mk L μ) _
  unfold f216 at h
  refine sx_aload_n (i := 0) k216_0 rfl rfl ?_
  refine cx_getR (k := 7) k216_1 ow_216 fl_11_66 (by decide) sk_0 ft_10_7 sr_0_7 ?_
  obtain ⟨r1, e2, h⟩ := Option.bind_eq_some_iff.mp h
  refine cx_V (sk := []) (vs := []) st_216_103 k216_4 ow_216 cl_11_207 (by decide) rfl (Nat.le_of_ble_eq_true rfl) sk_49 (ok103 _ _ e2) (sk3 := [.int r1.2]) rfl rfl ?_
  by_cases hb3 : r1.2 = 0
  · rw [if_pos hb3] at h
    refine sx_if_ne (tgt := 11) k216_7 (by decide) (fun q => absurd hb3 q) (fun _ => ?_)
    exact cx_retv k216_10 rt_216 h
  · rw [if_neg hb3] at h
    refine sx_if_ne (tgt := 11) k216_7 (by decide) (fun _ => ?_) (fun q => absurd q hb3)
    refine sx_aload_n (i := 0) k216_11 rfl rfl ?_
    refine cx_getR (k := 7) k216_12 ow_216 fl_11_66 (by decide) sk_0 ft_10_7 sr_0_7 ?_
    obtain ⟨r4, e5, h⟩ := Option.bind_eq_some_iff.mp h
    refine cx_V (sk := []) (vs := []) st_216_104 k216_15 ow_216 cl_11_210 (by decide) rfl (Nat.le_of_ble_eq_true rfl) sk_49 (ok104 _ _ e5) (sk3 := [.int r4.2]) rfl rfl ?_
    by_cases hb6 : r4.2 = 0
    · rw [if_pos hb6] at h
      refine sx_if_eq (tgt := 52) k216_18 (by decide) (fun _ => ?_) (fun q => absurd hb6 q)
      refine sx_pick (lo2 := [(0, .ref 0)]) [0] rfl ?_
      exact c216_52_ok _ _ h
    · rw [if_neg hb6] at h
      refine sx_if_eq (tgt := 52) k216_18 (by decide) (fun q => absurd q hb6) (fun _ => ?_)
      refine sx_aload_n (i := 0) k216_21 rfl rfl ?_
      refine cx_getR (k := 6) k216_22 ow_216 fl_11_57 (by decide) sk_0 ft_10_6 sr_0_6 ?_
      refine sx_aload_n (i := 0) k216_25 rfl rfl ?_
      refine cx_getR (k := 7) k216_26 ow_216 fl_11_66 (by decide) sk_0 ft_10_7 sr_0_7 ?_
      refine cx_getI (k := 18) k216_29 ow_216 fl_11_213 (by decide) sk_49 ft_3_18 ?_
      refine sx_aload_n (i := 0) k216_32 rfl rfl ?_
      refine cx_getR (k := 7) k216_33 ow_216 fl_11_66 (by decide) sk_0 ft_10_7 sr_0_7 ?_
      refine cx_getI (k := 17) k216_36 ow_216 fl_11_216 (by decide) sk_49 ft_3_17 ?_
      obtain ⟨r7, e8, h⟩ := Option.bind_eq_some_iff.mp h
      refine cx_V (sk := []) (vs := [.int (r4.1.1 49 18), .int (r4.1.1 49 17)]) st_216_143 k216_39 ow_216 cl_11_219 (by decide) rfl (Nat.le_of_ble_eq_true rfl) sk_28 (ok143 (r4.1.1 49 18) (r4.1.1 49 17) _ _ e8) (sk3 := [.int r7.2]) rfl rfl ?_
      by_cases hb9 : r7.2 = 0
      · rw [if_pos hb9] at h
        refine sx_if_eq (tgt := 52) k216_42 (by decide) (fun _ => ?_) (fun q => absurd hb9 q)
        refine sx_pick (lo2 := [(0, .ref 0)]) [0] rfl ?_
        exact c216_52_ok _ _ h
      · rw [if_neg hb9] at h
        refine sx_if_eq (tgt := 52) k216_42 (by decide) (fun q => absurd q hb9) (fun _ => ?_)
        refine sx_aload_n (i := 0) k216_45 rfl rfl ?_
        refine cx_getR (k := 6) k216_46 ow_216 fl_11_57 (by decide) sk_0 ft_10_6 sr_0_6 ?_
        obtain ⟨r10, e11, h⟩ := Option.bind_eq_some_iff.mp h
        refine cx_V (sk := []) (vs := []) st_216_135 k216_49 ow_216 cl_11_222 (by decide) rfl (Nat.le_of_ble_eq_true rfl) sk_28 (ok135 _ _ e11) (sk3 := []) rfl rfl ?_
        refine sx_pick (lo2 := [(0, .ref 0)]) [0] rfl ?_
        exact c216_52_ok _ _ h
theorem k207_0 : decode (gb 207) 0 = .ok (.aload_n 0, 1) := by decide +kernel
theorem k207_1 : decode (gb 207) 1 = .ok (.iload_n 1, 1) := by decide +kernel
theorem k207_2 : decode (gb 207) 2 = .ok (.invokevirtual 137, 3) := by decide +kernel
theorem k207_5 : decode (gb 207) 5 = .ok (.ifCond .eq 7, 3) := by decide +kernel
theorem k207_8 : decode (gb 207) 8 = .ok (.iload_n 2, 1) := by decide +kernel
theorem k207_9 : decode (gb 207) 9 = .ok (.ifCond .ge 5, 3) := by decide +kernel
theorem k207_12 : decode (gb 207) 12 = .ok (.iconst (-1), 1) := by decide +kernel
theorem k207_13 : decode (gb 207) 13 = .ok (.ireturn, 1) := by decide +kernel
theorem k207_14 : decode (gb 207) 14 = .ok (.aload_n 0, 1) := by decide +kernel
theorem k207_15 : decode (gb 207) 15 = .ok (.iload_n 1, 1) := by decide +kernel
theorem k207_16 : decode (gb 207) 16 = .ok (.invokevirtual 141, 3) := by decide +kernel
theorem k207_19 : decode (gb 207) 19 = .ok (.astore_n 3, 1) := by decide +kernel
theorem k207_20 : decode (gb 207) 20 = .ok (.iload_n 2, 1) := by decide +kernel
theorem k207_21 : decode (gb 207) 21 = .ok (.aload_n 3, 1) := by decide +kernel
theorem k207_22 : decode (gb 207) 22 = .ok (.getfield 145, 3) := by decide +kernel
theorem k207_25 : decode (gb 207) 25 = .ok (.invokestatic 153, 3) := by decide +kernel
theorem k207_28 : decode (gb 207) 28 = .ok (.istore 4, 2) := by decide +kernel
theorem k207_30 : decode (gb 207) 30 = .ok (.iconst 0, 1) := by decide +kernel
theorem k207_31 : decode (gb 207) 31 = .ok (.istore 5, 2) := by decide +kernel
theorem k207_33 : decode (gb 207) 33 = .ok (.iload 5, 2) := by decide +kernel
theorem k207_35 : decode (gb 207) 35 = .ok (.iload 4, 2) := by decide +kernel
theorem k207_37 : decode (gb 207) 37 = .ok (.if_icmp .ge 56, 3) := by decide +kernel
theorem k207_40 : decode (gb 207) 40 = .ok (.aload_n 3, 1) := by decide +kernel
theorem k207_41 : decode (gb 207) 41 = .ok (.iload 5, 2) := by decide +kernel
theorem k207_43 : decode (gb 207) 43 = .ok (.invokevirtual 152, 3) := by decide +kernel
theorem k207_46 : decode (gb 207) 46 = .ok (.istore 6, 2) := by decide +kernel
theorem k207_48 : decode (gb 207) 48 = .ok (.iload_n 1, 1) := by decide +kernel
theorem k207_49 : decode (gb 207) 49 = .ok (.ifCond .ne 22, 3) := by decide +kernel
theorem k207_52 : decode (gb 207) 52 = .ok (.aload_n 0, 1) := by decide +kernel
theorem k207_53 : decode (gb 207) 53 = .ok (.getfield 37, 3) := by decide +kernel
theorem k207_56 : decode (gb 207) 56 = .ok (.iload 6, 2) := by decide +kernel
theorem k207_58 : decode (gb 207) 58 = .ok (.invokevirtual 158, 3) := by decide +kernel
theorem k207_61 : decode (gb 207) 61 = .ok (.ifCond .eq 26, 3) := by decide +kernel
theorem k207_64 : decode (gb 207) 64 = .ok (.aload_n 0, 1) := by decide +kernel
theorem k207_65 : decode (gb 207) 65 = .ok (.invokevirtual 161, 3) := by decide +kernel
theorem k207_68 : decode (gb 207) 68 = .ok (.goto 19, 3) := by decide +kernel
theorem k207_71 : decode (gb 207) 71 = .ok (.aload_n 0, 1) := by decide +kernel
theorem k207_72 : decode (gb 207) 72 = .ok (.getfield 66, 3) := by decide +kernel
theorem k207_75 : decode (gb 207) 75 = .ok (.iload 6, 2) := by decide +kernel
theorem k207_77 : decode (gb 207) 77 = .ok (.invokevirtual 164, 3) := by decide +kernel
theorem k207_80 : decode (gb 207) 80 = .ok (.ifCond .eq 7, 3) := by decide +kernel
theorem k207_83 : decode (gb 207) 83 = .ok (.aload_n 0, 1) := by decide +kernel
theorem k207_84 : decode (gb 207) 84 = .ok (.invokevirtual 165, 3) := by decide +kernel
theorem k207_87 : decode (gb 207) 87 = .ok (.iinc 5 1, 3) := by decide +kernel
theorem k207_90 : decode (gb 207) 90 = .ok (.goto (-57), 3) := by decide +kernel
theorem k207_93 : decode (gb 207) 93 = .ok (.aload_n 3, 1) := by decide +kernel
theorem k207_94 : decode (gb 207) 94 = .ok (.iload 4, 2) := by decide +kernel
theorem k207_96 : decode (gb 207) 96 = .ok (.invokevirtual 168, 3) := by decide +kernel
theorem k207_99 : decode (gb 207) 99 = .ok (.iload 4, 2) := by decide +kernel
theorem k207_101 : decode (gb 207) 101 = .ok (.ireturn, 1) := by decide +kernel
def c207_87 (kl33 : Int32 → Nat → Int32 → Int32 → Mem → Option (Mem × Int32)) (v1 : Int32) (q3 : Nat) (v4 : Int32) (v5 : Int32) (μ : Mem) : Option (Mem × Int32) :=
  nm (v5 + (1 : Int32)) fun x1 =>
  kl33 v1 q3 v4 x1 μ
theorem c207_87_ok {L : Nat} (kl33 : Int32 → Nat → Int32 → Int32 → Mem → Option (Mem × Int32)) (hk33 : (∀ (v1 : Int32) (q3 : Nat) (v4 : Int32) (v5 : Int32) (hq3 : SK0 q3 = (0, 4)) (μ : Mem) (res : Mem × Int32), kl33 v1 q3 v4 v5 μ = some res → Sx 207 33 [(0, .ref 0), (1, .int v1), (3, .ref q3), (4, .int v4), (5, .int v5)] [] 0 0 (mk L μ) (mk L res.1, some (.int res.2)))) (v1 : Int32) (q3 : Nat) (v4 : Int32) (v5 : Int32) (hq3 : SK0 q3 = (0, 4)) (μ : Mem) (res : Mem × Int32) (h : c207_87 kl33 v1 q3 v4 v5 μ = some res) : Sx 207 87 [(0, .ref 0), (1, .int v1), (3, .ref q3), (4, .int v4), (5, .int v5)] [] 0 0 (mk L μ) (mk L res.1, some (.int res.2)) := by
  unfold c207_87 at h
  refine cx_iinc (c := 1) (lo2 := fun x1 => [(5, .int x1), (0, .ref 0), (1, .int v1), (3, .ref q3), (4, .int v4)]) k207_87 rfl (by decide) (by rw [mx_207]; decide) (fun _ => rfl) h (fun x1 h => ?_)
  refine sx_goto (tgt := 33) k207_90 (by decide) ?_
  refine sx_pick (lo2 := [(0, .ref 0), (1, .int v1), (3, .ref q3), (4, .int v4), (5, .int x1)]) [1, 2, 3, 4, 0] rfl ?_
  exact hk33 v1 q3 v4 x1 hq3 _ _ h
def b207_33 (kl33 : Int32 → Nat → Int32 → Int32 → Mem → Option (Mem × Int32)) (v1 : Int32) (q3 : Nat) (v4 : Int32) (v5 : Int32) (μ : Mem) : Option (Mem × Int32) :=
  if v4 ≤ v5 then
    (f112 q3 v4 μ).bind fun r2 =>
    some (r2, v4)
  else
    (f108 q3 v5 μ).bind fun r4 =>
    if v1 = 0 then
      (f181 r4.2 r4.1).bind fun r12 =>
      if r12.2 = 0 then
        c207_87 kl33 v1 q3 v4 v5 r12.1
      else
        (f215 r12.1).bind fun r15 =>
        c207_87 kl33 v1 q3 v4 v5 r15
    else
      (f98 r4.2 r4.1).bind fun r7 =>
      if r7.2 = 0 then
        c207_87 kl33 v1 q3 v4 v5 r7.1
      else
        (f216 r7.1).bind fun r10 =>
        c207_87 kl33 v1 q3 v4 v5 r10
theorem b207_33_ok {L : Nat} (kl33 : Int32 → Nat → Int32 → Int32 → Mem → Option (Mem × Int32)) (hk33 : (∀ (v1 : Int32) (q3 : Nat) (v4 : Int32) (v5 : Int32) (hq3 : SK0 q3 = (0, 4)) (μ : Mem) (res : Mem × Int32), kl33 v1 q3 v4 v5 μ = some res → Sx 207 33 [(0, .ref 0), (1, .int v1), (3, .ref q3), (4, .int v4), (5, .int v5)] [] 0 0 (mk L μ) (mk L res.1, some (.int res.2)))) (v1 : Int32) (q3 : Nat) (v4 : Int32) (v5 : Int32) (hq3 : SK0 q3 = (0, 4)) (μ : Mem) (res : Mem × Int32) (h : b207_33 kl33 v1 q3 v4 v5 μ = some res) : Sx 207 33 [(0, .ref 0), (1, .int v1), (3, .ref q3), (4, .int v4), (5, .int v5)] [] 0 0 (mk L μ) (mk L res.1, some (.int res.2)) := by
  unfold b207_33 at h
  refine sx_iload k207_33 rfl ?_
  refine sx_iload k207_35 rfl ?_
  by_cases hb1 : v4 ≤ v5
  · rw [if_pos hb1] at h
    refine sx_icmp_ge (tgt := 93) k207_37 (by decide) (fun _ => ?_) (fun q => absurd hb1 q)
    refine sx_aload_n (i := 3) k207_93 rfl rfl ?_
    refine sx_iload k207_94 rfl ?_
    obtain ⟨r2, e3, h⟩ := Option.bind_eq_some_iff.mp h
    refine cx_V (sk := []) (vs := [.int v4]) st_207_112 k207_96 ow_207 cl_11_168 (by decide) rfl (Nat.le_of_ble_eq_true rfl) hq3 (ok112 q3 v4 hq3 _ _ e3) (sk3 := []) rfl rfl ?_
    refine sx_iload k207_99 rfl ?_
    exact cx_reti k207_101 rt_207 h
  · rw [if_neg hb1] at h
    refine sx_icmp_ge (tgt := 93) k207_37 (by decide) (fun q => absurd q hb1) (fun _ => ?_)
    refine sx_aload_n (i := 3) k207_40 rfl rfl ?_
    refine sx_iload k207_41 rfl ?_
    obtain ⟨r4, e5, h⟩ := Option.bind_eq_some_iff.mp h
    refine cx_V (sk := []) (vs := [.int v5]) st_207_108 k207_43 ow_207 cl_11_152 (by decide) rfl (Nat.le_of_ble_eq_true rfl) hq3 (ok108 q3 v5 hq3 _ _ e5) (sk3 := [.int r4.2]) rfl rfl ?_
    refine cx_istore (lo2 := [(6, .int r4.2), (0, .ref 0), (1, .int v1), (3, .ref q3), (4, .int v4), (5, .int v5)]) k207_46 (by rw [mx_207]; decide) rfl ?_
    refine sx_iload_n (i := 1) k207_48 rfl rfl ?_
    by_cases hb6 : v1 = 0
    · rw [if_pos hb6] at h
      refine sx_if_ne (tgt := 71) k207_49 (by decide) (fun q => absurd hb6 q) (fun _ => ?_)
      refine sx_aload_n (i := 0) k207_52 rfl rfl ?_
      refine cx_getR (k := 4) k207_53 ow_207 fl_11_37 (by decide) sk_0 ft_10_4 sr_0_4 ?_
      refine sx_iload k207_56 rfl ?_
      obtain ⟨r12, e13, h⟩ := Option.bind_eq_some_iff.mp h
      refine cx_V (sk := []) (vs := [.int r4.2]) st_207_181 k207_58 ow_207 cl_11_158 (by decide) rfl (Nat.le_of_ble_eq_true rfl) sk_9 (ok181 r4.2 _ _ e13) (sk3 := [.int r12.2]) rfl rfl ?_
      by_cases hb14 : r12.2 = 0
      · rw [if_pos hb14] at h
        refine sx_if_eq (tgt := 87) k207_61 (by decide) (fun _ => ?_) (fun q => absurd hb14 q)
        refine sx_pick (lo2 := [(0, .ref 0), (1, .int v1), (3, .ref q3), (4, .int v4), (5, .int v5)]) [1, 2, 3, 4, 5] rfl ?_
        exact c207_87_ok kl33 hk33 v1 q3 v4 v5 hq3 _ _ h
      · rw [if_neg hb14] at h
        refine sx_if_eq (tgt := 87) k207_61 (by decide) (fun q => absurd q hb14) (fun _ => ?_)
        refine sx_aload_n (i := 0) k207_64 rfl rfl ?_
        obtain ⟨r15, e16, h⟩ := Option.bind_eq_some_iff.mp h
        refine cx_V (sk := []) (vs := []) st_207_215 k207_65 ow_207 cl_11_161 (by decide) rfl (Nat.le_of_ble_eq_true rfl) sk_0 (ok215 _ _ e16) (sk3 := []) rfl rfl ?_
        refine sx_goto (tgt := 87) k207_68 (by decide) ?_
        refine sx_pick (lo2 := [(0, .ref 0), (1, .int v1), (3, .ref q3), (4, .int v4), (5, .int v5)]) [1, 2, 3, 4, 5] rfl ?_
        exact c207_87_ok kl33 hk33 v1 q3 v4 v5 hq3 _ _ h
    · rw [if_neg hb6] at h
      refine sx_if_ne (tgt := 71) k207_49 (by decide) (fun _ => ?_) (fun q => absurd q hb6)
      refine sx_aload_n (i := 0) k207_71 rfl rfl ?_
      refine cx_getR (k := 7) k207_72 ow_207 fl_11_66 (by decide) sk_0 ft_10_7 sr_0_7 ?_
      refine sx_iload k207_75 rfl ?_
      obtain ⟨r7, e8, h⟩ := Option.bind_eq_some_iff.mp h
      refine cx_V (sk := []) (vs := [.int r4.2]) st_207_98 k207_77 ow_207 cl_11_164 (by decide) rfl (Nat.le_of_ble_eq_true rfl) sk_49 (ok98 r4.2 _ _ e8) (sk3 := [.int r7.2]) rfl rfl ?_
      by_cases hb9 : r7.2 = 0
      · rw [if_pos hb9] at h
        refine sx_if_eq (tgt := 87) k207_80 (by decide) (fun _ => ?_) (fun q => absurd hb9 q)
        refine sx_pick (lo2 := [(0, .ref 0), (1, .int v1), (3, .ref q3), (4, .int v4), (5, .int v5)]) [1, 2, 3, 4, 5] rfl ?_
        exact c207_87_ok kl33 hk33 v1 q3 v4 v5 hq3 _ _ h
      · rw [if_neg hb9] at h
        refine sx_if_eq (tgt := 87) k207_80 (by decide) (fun q => absurd q hb9) (fun _ => ?_)
        refine sx_aload_n (i := 0) k207_83 rfl rfl ?_
        obtain ⟨r10, e11, h⟩ := Option.bind_eq_some_iff.mp h
        refine cx_V (sk := []) (vs := []) st_207_216 k207_84 ow_207 cl_11_165 (by decide) rfl (Nat.le_of_ble_eq_true rfl) sk_0 (ok216 _ _ e11) (sk3 := []) rfl rfl ?_
        refine sx_pick (lo2 := [(0, .ref 0), (1, .int v1), (3, .ref q3), (4, .int v4), (5, .int v5)]) [1, 2, 3, 4, 5] rfl ?_
        exact c207_87_ok kl33 hk33 v1 q3 v4 v5 hq3 _ _ h
def l207_33 : Nat → Int32 × Nat × Int32 × Int32 × Mem → Option (Mem × Int32) :=
  fixN (fun self x => b207_33 (fun v1 q3 v4 v5 μ => self (v1, q3, v4, v5, μ)) (x.1) (x.2.1) (x.2.2.1) (x.2.2.2.1) (x.2.2.2.2))
theorem l207_33_ok {L : Nat} (n : Nat) (v1 : Int32) (q3 : Nat) (v4 : Int32) (v5 : Int32) (hq3 : SK0 q3 = (0, 4)) (μ : Mem) (res : Mem × Int32) (h : l207_33 n (v1, q3, v4, v5, μ) = some res) : Sx 207 33 [(0, .ref 0), (1, .int v1), (3, .ref q3), (4, .int v4), (5, .int v5)] [] 0 0 (mk L μ) (mk L res.1, some (.int res.2)) := by
  have key := fixN_ind (P := fun x res => SK0 (x.2.1) = (0, 4) → Sx 207 33 [(0, .ref 0), (1, .int (x.1)), (3, .ref (x.2.1)), (4, .int (x.2.2.1)), (5, .int (x.2.2.2.1))] [] 0 0 (mk L (x.2.2.2.2)) (mk L res.1, some (.int res.2))) (F := fun self x => b207_33 (fun v1 q3 v4 v5 μ => self (v1, q3, v4, v5, μ)) (x.1) (x.2.1) (x.2.2.1) (x.2.2.2.1) (x.2.2.2.2)) (fun self hself x res h hq3 => b207_33_ok (fun v1 q3 v4 v5 μ => self (v1, q3, v4, v5, μ)) (fun v1 q3 v4 v5 hq3 μ res hh => hself (v1, q3, v4, v5, μ) res hh hq3) (x.1) (x.2.1) (x.2.2.1) (x.2.2.2.1) hq3 (x.2.2.2.2) res h) n (v1, q3, v4, v5, μ) res h hq3
  exact key
/-- CraftHouse.carry(II)I -/
def f207 (p1 : Int32) (p2 : Int32) (μ : Mem) : Option (Mem × Int32) :=
  (f212 p1 μ).bind fun r1 =>
  if r1.2 = 0 then
    some (r1.1, (-1 : Int32))
  else
    if 0 ≤ p2 then
      (f214 p1 r1.1).bind fun r5 =>
      nm (jmin p2 (r5.1.1 r5.2 2)) fun x7 =>
      l207_33 gF (p1, r5.2, x7, (0 : Int32), r5.1)
    else
      some (r1.1, (-1 : Int32))
theorem ok207 {L : Nat} (p1 : Int32) (p2 : Int32) (μ : Mem) (res : Mem × Int32) (h : f207 p1 p2 μ = some res) : Mx 207 [.ref 0, .int p1, .int p2] (mk L μ) (mk L res.1, some (.int res.2)) := by
  refine Mx_of ml_207 (by rw [mx_207]; exact Nat.le_of_ble_eq_true rfl) ?_
  show Sx 207 0 [(0, .ref 0), (1, .int p1), (2, .int p2)] [] 0 0 (mk L μ) _
  unfold f207 at h
  refine sx_aload_n (i := 0) k207_0 rfl rfl ?_
  refine sx_iload_n (i := 1) k207_1 rfl rfl ?_
  obtain ⟨r1, e2, h⟩ := Option.bind_eq_some_iff.mp h
  refine cx_V (sk := []) (vs := [.int p1]) st_207_212 k207_2 ow_207 cl_11_137 (by decide) rfl (Nat.le_of_ble_eq_true rfl) sk_0 (ok212 p1 _ _ e2) (sk3 := [.int r1.2]) rfl rfl ?_
  by_cases hb3 : r1.2 = 0
  · rw [if_pos hb3] at h
    refine sx_if_eq (tgt := 12) k207_5 (by decide) (fun _ => ?_) (fun q => absurd hb3 q)
    refine sx_iconst (v := -1) k207_12 (by decide) ?_
    exact cx_reti k207_13 rt_207 h
  · rw [if_neg hb3] at h
    refine sx_if_eq (tgt := 12) k207_5 (by decide) (fun q => absurd q hb3) (fun _ => ?_)
    refine sx_iload_n (i := 2) k207_8 rfl rfl ?_
    by_cases hb4 : 0 ≤ p2
    · rw [if_pos hb4] at h
      refine sx_if_ge (tgt := 14) k207_9 (by decide) (fun _ => ?_) (fun q => absurd hb4 q)
      refine sx_aload_n (i := 0) k207_14 rfl rfl ?_
      refine sx_iload_n (i := 1) k207_15 rfl rfl ?_
      obtain ⟨r5, e6, h⟩ := Option.bind_eq_some_iff.mp h
      refine cx_V (sk := []) (vs := [.int p1]) st_207_214 k207_16 ow_207 cl_11_141 (by decide) rfl (Nat.le_of_ble_eq_true rfl) sk_0 (ok214 p1 _ _ e6) (sk3 := [.ref r5.2]) rfl rfl ?_
      refine cx_astore_n (lo2 := [(3, .ref r5.2), (0, .ref 0), (1, .int p1), (2, .int p2)]) k207_19 rfl (by rw [mx_207]; decide) rfl ?_
      refine sx_iload_n (i := 2) k207_20 rfl rfl ?_
      refine sx_aload_n (i := 3) k207_21 rfl rfl ?_
      refine cx_getI (k := 2) k207_22 ow_207 fl_11_145 (by decide) (rk_214 e6) ft_4_2 ?_
      refine cx_min k207_25 ow_207 yl_11_153 (by decide) (by decide +kernel) (Nat.le_of_ble_eq_true rfl) ?_
      refine cx_nm h (fun x7 h => ?_)
      refine cx_istore (lo2 := [(4, .int x7), (3, .ref r5.2), (0, .ref 0), (1, .int p1), (2, .int p2)]) k207_28 (by rw [mx_207]; decide) rfl ?_
      refine sx_iconst (v := 0) k207_30 (by decide) ?_
      refine cx_istore (lo2 := [(5, .int (0 : Int32)), (4, .int x7), (3, .ref r5.2), (0, .ref 0), (1, .int p1), (2, .int p2)]) k207_31 (by rw [mx_207]; decide) rfl ?_
      refine sx_pick (lo2 := [(0, .ref 0), (1, .int p1), (3, .ref r5.2), (4, .int x7), (5, .int (0 : Int32))]) [3, 4, 2, 1, 0] rfl ?_
      exact l207_33_ok gF p1 r5.2 x7 (0 : Int32) (rk_214 e6) _ _ h
    · rw [if_neg hb4] at h
      refine sx_if_ge (tgt := 14) k207_9 (by decide) (fun q => absurd q hb4) (fun _ => ?_)
      refine sx_iconst (v := -1) k207_12 (by decide) ?_
      exact cx_reti k207_13 rt_207 h
theorem k208_0 : decode (gb 208) 0 = .ok (.aload_n 0, 1) := by decide +kernel
theorem k208_1 : decode (gb 208) 1 = .ok (.iload_n 1, 1) := by decide +kernel
theorem k208_2 : decode (gb 208) 2 = .ok (.iload_n 2, 1) := by decide +kernel
theorem k208_3 : decode (gb 208) 3 = .ok (.invokevirtual 148, 3) := by decide +kernel
theorem k208_6 : decode (gb 208) 6 = .ok (.ifCond .ne 5, 3) := by decide +kernel
theorem k208_9 : decode (gb 208) 9 = .ok (.iconst (-1), 1) := by decide +kernel
theorem k208_10 : decode (gb 208) 10 = .ok (.ireturn, 1) := by decide +kernel
theorem k208_11 : decode (gb 208) 11 = .ok (.aload_n 0, 1) := by decide +kernel
theorem k208_12 : decode (gb 208) 12 = .ok (.iload_n 1, 1) := by decide +kernel
theorem k208_13 : decode (gb 208) 13 = .ok (.invokevirtual 141, 3) := by decide +kernel
theorem k208_16 : decode (gb 208) 16 = .ok (.iload_n 2, 1) := by decide +kernel
theorem k208_17 : decode (gb 208) 17 = .ok (.invokevirtual 171, 3) := by decide +kernel
theorem k208_20 : decode (gb 208) 20 = .ok (.aload_n 0, 1) := by decide +kernel
theorem k208_21 : decode (gb 208) 21 = .ok (.iload_n 1, 1) := by decide +kernel
theorem k208_22 : decode (gb 208) 22 = .ok (.invokevirtual 141, 3) := by decide +kernel
theorem k208_25 : decode (gb 208) 25 = .ok (.iload_n 2, 1) := by decide +kernel
theorem k208_26 : decode (gb 208) 26 = .ok (.invokevirtual 152, 3) := by decide +kernel
theorem k208_29 : decode (gb 208) 29 = .ok (.ireturn, 1) := by decide +kernel
/-- CraftHouse.turn(II)I -/
def f208 (p1 : Int32) (p2 : Int32) (μ : Mem) : Option (Mem × Int32) :=
  (f213 p1 p2 μ).bind fun r1 =>
  if r1.2 = 0 then
    some (r1.1, (-1 : Int32))
  else
    (f214 p1 r1.1).bind fun r4 =>
    (f109 r4.2 p2 r4.1).bind fun r6 =>
    (f214 p1 r6).bind fun r8 =>
    (f108 r8.2 p2 r8.1).bind fun r10 =>
    some (r10.1, r10.2)
theorem ok208 {L : Nat} (p1 : Int32) (p2 : Int32) (μ : Mem) (res : Mem × Int32) (h : f208 p1 p2 μ = some res) : Mx 208 [.ref 0, .int p1, .int p2] (mk L μ) (mk L res.1, some (.int res.2)) := by
  refine Mx_of ml_208 (by rw [mx_208]; exact Nat.le_of_ble_eq_true rfl) ?_
  show Sx 208 0 [(0, .ref 0), (1, .int p1), (2, .int p2)] [] 0 0 (mk L μ) _
  unfold f208 at h
  refine sx_aload_n (i := 0) k208_0 rfl rfl ?_
  refine sx_iload_n (i := 1) k208_1 rfl rfl ?_
  refine sx_iload_n (i := 2) k208_2 rfl rfl ?_
  obtain ⟨r1, e2, h⟩ := Option.bind_eq_some_iff.mp h
  refine cx_V (sk := []) (vs := [.int p1, .int p2]) st_208_213 k208_3 ow_208 cl_11_148 (by decide) rfl (Nat.le_of_ble_eq_true rfl) sk_0 (ok213 p1 p2 _ _ e2) (sk3 := [.int r1.2]) rfl rfl ?_
  by_cases hb3 : r1.2 = 0
  · rw [if_pos hb3] at h
    refine sx_if_ne (tgt := 11) k208_6 (by decide) (fun q => absurd hb3 q) (fun _ => ?_)
    refine sx_iconst (v := -1) k208_9 (by decide) ?_
    exact cx_reti k208_10 rt_208 h
  · rw [if_neg hb3] at h
    refine sx_if_ne (tgt := 11) k208_6 (by decide) (fun _ => ?_) (fun q => absurd q hb3)
    refine sx_aload_n (i := 0) k208_11 rfl rfl ?_
    refine sx_iload_n (i := 1) k208_12 rfl rfl ?_
    obtain ⟨r4, e5, h⟩ := Option.bind_eq_some_iff.mp h
    refine cx_V (sk := []) (vs := [.int p1]) st_208_214 k208_13 ow_208 cl_11_141 (by decide) rfl (Nat.le_of_ble_eq_true rfl) sk_0 (ok214 p1 _ _ e5) (sk3 := [.ref r4.2]) rfl rfl ?_
    refine sx_iload_n (i := 2) k208_16 rfl rfl ?_
    obtain ⟨r6, e7, h⟩ := Option.bind_eq_some_iff.mp h
    refine cx_V (sk := []) (vs := [.int p2]) st_208_109 k208_17 ow_208 cl_11_171 (by decide) rfl (Nat.le_of_ble_eq_true rfl) (rk_214 e5) (ok109 r4.2 p2 (rk_214 e5) _ _ e7) (sk3 := []) rfl rfl ?_
    refine sx_aload_n (i := 0) k208_20 rfl rfl ?_
    refine sx_iload_n (i := 1) k208_21 rfl rfl ?_
    obtain ⟨r8, e9, h⟩ := Option.bind_eq_some_iff.mp h
    refine cx_V (sk := []) (vs := [.int p1]) st_208_214 k208_22 ow_208 cl_11_141 (by decide) rfl (Nat.le_of_ble_eq_true rfl) sk_0 (ok214 p1 _ _ e9) (sk3 := [.ref r8.2]) rfl rfl ?_
    refine sx_iload_n (i := 2) k208_25 rfl rfl ?_
    obtain ⟨r10, e11, h⟩ := Option.bind_eq_some_iff.mp h
    refine cx_V (sk := []) (vs := [.int p2]) st_208_108 k208_26 ow_208 cl_11_152 (by decide) rfl (Nat.le_of_ble_eq_true rfl) (rk_214 e9) (ok108 r8.2 p2 (rk_214 e9) _ _ e11) (sk3 := [.int r10.2]) rfl rfl ?_
    exact cx_reti k208_29 rt_208 h
theorem k209_0 : decode (gb 209) 0 = .ok (.aload_n 0, 1) := by decide +kernel
theorem k209_1 : decode (gb 209) 1 = .ok (.iload_n 1, 1) := by decide +kernel
theorem k209_2 : decode (gb 209) 2 = .ok (.iload_n 2, 1) := by decide +kernel
theorem k209_3 : decode (gb 209) 3 = .ok (.invokevirtual 148, 3) := by decide +kernel
theorem k209_6 : decode (gb 209) 6 = .ok (.ifCond .ne 5, 3) := by decide +kernel
theorem k209_9 : decode (gb 209) 9 = .ok (.iconst (-1), 1) := by decide +kernel
theorem k209_10 : decode (gb 209) 10 = .ok (.ireturn, 1) := by decide +kernel
theorem k209_11 : decode (gb 209) 11 = .ok (.aload_n 0, 1) := by decide +kernel
theorem k209_12 : decode (gb 209) 12 = .ok (.iload_n 1, 1) := by decide +kernel
theorem k209_13 : decode (gb 209) 13 = .ok (.invokevirtual 141, 3) := by decide +kernel
theorem k209_16 : decode (gb 209) 16 = .ok (.iload_n 2, 1) := by decide +kernel
theorem k209_17 : decode (gb 209) 17 = .ok (.invokevirtual 174, 3) := by decide +kernel
theorem k209_20 : decode (gb 209) 20 = .ok (.aload_n 0, 1) := by decide +kernel
theorem k209_21 : decode (gb 209) 21 = .ok (.iload_n 1, 1) := by decide +kernel
theorem k209_22 : decode (gb 209) 22 = .ok (.invokevirtual 141, 3) := by decide +kernel
theorem k209_25 : decode (gb 209) 25 = .ok (.getfield 145, 3) := by decide +kernel
theorem k209_28 : decode (gb 209) 28 = .ok (.ireturn, 1) := by decide +kernel
/-- CraftHouse.slip(II)I -/
def f209 (p1 : Int32) (p2 : Int32) (μ : Mem) : Option (Mem × Int32) :=
  (f213 p1 p2 μ).bind fun r1 =>
  if r1.2 = 0 then
    some (r1.1, (-1 : Int32))
  else
    (f214 p1 r1.1).bind fun r4 =>
    (f114 r4.2 p2 r4.1).bind fun r6 =>
    (f214 p1 r6).bind fun r8 =>
    some (r8.1, (r8.1.1 r8.2 2))
theorem ok209 {L : Nat} (p1 : Int32) (p2 : Int32) (μ : Mem) (res : Mem × Int32) (h : f209 p1 p2 μ = some res) : Mx 209 [.ref 0, .int p1, .int p2] (mk L μ) (mk L res.1, some (.int res.2)) := by
  refine Mx_of ml_209 (by rw [mx_209]; exact Nat.le_of_ble_eq_true rfl) ?_
  show Sx 209 0 [(0, .ref 0), (1, .int p1), (2, .int p2)] [] 0 0 (mk L μ) _
  unfold f209 at h
  refine sx_aload_n (i := 0) k209_0 rfl rfl ?_
  refine sx_iload_n (i := 1) k209_1 rfl rfl ?_
  refine sx_iload_n (i := 2) k209_2 rfl rfl ?_
  obtain ⟨r1, e2, h⟩ := Option.bind_eq_some_iff.mp h
  refine cx_V (sk := []) (vs := [.int p1, .int p2]) st_209_213 k209_3 ow_209 cl_11_148 (by decide) rfl (Nat.le_of_ble_eq_true rfl) sk_0 (ok213 p1 p2 _ _ e2) (sk3 := [.int r1.2]) rfl rfl ?_
  by_cases hb3 : r1.2 = 0
  · rw [if_pos hb3] at h
    refine sx_if_ne (tgt := 11) k209_6 (by decide) (fun q => absurd hb3 q) (fun _ => ?_)
    refine sx_iconst (v := -1) k209_9 (by decide) ?_
    exact cx_reti k209_10 rt_209 h
  · rw [if_neg hb3] at h
    refine sx_if_ne (tgt := 11) k209_6 (by decide) (fun _ => ?_) (fun q => absurd q hb3)
    refine sx_aload_n (i := 0) k209_11 rfl rfl ?_
    refine sx_iload_n (i := 1) k209_12 rfl rfl ?_
    obtain ⟨r4, e5, h⟩ := Option.bind_eq_some_iff.mp h
    refine cx_V (sk := []) (vs := [.int p1]) st_209_214 k209_13 ow_209 cl_11_141 (by decide) rfl (Nat.le_of_ble_eq_true rfl) sk_0 (ok214 p1 _ _ e5) (sk3 := [.ref r4.2]) rfl rfl ?_
    refine sx_iload_n (i := 2) k209_16 rfl rfl ?_
    obtain ⟨r6, e7, h⟩ := Option.bind_eq_some_iff.mp h
    refine cx_V (sk := []) (vs := [.int p2]) st_209_114 k209_17 ow_209 cl_11_174 (by decide) rfl (Nat.le_of_ble_eq_true rfl) (rk_214 e5) (ok114 r4.2 p2 (rk_214 e5) _ _ e7) (sk3 := []) rfl rfl ?_
    refine sx_aload_n (i := 0) k209_20 rfl rfl ?_
    refine sx_iload_n (i := 1) k209_21 rfl rfl ?_
    obtain ⟨r8, e9, h⟩ := Option.bind_eq_some_iff.mp h
    refine cx_V (sk := []) (vs := [.int p1]) st_209_214 k209_22 ow_209 cl_11_141 (by decide) rfl (Nat.le_of_ble_eq_true rfl) sk_0 (ok214 p1 _ _ e9) (sk3 := [.ref r8.2]) rfl rfl ?_
    refine cx_getI (k := 2) k209_25 ow_209 fl_11_145 (by decide) (rk_214 e9) ft_4_2 ?_
    exact cx_reti k209_28 rt_209 h
theorem k210_0 : decode (gb 210) 0 = .ok (.aload_n 0, 1) := by decide +kernel
theorem k210_1 : decode (gb 210) 1 = .ok (.iload_n 1, 1) := by decide +kernel
theorem k210_2 : decode (gb 210) 2 = .ok (.invokevirtual 137, 3) := by decide +kernel
theorem k210_5 : decode (gb 210) 5 = .ok (.ifCond .eq 7, 3) := by decide +kernel
theorem k210_8 : decode (gb 210) 8 = .ok (.iload_n 2, 1) := by decide +kernel
theorem k210_9 : decode (gb 210) 9 = .ok (.ifCond .ge 5, 3) := by decide +kernel
theorem k210_12 : decode (gb 210) 12 = .ok (.iconst (-1), 1) := by decide +kernel
theorem k210_13 : decode (gb 210) 13 = .ok (.ireturn, 1) := by decide +kernel
theorem k210_14 : decode (gb 210) 14 = .ok (.aload_n 0, 1) := by decide +kernel
theorem k210_15 : decode (gb 210) 15 = .ok (.iload_n 1, 1) := by decide +kernel
theorem k210_16 : decode (gb 210) 16 = .ok (.invokevirtual 141, 3) := by decide +kernel
theorem k210_19 : decode (gb 210) 19 = .ok (.iload_n 2, 1) := by decide +kernel
theorem k210_20 : decode (gb 210) 20 = .ok (.invokevirtual 177, 3) := by decide +kernel
theorem k210_23 : decode (gb 210) 23 = .ok (.aload_n 0, 1) := by decide +kernel
theorem k210_24 : decode (gb 210) 24 = .ok (.iload_n 1, 1) := by decide +kernel
theorem k210_25 : decode (gb 210) 25 = .ok (.invokevirtual 141, 3) := by decide +kernel
theorem k210_28 : decode (gb 210) 28 = .ok (.getfield 145, 3) := by decide +kernel
theorem k210_31 : decode (gb 210) 31 = .ok (.ireturn, 1) := by decide +kernel
/-- CraftHouse.lose(II)I -/
def f210 (p1 : Int32) (p2 : Int32) (μ : Mem) : Option (Mem × Int32) :=
  (f212 p1 μ).bind fun r1 =>
  if r1.2 = 0 then
    some (r1.1, (-1 : Int32))
  else
    if 0 ≤ p2 then
      (f214 p1 r1.1).bind fun r5 =>
      (f113 r5.2 p2 r5.1).bind fun r7 =>
      (f214 p1 r7).bind fun r9 =>
      some (r9.1, (r9.1.1 r9.2 2))
    else
      some (r1.1, (-1 : Int32))
theorem ok210 {L : Nat} (p1 : Int32) (p2 : Int32) (μ : Mem) (res : Mem × Int32) (h : f210 p1 p2 μ = some res) : Mx 210 [.ref 0, .int p1, .int p2] (mk L μ) (mk L res.1, some (.int res.2)) := by
  refine Mx_of ml_210 (by rw [mx_210]; exact Nat.le_of_ble_eq_true rfl) ?_
  show Sx 210 0 [(0, .ref 0), (1, .int p1), (2, .int p2)] [] 0 0 (mk L μ) _
  unfold f210 at h
  refine sx_aload_n (i := 0) k210_0 rfl rfl ?_
  refine sx_iload_n (i := 1) k210_1 rfl rfl ?_
  obtain ⟨r1, e2, h⟩ := Option.bind_eq_some_iff.mp h
  refine cx_V (sk := []) (vs := [.int p1]) st_210_212 k210_2 ow_210 cl_11_137 (by decide) rfl (Nat.le_of_ble_eq_true rfl) sk_0 (ok212 p1 _ _ e2) (sk3 := [.int r1.2]) rfl rfl ?_
  by_cases hb3 : r1.2 = 0
  · rw [if_pos hb3] at h
    refine sx_if_eq (tgt := 12) k210_5 (by decide) (fun _ => ?_) (fun q => absurd hb3 q)
    refine sx_iconst (v := -1) k210_12 (by decide) ?_
    exact cx_reti k210_13 rt_210 h
  · rw [if_neg hb3] at h
    refine sx_if_eq (tgt := 12) k210_5 (by decide) (fun q => absurd q hb3) (fun _ => ?_)
    refine sx_iload_n (i := 2) k210_8 rfl rfl ?_
    by_cases hb4 : 0 ≤ p2
    · rw [if_pos hb4] at h
      refine sx_if_ge (tgt := 14) k210_9 (by decide) (fun _ => ?_) (fun q => absurd hb4 q)
      refine sx_aload_n (i := 0) k210_14 rfl rfl ?_
      refine sx_iload_n (i := 1) k210_15 rfl rfl ?_
      obtain ⟨r5, e6, h⟩ := Option.bind_eq_some_iff.mp h
      refine cx_V (sk := []) (vs := [.int p1]) st_210_214 k210_16 ow_210 cl_11_141 (by decide) rfl (Nat.le_of_ble_eq_true rfl) sk_0 (ok214 p1 _ _ e6) (sk3 := [.ref r5.2]) rfl rfl ?_
      refine sx_iload_n (i := 2) k210_19 rfl rfl ?_
      obtain ⟨r7, e8, h⟩ := Option.bind_eq_some_iff.mp h
      refine cx_V (sk := []) (vs := [.int p2]) st_210_113 k210_20 ow_210 cl_11_177 (by decide) rfl (Nat.le_of_ble_eq_true rfl) (rk_214 e6) (ok113 r5.2 p2 (rk_214 e6) _ _ e8) (sk3 := []) rfl rfl ?_
      refine sx_aload_n (i := 0) k210_23 rfl rfl ?_
      refine sx_iload_n (i := 1) k210_24 rfl rfl ?_
      obtain ⟨r9, e10, h⟩ := Option.bind_eq_some_iff.mp h
      refine cx_V (sk := []) (vs := [.int p1]) st_210_214 k210_25 ow_210 cl_11_141 (by decide) rfl (Nat.le_of_ble_eq_true rfl) sk_0 (ok214 p1 _ _ e10) (sk3 := [.ref r9.2]) rfl rfl ?_
      refine cx_getI (k := 2) k210_28 ow_210 fl_11_145 (by decide) (rk_214 e10) ft_4_2 ?_
      exact cx_reti k210_31 rt_210 h
    · rw [if_neg hb4] at h
      refine sx_if_ge (tgt := 14) k210_9 (by decide) (fun q => absurd q hb4) (fun _ => ?_)
      refine sx_iconst (v := -1) k210_12 (by decide) ?_
      exact cx_reti k210_13 rt_210 h
theorem k211_0 : decode (gb 211) 0 = .ok (.aload_n 0, 1) := by decide +kernel
theorem k211_1 : decode (gb 211) 1 = .ok (.iload_n 1, 1) := by decide +kernel
theorem k211_2 : decode (gb 211) 2 = .ok (.invokevirtual 137, 3) := by decide +kernel
theorem k211_5 : decode (gb 211) 5 = .ok (.ifCond .ne 5, 3) := by decide +kernel
theorem k211_8 : decode (gb 211) 8 = .ok (.iconst (-1), 1) := by decide +kernel
theorem k211_9 : decode (gb 211) 9 = .ok (.ireturn, 1) := by decide +kernel
theorem k211_10 : decode (gb 211) 10 = .ok (.aload_n 0, 1) := by decide +kernel
theorem k211_11 : decode (gb 211) 11 = .ok (.iload_n 1, 1) := by decide +kernel
theorem k211_12 : decode (gb 211) 12 = .ok (.invokevirtual 141, 3) := by decide +kernel
theorem k211_15 : decode (gb 211) 15 = .ok (.aload_n 0, 1) := by decide +kernel
theorem k211_16 : decode (gb 211) 16 = .ok (.getfield 12, 3) := by decide +kernel
theorem k211_19 : decode (gb 211) 19 = .ok (.invokevirtual 180, 3) := by decide +kernel
theorem k211_22 : decode (gb 211) 22 = .ok (.istore_n 2, 1) := by decide +kernel
theorem k211_23 : decode (gb 211) 23 = .ok (.aload_n 0, 1) := by decide +kernel
theorem k211_24 : decode (gb 211) 24 = .ok (.getfield 12, 3) := by decide +kernel
theorem k211_27 : decode (gb 211) 27 = .ok (.invokevirtual 99, 3) := by decide +kernel
theorem k211_30 : decode (gb 211) 30 = .ok (.iload_n 2, 1) := by decide +kernel
theorem k211_31 : decode (gb 211) 31 = .ok (.ifCond .eq 14, 3) := by decide +kernel
theorem k211_34 : decode (gb 211) 34 = .ok (.aload_n 0, 1) := by decide +kernel
theorem k211_35 : decode (gb 211) 35 = .ok (.iload_n 1, 1) := by decide +kernel
theorem k211_36 : decode (gb 211) 36 = .ok (.invokevirtual 141, 3) := by decide +kernel
theorem k211_39 : decode (gb 211) 39 = .ok (.getfield 145, 3) := by decide +kernel
theorem k211_42 : decode (gb 211) 42 = .ok (.goto 5, 3) := by decide +kernel
theorem k211_45 : decode (gb 211) 45 = .ok (.bipush (-3), 2) := by decide +kernel
theorem k211_47 : decode (gb 211) 47 = .ok (.ireturn, 1) := by decide +kernel
/-- CraftHouse.inject(I)I -/
def f211 (p1 : Int32) (μ : Mem) : Option (Mem × Int32) :=
  (f212 p1 μ).bind fun r1 =>
  if r1.2 = 0 then
    some (r1.1, (-1 : Int32))
  else
    (f214 p1 r1.1).bind fun r4 =>
    (f110 r4.2 1 r4.1).bind fun r6 =>
    (f64 1 r6.1).bind fun r8 =>
    if r6.2 = 0 then
      some (r8, (-3 : Int32))
    else
      (f214 p1 r8).bind fun r11 =>
      some (r11.1, (r11.1.1 r11.2 2))
theorem ok211 {L : Nat} (p1 : Int32) (μ : Mem) (res : Mem × Int32) (h : f211 p1 μ = some res) : Mx 211 [.ref 0, .int p1] (mk L μ) (mk L res.1, some (.int res.2)) := by
  refine Mx_of ml_211 (by rw [mx_211]; exact Nat.le_of_ble_eq_true rfl) ?_
  show Sx 211 0 [(0, .ref 0), (1, .int p1)] [] 0 0 (mk L μ) _
  unfold f211 at h
  refine sx_aload_n (i := 0) k211_0 rfl rfl ?_
  refine sx_iload_n (i := 1) k211_1 rfl rfl ?_
  obtain ⟨r1, e2, h⟩ := Option.bind_eq_some_iff.mp h
  refine cx_V (sk := []) (vs := [.int p1]) st_211_212 k211_2 ow_211 cl_11_137 (by decide) rfl (Nat.le_of_ble_eq_true rfl) sk_0 (ok212 p1 _ _ e2) (sk3 := [.int r1.2]) rfl rfl ?_
  by_cases hb3 : r1.2 = 0
  · rw [if_pos hb3] at h
    refine sx_if_ne (tgt := 10) k211_5 (by decide) (fun q => absurd hb3 q) (fun _ => ?_)
    refine sx_iconst (v := -1) k211_8 (by decide) ?_
    exact cx_reti k211_9 rt_211 h
  · rw [if_neg hb3] at h
    refine sx_if_ne (tgt := 10) k211_5 (by decide) (fun _ => ?_) (fun q => absurd q hb3)
    refine sx_aload_n (i := 0) k211_10 rfl rfl ?_
    refine sx_iload_n (i := 1) k211_11 rfl rfl ?_
    obtain ⟨r4, e5, h⟩ := Option.bind_eq_some_iff.mp h
    refine cx_V (sk := []) (vs := [.int p1]) st_211_214 k211_12 ow_211 cl_11_141 (by decide) rfl (Nat.le_of_ble_eq_true rfl) sk_0 (ok214 p1 _ _ e5) (sk3 := [.ref r4.2]) rfl rfl ?_
    refine sx_aload_n (i := 0) k211_15 rfl rfl ?_
    refine cx_getR (k := 0) k211_16 ow_211 fl_11_12 (by decide) sk_0 ft_10_0 sr_0_0 ?_
    obtain ⟨r6, e7, h⟩ := Option.bind_eq_some_iff.mp h
    refine cx_V (sk := []) (vs := [.ref 1]) st_211_110 k211_19 ow_211 cl_11_180 (by decide) rfl (Nat.le_of_ble_eq_true rfl) (rk_214 e5) (ok110 r4.2 1 (rk_214 e5) sk_1 _ _ e7) (sk3 := [.int r6.2]) rfl rfl ?_
    refine cx_istore_n (lo2 := [(2, .int r6.2), (0, .ref 0), (1, .int p1)]) k211_22 rfl (by rw [mx_211]; decide) rfl ?_
    refine sx_aload_n (i := 0) k211_23 rfl rfl ?_
    refine cx_getR (k := 0) k211_24 ow_211 fl_11_12 (by decide) sk_0 ft_10_0 sr_0_0 ?_
    obtain ⟨r8, e9, h⟩ := Option.bind_eq_some_iff.mp h
    refine cx_V (sk := []) (vs := []) st_211_64 k211_27 ow_211 cl_11_99 (by decide) rfl (Nat.le_of_ble_eq_true rfl) sk_1 (ok64 1 sk_1 _ _ e9) (sk3 := []) rfl rfl ?_
    refine sx_iload_n (i := 2) k211_30 rfl rfl ?_
    by_cases hb10 : r6.2 = 0
    · rw [if_pos hb10] at h
      refine sx_if_eq (tgt := 45) k211_31 (by decide) (fun _ => ?_) (fun q => absurd hb10 q)
      refine sx_bipush (v := -3) k211_45 (by decide) ?_
      exact cx_reti k211_47 rt_211 h
    · rw [if_neg hb10] at h
      refine sx_if_eq (tgt := 45) k211_31 (by decide) (fun q => absurd q hb10) (fun _ => ?_)
      refine sx_aload_n (i := 0) k211_34 rfl rfl ?_
      refine sx_iload_n (i := 1) k211_35 rfl rfl ?_
      obtain ⟨r11, e12, h⟩ := Option.bind_eq_some_iff.mp h
      refine cx_V (sk := []) (vs := [.int p1]) st_211_214 k211_36 ow_211 cl_11_141 (by decide) rfl (Nat.le_of_ble_eq_true rfl) sk_0 (ok214 p1 _ _ e12) (sk3 := [.ref r11.2]) rfl rfl ?_
      refine cx_getI (k := 2) k211_39 ow_211 fl_11_145 (by decide) (rk_214 e12) ft_4_2 ?_
      refine sx_goto (tgt := 47) k211_42 (by decide) ?_
      exact cx_reti k211_47 rt_211 h
theorem k220_0 : decode (gb 220) 0 = .ok (.iload_n 1, 1) := by decide +kernel
theorem k220_1 : decode (gb 220) 1 = .ok (.ifCond .lt 14, 3) := by decide +kernel
theorem k220_4 : decode (gb 220) 4 = .ok (.iload_n 1, 1) := by decide +kernel
theorem k220_5 : decode (gb 220) 5 = .ok (.sipush 255, 3) := by decide +kernel
theorem k220_8 : decode (gb 220) 8 = .ok (.if_icmp .gt 7, 3) := by decide +kernel
theorem k220_11 : decode (gb 220) 11 = .ok (.iconst 1, 1) := by decide +kernel
theorem k220_12 : decode (gb 220) 12 = .ok (.goto 4, 3) := by decide +kernel
theorem k220_15 : decode (gb 220) 15 = .ok (.iconst 0, 1) := by decide +kernel
theorem k220_16 : decode (gb 220) 16 = .ok (.ireturn, 1) := by decide +kernel
/-- CraftHouse.isByte(I)Z -/
def f220 (p1 : Int32) (μ : Mem) : Option (Mem × Int32) :=
  if p1 < 0 then
    rtZ (0 : Int32) μ
  else
    if (255 : Int32) < p1 then
      rtZ (0 : Int32) μ
    else
      rtZ (1 : Int32) μ
theorem ok220 {L : Nat} (p1 : Int32) (μ : Mem) (res : Mem × Int32) (h : f220 p1 μ = some res) : Mx 220 [.ref 0, .int p1] (mk L μ) (mk L res.1, some (.int res.2)) := by
  refine Mx_of ml_220 (by rw [mx_220]; exact Nat.le_of_ble_eq_true rfl) ?_
  show Sx 220 0 [(0, .ref 0), (1, .int p1)] [] 0 0 (mk L μ) _
  unfold f220 at h
  refine sx_iload_n (i := 1) k220_0 rfl rfl ?_
  by_cases hb1 : p1 < 0
  · rw [if_pos hb1] at h
    refine sx_if_lt (tgt := 15) k220_1 (by decide) (fun _ => ?_) (fun q => absurd hb1 q)
    refine sx_iconst (v := 0) k220_15 (by decide) ?_
    exact cx_retz k220_16 rt_220 h
  · rw [if_neg hb1] at h
    refine sx_if_lt (tgt := 15) k220_1 (by decide) (fun q => absurd q hb1) (fun _ => ?_)
    refine sx_iload_n (i := 1) k220_4 rfl rfl ?_
    refine sx_sipush (v := 255) k220_5 (by decide) ?_
    by_cases hb2 : (255 : Int32) < p1
    · rw [if_pos hb2] at h
      refine sx_icmp_gt (tgt := 15) k220_8 (by decide) (fun _ => ?_) (fun q => absurd hb2 q)
      refine sx_iconst (v := 0) k220_15 (by decide) ?_
      exact cx_retz k220_16 rt_220 h
    · rw [if_neg hb2] at h
      refine sx_icmp_gt (tgt := 15) k220_8 (by decide) (fun q => absurd q hb2) (fun _ => ?_)
      refine sx_iconst (v := 1) k220_11 (by decide) ?_
      refine sx_goto (tgt := 16) k220_12 (by decide) ?_
      exact cx_retz k220_16 rt_220 h
theorem k219_0 : decode (gb 219) 0 = .ok (.aload_n 0, 1) := by decide +kernel
theorem k219_1 : decode (gb 219) 1 = .ok (.iload_n 1, 1) := by decide +kernel
theorem k219_2 : decode (gb 219) 2 = .ok (.invokevirtual 250, 3) := by decide +kernel
theorem k219_5 : decode (gb 219) 5 = .ok (.ifCond .eq 25, 3) := by decide +kernel
theorem k219_8 : decode (gb 219) 8 = .ok (.aload_n 0, 1) := by decide +kernel
theorem k219_9 : decode (gb 219) 9 = .ok (.iload_n 2, 1) := by decide +kernel
theorem k219_10 : decode (gb 219) 10 = .ok (.invokevirtual 250, 3) := by decide +kernel
theorem k219_13 : decode (gb 219) 13 = .ok (.ifCond .eq 17, 3) := by decide +kernel
theorem k219_16 : decode (gb 219) 16 = .ok (.iload_n 3, 1) := by decide +kernel
theorem k219_17 : decode (gb 219) 17 = .ok (.ifCond .lt 13, 3) := by decide +kernel
theorem k219_20 : decode (gb 219) 20 = .ok (.iload_n 3, 1) := by decide +kernel
theorem k219_21 : decode (gb 219) 21 = .ok (.bipush 15, 2) := by decide +kernel
theorem k219_23 : decode (gb 219) 23 = .ok (.if_icmp .gt 7, 3) := by decide +kernel
theorem k219_26 : decode (gb 219) 26 = .ok (.iconst 1, 1) := by decide +kernel
theorem k219_27 : decode (gb 219) 27 = .ok (.goto 4, 3) := by decide +kernel
theorem k219_30 : decode (gb 219) 30 = .ok (.iconst 0, 1) := by decide +kernel
theorem k219_31 : decode (gb 219) 31 = .ok (.ireturn, 1) := by decide +kernel
/-- CraftHouse.mayRequest(III)Z -/
def f219 (p1 : Int32) (p2 : Int32) (p3 : Int32) (μ : Mem) : Option (Mem × Int32) :=
  (f220 p1 μ).bind fun r1 =>
  if r1.2 = 0 then
    rtZ (0 : Int32) r1.1
  else
    (f220 p2 r1.1).bind fun r4 =>
    if r4.2 = 0 then
      rtZ (0 : Int32) r4.1
    else
      if p3 < 0 then
        rtZ (0 : Int32) r4.1
      else
        if (15 : Int32) < p3 then
          rtZ (0 : Int32) r4.1
        else
          rtZ (1 : Int32) r4.1
theorem ok219 {L : Nat} (p1 : Int32) (p2 : Int32) (p3 : Int32) (μ : Mem) (res : Mem × Int32) (h : f219 p1 p2 p3 μ = some res) : Mx 219 [.ref 0, .int p1, .int p2, .int p3] (mk L μ) (mk L res.1, some (.int res.2)) := by
  refine Mx_of ml_219 (by rw [mx_219]; exact Nat.le_of_ble_eq_true rfl) ?_
  show Sx 219 0 [(0, .ref 0), (1, .int p1), (2, .int p2), (3, .int p3)] [] 0 0 (mk L μ) _
  unfold f219 at h
  refine sx_aload_n (i := 0) k219_0 rfl rfl ?_
  refine sx_iload_n (i := 1) k219_1 rfl rfl ?_
  obtain ⟨r1, e2, h⟩ := Option.bind_eq_some_iff.mp h
  refine cx_V (sk := []) (vs := [.int p1]) st_219_220 k219_2 ow_219 cl_11_250 (by decide) rfl (Nat.le_of_ble_eq_true rfl) sk_0 (ok220 p1 _ _ e2) (sk3 := [.int r1.2]) rfl rfl ?_
  by_cases hb3 : r1.2 = 0
  · rw [if_pos hb3] at h
    refine sx_if_eq (tgt := 30) k219_5 (by decide) (fun _ => ?_) (fun q => absurd hb3 q)
    refine sx_iconst (v := 0) k219_30 (by decide) ?_
    exact cx_retz k219_31 rt_219 h
  · rw [if_neg hb3] at h
    refine sx_if_eq (tgt := 30) k219_5 (by decide) (fun q => absurd q hb3) (fun _ => ?_)
    refine sx_aload_n (i := 0) k219_8 rfl rfl ?_
    refine sx_iload_n (i := 2) k219_9 rfl rfl ?_
    obtain ⟨r4, e5, h⟩ := Option.bind_eq_some_iff.mp h
    refine cx_V (sk := []) (vs := [.int p2]) st_219_220 k219_10 ow_219 cl_11_250 (by decide) rfl (Nat.le_of_ble_eq_true rfl) sk_0 (ok220 p2 _ _ e5) (sk3 := [.int r4.2]) rfl rfl ?_
    by_cases hb6 : r4.2 = 0
    · rw [if_pos hb6] at h
      refine sx_if_eq (tgt := 30) k219_13 (by decide) (fun _ => ?_) (fun q => absurd hb6 q)
      refine sx_iconst (v := 0) k219_30 (by decide) ?_
      exact cx_retz k219_31 rt_219 h
    · rw [if_neg hb6] at h
      refine sx_if_eq (tgt := 30) k219_13 (by decide) (fun q => absurd q hb6) (fun _ => ?_)
      refine sx_iload_n (i := 3) k219_16 rfl rfl ?_
      by_cases hb7 : p3 < 0
      · rw [if_pos hb7] at h
        refine sx_if_lt (tgt := 30) k219_17 (by decide) (fun _ => ?_) (fun q => absurd hb7 q)
        refine sx_iconst (v := 0) k219_30 (by decide) ?_
        exact cx_retz k219_31 rt_219 h
      · rw [if_neg hb7] at h
        refine sx_if_lt (tgt := 30) k219_17 (by decide) (fun q => absurd q hb7) (fun _ => ?_)
        refine sx_iload_n (i := 3) k219_20 rfl rfl ?_
        refine sx_bipush (v := 15) k219_21 (by decide) ?_
        by_cases hb8 : (15 : Int32) < p3
        · rw [if_pos hb8] at h
          refine sx_icmp_gt (tgt := 30) k219_23 (by decide) (fun _ => ?_) (fun q => absurd hb8 q)
          refine sx_iconst (v := 0) k219_30 (by decide) ?_
          exact cx_retz k219_31 rt_219 h
        · rw [if_neg hb8] at h
          refine sx_icmp_gt (tgt := 30) k219_23 (by decide) (fun q => absurd q hb8) (fun _ => ?_)
          refine sx_iconst (v := 1) k219_26 (by decide) ?_
          refine sx_goto (tgt := 31) k219_27 (by decide) ?_
          exact cx_retz k219_31 rt_219 h
theorem k217_0 : decode (gb 217) 0 = .ok (.aload_n 0, 1) := by decide +kernel
theorem k217_1 : decode (gb 217) 1 = .ok (.iload_n 1, 1) := by decide +kernel
theorem k217_2 : decode (gb 217) 2 = .ok (.iload_n 2, 1) := by decide +kernel
theorem k217_3 : decode (gb 217) 3 = .ok (.iload_n 3, 1) := by decide +kernel
theorem k217_4 : decode (gb 217) 4 = .ok (.invokevirtual 228, 3) := by decide +kernel
theorem k217_7 : decode (gb 217) 7 = .ok (.ifCond .ne 5, 3) := by decide +kernel
theorem k217_10 : decode (gb 217) 10 = .ok (.iconst (-1), 1) := by decide +kernel
theorem k217_11 : decode (gb 217) 11 = .ok (.ireturn, 1) := by decide +kernel
theorem k217_12 : decode (gb 217) 12 = .ok (.aload_n 0, 1) := by decide +kernel
theorem k217_13 : decode (gb 217) 13 = .ok (.getfield 12, 3) := by decide +kernel
theorem k217_16 : decode (gb 217) 16 = .ok (.getfield 88, 3) := by decide +kernel
theorem k217_19 : decode (gb 217) 19 = .ok (.bipush 13, 2) := by decide +kernel
theorem k217_21 : decode (gb 217) 21 = .ok (.iadd, 1) := by decide +kernel
theorem k217_22 : decode (gb 217) 22 = .ok (.bipush 100, 2) := by decide +kernel
theorem k217_24 : decode (gb 217) 24 = .ok (.if_icmp .le 10, 3) := by decide +kernel
theorem k217_27 : decode (gb 217) 27 = .ok (.aload_n 0, 1) := by decide +kernel
theorem k217_28 : decode (gb 217) 28 = .ok (.bipush (-3), 2) := by decide +kernel
theorem k217_30 : decode (gb 217) 30 = .ok (.invokevirtual 113, 3) := by decide +kernel
theorem k217_33 : decode (gb 217) 33 = .ok (.ireturn, 1) := by decide +kernel
theorem k217_34 : decode (gb 217) 34 = .ok (.aload_n 0, 1) := by decide +kernel
theorem k217_35 : decode (gb 217) 35 = .ok (.getfield 44, 3) := by decide +kernel
theorem k217_38 : decode (gb 217) 38 = .ok (.iload_n 1, 1) := by decide +kernel
theorem k217_39 : decode (gb 217) 39 = .ok (.iload_n 2, 1) := by decide +kernel
theorem k217_40 : decode (gb 217) 40 = .ok (.iload_n 3, 1) := by decide +kernel
theorem k217_41 : decode (gb 217) 41 = .ok (.aload_n 0, 1) := by decide +kernel
theorem k217_42 : decode (gb 217) 42 = .ok (.getfield 12, 3) := by decide +kernel
theorem k217_45 : decode (gb 217) 45 = .ok (.iconst 0, 1) := by decide +kernel
theorem k217_46 : decode (gb 217) 46 = .ok (.invokevirtual 232, 3) := by decide +kernel
theorem k217_49 : decode (gb 217) 49 = .ok (.istore 4, 2) := by decide +kernel
theorem k217_51 : decode (gb 217) 51 = .ok (.aload_n 0, 1) := by decide +kernel
theorem k217_52 : decode (gb 217) 52 = .ok (.getfield 12, 3) := by decide +kernel
theorem k217_55 : decode (gb 217) 55 = .ok (.invokevirtual 99, 3) := by decide +kernel
theorem k217_58 : decode (gb 217) 58 = .ok (.aload_n 0, 1) := by decide +kernel
theorem k217_59 : decode (gb 217) 59 = .ok (.getfield 12, 3) := by decide +kernel
theorem k217_62 : decode (gb 217) 62 = .ok (.aload_n 0, 1) := by decide +kernel
theorem k217_63 : decode (gb 217) 63 = .ok (.getfield 44, 3) := by decide +kernel
theorem k217_66 : decode (gb 217) 66 = .ok (.getfield 236, 3) := by decide +kernel
theorem k217_69 : decode (gb 217) 69 = .ok (.invokevirtual 120, 3) := by decide +kernel
theorem k217_72 : decode (gb 217) 72 = .ok (.iload 4, 2) := by decide +kernel
theorem k217_74 : decode (gb 217) 74 = .ok (.ireturn, 1) := by decide +kernel
/-- CraftHouse.build(III)I -/
def f217 (p1 : Int32) (p2 : Int32) (p3 : Int32) (μ : Mem) : Option (Mem × Int32) :=
  (f219 p1 p2 p3 μ).bind fun r1 =>
  if r1.2 = 0 then
    some (r1.1, (-1 : Int32))
  else
    if ((r1.1.1 1 1) + (13 : Int32)) ≤ (100 : Int32) then
      (f86 p1 p2 p3 1 (0 : Int32) r1.1).bind fun r5 =>
      (f64 1 r5.1).bind fun r7 =>
      (f71 1 13 r7).bind fun r9 =>
      some (r9, r5.2)
    else
      (f204 (-3 : Int32) r1.1).bind fun r11 =>
      some (r11.1, r11.2)
theorem ok217 {L : Nat} (p1 : Int32) (p2 : Int32) (p3 : Int32) (μ : Mem) (res : Mem × Int32) (h : f217 p1 p2 p3 μ = some res) : Mx 217 [.ref 0, .int p1, .int p2, .int p3] (mk L μ) (mk L res.1, some (.int res.2)) := by
  refine Mx_of ml_217 (by rw [mx_217]; exact Nat.le_of_ble_eq_true rfl) ?_
  show Sx 217 0 [(0, .ref 0), (1, .int p1), (2, .int p2), (3, .int p3)] [] 0 0 (mk L μ) _
  unfold f217 at h
  refine sx_aload_n (i := 0) k217_0 rfl rfl ?_
  refine sx_iload_n (i := 1) k217_1 rfl rfl ?_
  refine sx_iload_n (i := 2) k217_2 rfl rfl ?_
  refine sx_iload_n (i := 3) k217_3 rfl rfl ?_
  obtain ⟨r1, e2, h⟩ := Option.bind_eq_some_iff.mp h
  refine cx_V (sk := []) (vs := [.int p1, .int p2, .int p3]) st_217_219 k217_4 ow_217 cl_11_228 (by decide) rfl (Nat.le_of_ble_eq_true rfl) sk_0 (ok219 p1 p2 p3 _ _ e2) (sk3 := [.int r1.2]) rfl rfl ?_
  by_cases hb3 : r1.2 = 0
  · rw [if_pos hb3] at h
    refine sx_if_ne (tgt := 12) k217_7 (by decide) (fun q => absurd hb3 q) (fun _ => ?_)
    refine sx_iconst (v := -1) k217_10 (by decide) ?_
    exact cx_reti k217_11 rt_217 h
  · rw [if_neg hb3] at h
    refine sx_if_ne (tgt := 12) k217_7 (by decide) (fun _ => ?_) (fun q => absurd q hb3)
    refine sx_aload_n (i := 0) k217_12 rfl rfl ?_
    refine cx_getR (k := 0) k217_13 ow_217 fl_11_12 (by decide) sk_0 ft_10_0 sr_0_0 ?_
    refine cx_getI (k := 1) k217_16 ow_217 fl_11_88 (by decide) sk_1 ft_1_1 ?_
    refine sx_bipush (v := 13) k217_19 (by decide) ?_
    refine sx_iadd k217_21 ?_
    refine sx_bipush (v := 100) k217_22 (by decide) ?_
    by_cases hb4 : ((r1.1.1 1 1) + (13 : Int32)) ≤ (100 : Int32)
    · rw [if_pos hb4] at h
      refine sx_icmp_le (tgt := 34) k217_24 (by decide) (fun _ => ?_) (fun q => absurd hb4 q)
      refine sx_aload_n (i := 0) k217_34 rfl rfl ?_
      refine cx_getR (k := 5) k217_35 ow_217 fl_11_44 (by decide) sk_0 ft_10_5 sr_0_5 ?_
      refine sx_iload_n (i := 1) k217_38 rfl rfl ?_
      refine sx_iload_n (i := 2) k217_39 rfl rfl ?_
      refine sx_iload_n (i := 3) k217_40 rfl rfl ?_
      refine sx_aload_n (i := 0) k217_41 rfl rfl ?_
      refine cx_getR (k := 0) k217_42 ow_217 fl_11_12 (by decide) sk_0 ft_10_0 sr_0_0 ?_
      refine sx_iconst (v := 0) k217_45 (by decide) ?_
      obtain ⟨r5, e6, h⟩ := Option.bind_eq_some_iff.mp h
      refine cx_V (sk := []) (vs := [.int p1, .int p2, .int p3, .ref 1, .int (0 : Int32)]) st_217_86 k217_46 ow_217 cl_11_232 (by decide) rfl (Nat.le_of_ble_eq_true rfl) sk_12 (ok86 p1 p2 p3 1 (0 : Int32) sk_1 _ _ e6) (sk3 := [.int r5.2]) rfl rfl ?_
      refine cx_istore (lo2 := [(4, .int r5.2), (0, .ref 0), (1, .int p1), (2, .int p2), (3, .int p3)]) k217_49 (by rw [mx_217]; decide) rfl ?_
      refine sx_aload_n (i := 0) k217_51 rfl rfl ?_
      refine cx_getR (k := 0) k217_52 ow_217 fl_11_12 (by decide) sk_0 ft_10_0 sr_0_0 ?_
      obtain ⟨r7, e8, h⟩ := Option.bind_eq_some_iff.mp h
      refine cx_V (sk := []) (vs := []) st_217_64 k217_55 ow_217 cl_11_99 (by decide) rfl (Nat.le_of_ble_eq_true rfl) sk_1 (ok64 1 sk_1 _ _ e8) (sk3 := []) rfl rfl ?_
      refine sx_aload_n (i := 0) k217_58 rfl rfl ?_
      refine cx_getR (k := 0) k217_59 ow_217 fl_11_12 (by decide) sk_0 ft_10_0 sr_0_0 ?_
      refine sx_aload_n (i := 0) k217_62 rfl rfl ?_
      refine cx_getR (k := 5) k217_63 ow_217 fl_11_44 (by decide) sk_0 ft_10_5 sr_0_5 ?_
      refine cx_getR (k := 0) k217_66 ow_217 fl_11_236 (by decide) sk_12 ft_2_0 sr_12_0 ?_
      obtain ⟨r9, e10, h⟩ := Option.bind_eq_some_iff.mp h
      refine cx_V (sk := []) (vs := [.ref 13]) st_217_71 k217_69 ow_217 cl_11_120 (by decide) rfl (Nat.le_of_ble_eq_true rfl) sk_1 (ok71 1 13 sk_1 sk_13 _ _ e10) (sk3 := []) rfl rfl ?_
      refine sx_iload k217_72 rfl ?_
      exact cx_reti k217_74 rt_217 h
    · rw [if_neg hb4] at h
      refine sx_icmp_le (tgt := 34) k217_24 (by decide) (fun q => absurd q hb4) (fun _ => ?_)
      refine sx_aload_n (i := 0) k217_27 rfl rfl ?_
      refine sx_bipush (v := -3) k217_28 (by decide) ?_
      obtain ⟨r11, e12, h⟩ := Option.bind_eq_some_iff.mp h
      refine cx_V (sk := []) (vs := [.int (-3 : Int32)]) st_217_204 k217_30 ow_217 cl_11_113 (by decide) rfl (Nat.le_of_ble_eq_true rfl) sk_0 (ok204 (-3 : Int32) _ _ e12) (sk3 := [.int r11.2]) rfl rfl ?_
      exact cx_reti k217_33 rt_217 h
theorem k218_0 : decode (gb 218) 0 = .ok (.aload_n 0, 1) := by decide +kernel
theorem k218_1 : decode (gb 218) 1 = .ok (.iload_n 1, 1) := by decide +kernel
theorem k218_2 : decode (gb 218) 2 = .ok (.iload_n 2, 1) := by decide +kernel
theorem k218_3 : decode (gb 218) 3 = .ok (.iload_n 3, 1) := by decide +kernel
theorem k218_4 : decode (gb 218) 4 = .ok (.invokevirtual 228, 3) := by decide +kernel
theorem k218_7 : decode (gb 218) 7 = .ok (.ifCond .ne 5, 3) := by decide +kernel
theorem k218_10 : decode (gb 218) 10 = .ok (.iconst (-1), 1) := by decide +kernel
theorem k218_11 : decode (gb 218) 11 = .ok (.ireturn, 1) := by decide +kernel
theorem k218_12 : decode (gb 218) 12 = .ok (.iload 4, 2) := by decide +kernel
theorem k218_14 : decode (gb 218) 14 = .ok (.ifCond .ne 20, 3) := by decide +kernel
theorem k218_17 : decode (gb 218) 17 = .ok (.aload_n 0, 1) := by decide +kernel
theorem k218_18 : decode (gb 218) 18 = .ok (.getfield 57, 3) := by decide +kernel
theorem k218_21 : decode (gb 218) 21 = .ok (.invokevirtual 239, 3) := by decide +kernel
theorem k218_24 : decode (gb 218) 24 = .ok (.ifCond .ne 10, 3) := by decide +kernel
theorem k218_27 : decode (gb 218) 27 = .ok (.aload_n 0, 1) := by decide +kernel
theorem k218_28 : decode (gb 218) 28 = .ok (.bipush (-2), 2) := by decide +kernel
theorem k218_30 : decode (gb 218) 30 = .ok (.invokevirtual 113, 3) := by decide +kernel
theorem k218_33 : decode (gb 218) 33 = .ok (.ireturn, 1) := by decide +kernel
theorem k218_34 : decode (gb 218) 34 = .ok (.aload_n 0, 1) := by decide +kernel
theorem k218_35 : decode (gb 218) 35 = .ok (.getfield 12, 3) := by decide +kernel
theorem k218_38 : decode (gb 218) 38 = .ok (.getfield 88, 3) := by decide +kernel
theorem k218_41 : decode (gb 218) 41 = .ok (.bipush 13, 2) := by decide +kernel
theorem k218_43 : decode (gb 218) 43 = .ok (.iadd, 1) := by decide +kernel
theorem k218_44 : decode (gb 218) 44 = .ok (.bipush 60, 2) := by decide +kernel
theorem k218_46 : decode (gb 218) 46 = .ok (.if_icmp .gt 18, 3) := by decide +kernel
theorem k218_49 : decode (gb 218) 49 = .ok (.iload 4, 2) := by decide +kernel
theorem k218_51 : decode (gb 218) 51 = .ok (.ifCond .ne 20, 3) := by decide +kernel
theorem k218_54 : decode (gb 218) 54 = .ok (.aload_n 0, 1) := by decide +kernel
theorem k218_55 : decode (gb 218) 55 = .ok (.getfield 57, 3) := by decide +kernel
theorem k218_58 : decode (gb 218) 58 = .ok (.invokevirtual 242, 3) := by decide +kernel
theorem k218_61 : decode (gb 218) 61 = .ok (.ifCond .ne 10, 3) := by decide +kernel
theorem k218_64 : decode (gb 218) 64 = .ok (.aload_n 0, 1) := by decide +kernel
theorem k218_65 : decode (gb 218) 65 = .ok (.bipush (-3), 2) := by decide +kernel
theorem k218_67 : decode (gb 218) 67 = .ok (.invokevirtual 113, 3) := by decide +kernel
theorem k218_70 : decode (gb 218) 70 = .ok (.ireturn, 1) := by decide +kernel
theorem k218_71 : decode (gb 218) 71 = .ok (.aload_n 0, 1) := by decide +kernel
theorem k218_72 : decode (gb 218) 72 = .ok (.getfield 44, 3) := by decide +kernel
theorem k218_75 : decode (gb 218) 75 = .ok (.iload_n 1, 1) := by decide +kernel
theorem k218_76 : decode (gb 218) 76 = .ok (.iload_n 2, 1) := by decide +kernel
theorem k218_77 : decode (gb 218) 77 = .ok (.iload_n 3, 1) := by decide +kernel
theorem k218_78 : decode (gb 218) 78 = .ok (.aload_n 0, 1) := by decide +kernel
theorem k218_79 : decode (gb 218) 79 = .ok (.getfield 12, 3) := by decide +kernel
theorem k218_82 : decode (gb 218) 82 = .ok (.iload 4, 2) := by decide +kernel
theorem k218_84 : decode (gb 218) 84 = .ok (.ifCond .eq 7, 3) := by decide +kernel
theorem k218_87 : decode (gb 218) 87 = .ok (.iconst 2, 1) := by decide +kernel
theorem k218_88 : decode (gb 218) 88 = .ok (.goto 4, 3) := by decide +kernel
theorem k218_91 : decode (gb 218) 91 = .ok (.iconst 1, 1) := by decide +kernel
theorem k218_92 : decode (gb 218) 92 = .ok (.invokevirtual 232, 3) := by decide +kernel
theorem k218_95 : decode (gb 218) 95 = .ok (.istore 5, 2) := by decide +kernel
theorem k218_97 : decode (gb 218) 97 = .ok (.aload_n 0, 1) := by decide +kernel
theorem k218_98 : decode (gb 218) 98 = .ok (.getfield 12, 3) := by decide +kernel
theorem k218_101 : decode (gb 218) 101 = .ok (.invokevirtual 99, 3) := by decide +kernel
theorem k218_104 : decode (gb 218) 104 = .ok (.iload 4, 2) := by decide +kernel
theorem k218_106 : decode (gb 218) 106 = .ok (.ifCond .eq 20, 3) := by decide +kernel
theorem k218_109 : decode (gb 218) 109 = .ok (.aload_n 0, 1) := by decide +kernel
theorem k218_110 : decode (gb 218) 110 = .ok (.getfield 57, 3) := by decide +kernel
theorem k218_113 : decode (gb 218) 113 = .ok (.aload_n 0, 1) := by decide +kernel
theorem k218_114 : decode (gb 218) 114 = .ok (.getfield 44, 3) := by decide +kernel
theorem k218_117 : decode (gb 218) 117 = .ok (.getfield 236, 3) := by decide +kernel
theorem k218_120 : decode (gb 218) 120 = .ok (.invokevirtual 243, 3) := by decide +kernel
theorem k218_123 : decode (gb 218) 123 = .ok (.goto 26, 3) := by decide +kernel
theorem k218_126 : decode (gb 218) 126 = .ok (.aload_n 0, 1) := by decide +kernel
theorem k218_127 : decode (gb 218) 127 = .ok (.getfield 57, 3) := by decide +kernel
theorem k218_130 : decode (gb 218) 130 = .ok (.aload_n 0, 1) := by decide +kernel
theorem k218_131 : decode (gb 218) 131 = .ok (.getfield 44, 3) := by decide +kernel
theorem k218_134 : decode (gb 218) 134 = .ok (.getfield 236, 3) := by decide +kernel
theorem k218_137 : decode (gb 218) 137 = .ok (.iload 5, 2) := by decide +kernel
theorem k218_139 : decode (gb 218) 139 = .ok (.invokevirtual 246, 3) := by decide +kernel
theorem k218_142 : decode (gb 218) 142 = .ok (.aload_n 0, 1) := by decide +kernel
theorem k218_143 : decode (gb 218) 143 = .ok (.getfield 57, 3) := by decide +kernel
theorem k218_146 : decode (gb 218) 146 = .ok (.invokevirtual 222, 3) := by decide +kernel
theorem k218_149 : decode (gb 218) 149 = .ok (.iload 5, 2) := by decide +kernel
theorem k218_151 : decode (gb 218) 151 = .ok (.ireturn, 1) := by decide +kernel
def c218_64 (μ : Mem) : Option (Mem × Int32) :=
  (f204 (-3 : Int32) μ).bind fun r1 =>
  some (r1.1, r1.2)
theorem c218_64_ok {L : Nat} (μ : Mem) (res : Mem × Int32) (h : c218_64 μ = some res) : Sx 218 64 [(0, .ref 0)] [] 0 0 (mk L μ) (mk L res.1, some (.int res.2)) := by
  unfold c218_64 at h
  refine sx_aload_n (i := 0) k218_64 rfl rfl ?_
  refine sx_bipush (v := -3) k218_65 (by decide) ?_
  obtain ⟨r1, e2, h⟩ := Option.bind_eq_some_iff.mp h
  refine cx_V (sk := []) (vs := [.int (-3 : Int32)]) st_218_204 k218_67 ow_218 cl_11_113 (by decide) rfl (Nat.le_of_ble_eq_true rfl) sk_0 (ok204 (-3 : Int32) _ _ e2) (sk3 := [.int r1.2]) rfl rfl ?_
  exact cx_reti k218_70 rt_218 h
def c218_92 (v4 : Int32) (s1 : Int32) (s2 : Int32) (s3 : Int32) (s5 : Int32) (μ : Mem) : Option (Mem × Int32) :=
  (f86 s1 s2 s3 1 s5 μ).bind fun r1 =>
  (f64 1 r1.1).bind fun r3 =>
  if v4 = 0 then
    (f131 13 r1.2 r3).bind fun r6 =>
    (f135 r6).bind fun r8 =>
    some (r8, r1.2)
  else
    (f132 13 r3).bind fun r10 =>
    some (r10, r1.2)
theorem c218_92_ok {L : Nat} (v4 : Int32) (s1 : Int32) (s2 : Int32) (s3 : Int32) (s5 : Int32) (μ : Mem) (res : Mem × Int32) (h : c218_92 v4 s1 s2 s3 s5 μ = some res) : Sx 218 92 [(0, .ref 0), (4, .int v4)] [.int s5, .ref 1, .int s3, .int s2, .int s1, .ref 12] 0 0 (mk L μ) (mk L res.1, some (.int res.2)) := by
  unfold c218_92 at h
  obtain ⟨r1, e2, h⟩ := Option.bind_eq_some_iff.mp h
  refine cx_V (sk := []) (vs := [.int s1, .int s2, .int s3, .ref 1, .int s5]) st_218_86 k218_92 ow_218 cl_11_232 (by decide) rfl (Nat.le_of_ble_eq_true rfl) sk_12 (ok86 s1 s2 s3 1 s5 sk_1 _ _ e2) (sk3 := [.int r1.2]) rfl rfl ?_
  refine cx_istore (lo2 := [(5, .int r1.2), (0, .ref 0), (4, .int v4)]) k218_95 (by rw [mx_218]; decide) rfl ?_
  refine sx_aload_n (i := 0) k218_97 rfl rfl ?_
  refine cx_getR (k := 0) k218_98 ow_218 fl_11_12 (by decide) sk_0 ft_10_0 sr_0_0 ?_
  obtain ⟨r3, e4, h⟩ := Option.bind_eq_some_iff.mp h
  refine cx_V (sk := []) (vs := []) st_218_64 k218_101 ow_218 cl_11_99 (by decide) rfl (Nat.le_of_ble_eq_true rfl) sk_1 (ok64 1 sk_1 _ _ e4) (sk3 := []) rfl rfl ?_
  refine sx_iload k218_104 rfl ?_
  by_cases hb5 : v4 = 0
  · rw [if_pos hb5] at h
    refine sx_if_eq (tgt := 126) k218_106 (by decide) (fun _ => ?_) (fun q => absurd hb5 q)
    refine sx_aload_n (i := 0) k218_126 rfl rfl ?_
    refine cx_getR (k := 6) k218_127 ow_218 fl_11_57 (by decide) sk_0 ft_10_6 sr_0_6 ?_
    refine sx_aload_n (i := 0) k218_130 rfl rfl ?_
    refine cx_getR (k := 5) k218_131 ow_218 fl_11_44 (by decide) sk_0 ft_10_5 sr_0_5 ?_
    refine cx_getR (k := 0) k218_134 ow_218 fl_11_236 (by decide) sk_12 ft_2_0 sr_12_0 ?_
    refine sx_iload k218_137 rfl ?_
    obtain ⟨r6, e7, h⟩ := Option.bind_eq_some_iff.mp h
    refine cx_V (sk := []) (vs := [.ref 13, .int r1.2]) st_218_131 k218_139 ow_218 cl_11_246 (by decide) rfl (Nat.le_of_ble_eq_true rfl) sk_28 (ok131 13 r1.2 sk_13 _ _ e7) (sk3 := []) rfl rfl ?_
    refine sx_aload_n (i := 0) k218_142 rfl rfl ?_
    refine cx_getR (k := 6) k218_143 ow_218 fl_11_57 (by decide) sk_0 ft_10_6 sr_0_6 ?_
    obtain ⟨r8, e9, h⟩ := Option.bind_eq_some_iff.mp h
    refine cx_V (sk := []) (vs := []) st_218_135 k218_146 ow_218 cl_11_222 (by decide) rfl (Nat.le_of_ble_eq_true rfl) sk_28 (ok135 _ _ e9) (sk3 := []) rfl rfl ?_
    refine sx_iload k218_149 rfl ?_
    exact cx_reti k218_151 rt_218 h
  · rw [if_neg hb5] at h
    refine sx_if_eq (tgt := 126) k218_106 (by decide) (fun q => absurd q hb5) (fun _ => ?_)
    refine sx_aload_n (i := 0) k218_109 rfl rfl ?_
    refine cx_getR (k := 6) k218_110 ow_218 fl_11_57 (by decide) sk_0 ft_10_6 sr_0_6 ?_
    refine sx_aload_n (i := 0) k218_113 rfl rfl ?_
    refine cx_getR (k := 5) k218_114 ow_218 fl_11_44 (by decide) sk_0 ft_10_5 sr_0_5 ?_
    refine cx_getR (k := 0) k218_117 ow_218 fl_11_236 (by decide) sk_12 ft_2_0 sr_12_0 ?_
    obtain ⟨r10, e11, h⟩ := Option.bind_eq_some_iff.mp h
    refine cx_V (sk := []) (vs := [.ref 13]) st_218_132 k218_120 ow_218 cl_11_243 (by decide) rfl (Nat.le_of_ble_eq_true rfl) sk_28 (ok132 13 sk_13 _ _ e11) (sk3 := []) rfl rfl ?_
    refine sx_goto (tgt := 149) k218_123 (by decide) ?_
    refine sx_iload k218_149 rfl ?_
    exact cx_reti k218_151 rt_218 h
def c218_71 (v1 : Int32) (v2 : Int32) (v3 : Int32) (v4 : Int32) (μ : Mem) : Option (Mem × Int32) :=
  if v4 = 0 then
    c218_92 v4 v1 v2 v3 (1 : Int32) μ
  else
    c218_92 v4 v1 v2 v3 (2 : Int32) μ
theorem c218_71_ok {L : Nat} (v1 : Int32) (v2 : Int32) (v3 : Int32) (v4 : Int32) (μ : Mem) (res : Mem × Int32) (h : c218_71 v1 v2 v3 v4 μ = some res) : Sx 218 71 [(0, .ref 0), (1, .int v1), (2, .int v2), (3, .int v3), (4, .int v4)] [] 0 0 (mk L μ) (mk L res.1, some (.int res.2)) := by
  unfold c218_71 at h
  refine sx_aload_n (i := 0) k218_71 rfl rfl ?_
  refine cx_getR (k := 5) k218_72 ow_218 fl_11_44 (by decide) sk_0 ft_10_5 sr_0_5 ?_
  refine sx_iload_n (i := 1) k218_75 rfl rfl ?_
  refine sx_iload_n (i := 2) k218_76 rfl rfl ?_
  refine sx_iload_n (i := 3) k218_77 rfl rfl ?_
  refine sx_aload_n (i := 0) k218_78 rfl rfl ?_
  refine cx_getR (k := 0) k218_79 ow_218 fl_11_12 (by decide) sk_0 ft_10_0 sr_0_0 ?_
  refine sx_iload k218_82 rfl ?_
  by_cases hb1 : v4 = 0
  · rw [if_pos hb1] at h
    refine sx_if_eq (tgt := 91) k218_84 (by decide) (fun _ => ?_) (fun q => absurd hb1 q)
    refine sx_iconst (v := 1) k218_91 (by decide) ?_
    refine sx_pick (lo2 := [(0, .ref 0), (4, .int v4)]) [0, 4] rfl ?_
    exact c218_92_ok v4 v1 v2 v3 (1 : Int32) _ _ h
  · rw [if_neg hb1] at h
    refine sx_if_eq (tgt := 91) k218_84 (by decide) (fun q => absurd q hb1) (fun _ => ?_)
    refine sx_iconst (v := 2) k218_87 (by decide) ?_
    refine sx_goto (tgt := 92) k218_88 (by decide) ?_
    refine sx_pick (lo2 := [(0, .ref 0), (4, .int v4)]) [0, 4] rfl ?_
    exact c218_92_ok v4 v1 v2 v3 (2 : Int32) _ _ h
def c218_34 (v1 : Int32) (v2 : Int32) (v3 : Int32) (v4 : Int32) (μ : Mem) : Option (Mem × Int32) :=
  if (60 : Int32) < ((μ.1 1 1) + (13 : Int32)) then
    c218_64 μ
  else
    if v4 = 0 then
      (f130 μ).bind fun r3 =>
      if r3.2 = 0 then
        c218_64 r3.1
      else
        c218_71 v1 v2 v3 v4 r3.1
    else
      c218_71 v1 v2 v3 v4 μ
theorem c218_34_ok {L : Nat} (v1 : Int32) (v2 : Int32) (v3 : Int32) (v4 : Int32) (μ : Mem) (res : Mem × Int32) (h : c218_34 v1 v2 v3 v4 μ = some res) : Sx 218 34 [(0, .ref 0), (1, .int v1), (2, .int v2), (3, .int v3), (4, .int v4)] [] 0 0 (mk L μ) (mk L res.1, some (.int res.2)) := by
  unfold c218_34 at h
  refine sx_aload_n (i := 0) k218_34 rfl rfl ?_
  refine cx_getR (k := 0) k218_35 ow_218 fl_11_12 (by decide) sk_0 ft_10_0 sr_0_0 ?_
  refine cx_getI (k := 1) k218_38 ow_218 fl_11_88 (by decide) sk_1 ft_1_1 ?_
  refine sx_bipush (v := 13) k218_41 (by decide) ?_
  refine sx_iadd k218_43 ?_
  refine sx_bipush (v := 60) k218_44 (by decide) ?_
  by_cases hb1 : (60 : Int32) < ((μ.1 1 1) + (13 : Int32))
  · rw [if_pos hb1] at h
    refine sx_icmp_gt (tgt := 64) k218_46 (by decide) (fun _ => ?_) (fun q => absurd hb1 q)
    refine sx_pick (lo2 := [(0, .ref 0)]) [0] rfl ?_
    exact c218_64_ok _ _ h
  · rw [if_neg hb1] at h
    refine sx_icmp_gt (tgt := 64) k218_46 (by decide) (fun q => absurd q hb1) (fun _ => ?_)
    refine sx_iload k218_49 rfl ?_
    by_cases hb2 : v4 = 0
    · rw [if_pos hb2] at h
      refine sx_if_ne (tgt := 71) k218_51 (by decide) (fun q => absurd hb2 q) (fun _ => ?_)
      refine sx_aload_n (i := 0) k218_54 rfl rfl ?_
      refine cx_getR (k := 6) k218_55 ow_218 fl_11_57 (by decide) sk_0 ft_10_6 sr_0_6 ?_
      obtain ⟨r3, e4, h⟩ := Option.bind_eq_some_iff.mp h
      refine cx_V (sk := []) (vs := []) st_218_130 k218_58 ow_218 cl_11_242 (by decide) rfl (Nat.le_of_ble_eq_true rfl) sk_28 (ok130 _ _ e4) (sk3 := [.int r3.2]) rfl rfl ?_
      by_cases hb5 : r3.2 = 0
      · rw [if_pos hb5] at h
        refine sx_if_ne (tgt := 71) k218_61 (by decide) (fun q => absurd hb5 q) (fun _ => ?_)
        refine sx_pick (lo2 := [(0, .ref 0)]) [0] rfl ?_
        exact c218_64_ok _ _ h
      · rw [if_neg hb5] at h
        refine sx_if_ne (tgt := 71) k218_61 (by decide) (fun _ => ?_) (fun q => absurd q hb5)
        refine sx_pick (lo2 := [(0, .ref 0), (1, .int v1), (2, .int v2), (3, .int v3), (4, .int v4)]) [0, 1, 2, 3, 4] rfl ?_
        exact c218_71_ok v1 v2 v3 v4 _ _ h
    · rw [if_neg hb2] at h
      refine sx_if_ne (tgt := 71) k218_51 (by decide) (fun _ => ?_) (fun q => absurd q hb2)
      refine sx_pick (lo2 := [(0, .ref 0), (1, .int v1), (2, .int v2), (3, .int v3), (4, .int v4)]) [0, 1, 2, 3, 4] rfl ?_
      exact c218_71_ok v1 v2 v3 v4 _ _ h
/-- CraftHouse.request(IIIZ)I -/
def f218 (p1 : Int32) (p2 : Int32) (p3 : Int32) (p4 : Int32) (μ : Mem) : Option (Mem × Int32) :=
  (f219 p1 p2 p3 μ).bind fun r1 =>
  if r1.2 = 0 then
    some (r1.1, (-1 : Int32))
  else
    if p4 = 0 then
      (f129 r1.1).bind fun r5 =>
      if r5.2 = 0 then
        (f204 (-2 : Int32) r5.1).bind fun r8 =>
        some (r8.1, r8.2)
      else
        c218_34 p1 p2 p3 p4 r5.1
    else
      c218_34 p1 p2 p3 p4 r1.1
theorem ok218 {L : Nat} (p1 : Int32) (p2 : Int32) (p3 : Int32) (p4 : Int32) (μ : Mem) (res : Mem × Int32) (h : f218 p1 p2 p3 p4 μ = some res) : Mx 218 [.ref 0, .int p1, .int p2, .int p3, .int p4] (mk L μ) (mk L res.1, some (.int res.2)) := by
  refine Mx_of ml_218 (by rw [mx_218]; exact Nat.le_of_ble_eq_true rfl) ?_
  show Sx 218 0 [(0, .ref 0), (1, .int p1), (2, .int p2), (3, .int p3), (4, .int p4)] [] 0 0 (mk L μ) _
  unfold f218 at h
  refine sx_aload_n (i := 0) k218_0 rfl rfl ?_
  refine sx_iload_n (i := 1) k218_1 rfl rfl ?_
  refine sx_iload_n (i := 2) k218_2 rfl rfl ?_
  refine sx_iload_n (i := 3) k218_3 rfl rfl ?_
  obtain ⟨r1, e2, h⟩ := Option.bind_eq_some_iff.mp h
  refine cx_V (sk := []) (vs := [.int p1, .int p2, .int p3]) st_218_219 k218_4 ow_218 cl_11_228 (by decide) rfl (Nat.le_of_ble_eq_true rfl) sk_0 (ok219 p1 p2 p3 _ _ e2) (sk3 := [.int r1.2]) rfl rfl ?_
  by_cases hb3 : r1.2 = 0
  · rw [if_pos hb3] at h
    refine sx_if_ne (tgt := 12) k218_7 (by decide) (fun q => absurd hb3 q) (fun _ => ?_)
    refine sx_iconst (v := -1) k218_10 (by decide) ?_
    exact cx_reti k218_11 rt_218 h
  · rw [if_neg hb3] at h
    refine sx_if_ne (tgt := 12) k218_7 (by decide) (fun _ => ?_) (fun q => absurd q hb3)
    refine sx_iload k218_12 rfl ?_
    by_cases hb4 : p4 = 0
    · rw [if_pos hb4] at h
      refine sx_if_ne (tgt := 34) k218_14 (by decide) (fun q => absurd hb4 q) (fun _ => ?_)
      refine sx_aload_n (i := 0) k218_17 rfl rfl ?_
      refine cx_getR (k := 6) k218_18 ow_218 fl_11_57 (by decide) sk_0 ft_10_6 sr_0_6 ?_
      obtain ⟨r5, e6, h⟩ := Option.bind_eq_some_iff.mp h
      refine cx_V (sk := []) (vs := []) st_218_129 k218_21 ow_218 cl_11_239 (by decide) rfl (Nat.le_of_ble_eq_true rfl) sk_28 (ok129 _ _ e6) (sk3 := [.int r5.2]) rfl rfl ?_
      by_cases hb7 : r5.2 = 0
      · rw [if_pos hb7] at h
        refine sx_if_ne (tgt := 34) k218_24 (by decide) (fun q => absurd hb7 q) (fun _ => ?_)
        refine sx_aload_n (i := 0) k218_27 rfl rfl ?_
        refine sx_bipush (v := -2) k218_28 (by decide) ?_
        obtain ⟨r8, e9, h⟩ := Option.bind_eq_some_iff.mp h
        refine cx_V (sk := []) (vs := [.int (-2 : Int32)]) st_218_204 k218_30 ow_218 cl_11_113 (by decide) rfl (Nat.le_of_ble_eq_true rfl) sk_0 (ok204 (-2 : Int32) _ _ e9) (sk3 := [.int r8.2]) rfl rfl ?_
        exact cx_reti k218_33 rt_218 h
      · rw [if_neg hb7] at h
        refine sx_if_ne (tgt := 34) k218_24 (by decide) (fun _ => ?_) (fun q => absurd q hb7)
        refine sx_pick (lo2 := [(0, .ref 0), (1, .int p1), (2, .int p2), (3, .int p3), (4, .int p4)]) [0, 1, 2, 3, 4] rfl ?_
        exact c218_34_ok p1 p2 p3 p4 _ _ h
    · rw [if_neg hb4] at h
      refine sx_if_ne (tgt := 34) k218_14 (by decide) (fun _ => ?_) (fun q => absurd q hb4)
      refine sx_pick (lo2 := [(0, .ref 0), (1, .int p1), (2, .int p2), (3, .int p3), (4, .int p4)]) [0, 1, 2, 3, 4] rfl ?_
      exact c218_34_ok p1 p2 p3 p4 _ _ h
theorem k221_0 : decode (gb 221) 0 = .ok (.aload_n 0, 1) := by decide +kernel
theorem k221_1 : decode (gb 221) 1 = .ok (.getfield 44, 3) := by decide +kernel
theorem k221_4 : decode (gb 221) 4 = .ok (.getfield 253, 3) := by decide +kernel
theorem k221_7 : decode (gb 221) 7 = .ok (.ireturn, 1) := by decide +kernel
/-- CraftHouse.requests()I -/
def f221 (μ : Mem) : Option (Mem × Int32) :=
  some (μ, (μ.1 12 8))
theorem ok221 {L : Nat} (μ : Mem) (res : Mem × Int32) (h : f221 μ = some res) : Mx 221 [.ref 0] (mk L μ) (mk L res.1, some (.int res.2)) := by
  refine Mx_of ml_221 (by rw [mx_221]; exact Nat.le_of_ble_eq_true rfl) ?_
  show Sx 221 0 [(0, .ref 0)] [] 0 0 (mk L μ) _
  unfold f221 at h
  refine sx_aload_n (i := 0) k221_0 rfl rfl ?_
  refine cx_getR (k := 5) k221_1 ow_221 fl_11_44 (by decide) sk_0 ft_10_5 sr_0_5 ?_
  refine cx_getI (k := 8) k221_4 ow_221 fl_11_253 (by decide) sk_12 ft_2_8 ?_
  exact cx_reti k221_7 rt_221 h
theorem k222_0 : decode (gb 222) 0 = .ok (.aload_n 0, 1) := by decide +kernel
theorem k222_1 : decode (gb 222) 1 = .ok (.getfield 44, 3) := by decide +kernel
theorem k222_4 : decode (gb 222) 4 = .ok (.iload_n 1, 1) := by decide +kernel
theorem k222_5 : decode (gb 222) 5 = .ok (.invokevirtual 256, 3) := by decide +kernel
theorem k222_8 : decode (gb 222) 8 = .ok (.ifCond .ne 5, 3) := by decide +kernel
theorem k222_11 : decode (gb 222) 11 = .ok (.iconst (-1), 1) := by decide +kernel
theorem k222_12 : decode (gb 222) 12 = .ok (.ireturn, 1) := by decide +kernel
theorem k222_13 : decode (gb 222) 13 = .ok (.iload_n 2, 1) := by decide +kernel
theorem k222_14 : decode (gb 222) 14 = .ok (.tableswitch 73 0 3 #[30, 39, 48, 60], 30) := by decide +kernel
theorem k222_44 : decode (gb 222) 44 = .ok (.aload_n 0, 1) := by decide +kernel
theorem k222_45 : decode (gb 222) 45 = .ok (.getfield 44, 3) := by decide +kernel
theorem k222_48 : decode (gb 222) 48 = .ok (.iload_n 1, 1) := by decide +kernel
theorem k222_49 : decode (gb 222) 49 = .ok (.invokevirtual 259, 3) := by decide +kernel
theorem k222_52 : decode (gb 222) 52 = .ok (.ireturn, 1) := by decide +kernel
theorem k222_53 : decode (gb 222) 53 = .ok (.aload_n 0, 1) := by decide +kernel
theorem k222_54 : decode (gb 222) 54 = .ok (.getfield 44, 3) := by decide +kernel
theorem k222_57 : decode (gb 222) 57 = .ok (.iload_n 1, 1) := by decide +kernel
theorem k222_58 : decode (gb 222) 58 = .ok (.invokevirtual 262, 3) := by decide +kernel
theorem k222_61 : decode (gb 222) 61 = .ok (.ireturn, 1) := by decide +kernel
theorem k222_62 : decode (gb 222) 62 = .ok (.aload_n 0, 1) := by decide +kernel
theorem k222_63 : decode (gb 222) 63 = .ok (.getfield 44, 3) := by decide +kernel
theorem k222_66 : decode (gb 222) 66 = .ok (.iload_n 1, 1) := by decide +kernel
theorem k222_67 : decode (gb 222) 67 = .ok (.invokevirtual 265, 3) := by decide +kernel
theorem k222_70 : decode (gb 222) 70 = .ok (.bipush 8, 2) := by decide +kernel
theorem k222_72 : decode (gb 222) 72 = .ok (.ishr, 1) := by decide +kernel
theorem k222_73 : decode (gb 222) 73 = .ok (.ireturn, 1) := by decide +kernel
theorem k222_74 : decode (gb 222) 74 = .ok (.aload_n 0, 1) := by decide +kernel
theorem k222_75 : decode (gb 222) 75 = .ok (.getfield 44, 3) := by decide +kernel
theorem k222_78 : decode (gb 222) 78 = .ok (.iload_n 1, 1) := by decide +kernel
theorem k222_79 : decode (gb 222) 79 = .ok (.invokevirtual 265, 3) := by decide +kernel
theorem k222_82 : decode (gb 222) 82 = .ok (.sipush 255, 3) := by decide +kernel
theorem k222_85 : decode (gb 222) 85 = .ok (.iand, 1) := by decide +kernel
theorem k222_86 : decode (gb 222) 86 = .ok (.ireturn, 1) := by decide +kernel
theorem k222_87 : decode (gb 222) 87 = .ok (.iconst (-1), 1) := by decide +kernel
theorem k222_88 : decode (gb 222) 88 = .ok (.ireturn, 1) := by decide +kernel
/-- CraftHouse.became(II)I -/
def f222 (p1 : Int32) (p2 : Int32) (μ : Mem) : Option (Mem × Int32) :=
  (f80 p1 μ).bind fun r1 =>
  if r1.2 = 0 then
    some (r1.1, (-1 : Int32))
  else
    if p2 = (0 : Int32) then
      (f81 p1 r1.1).bind fun r4 =>
      some (r4.1, r4.2)
    else if p2 = (1 : Int32) then
      (f82 p1 r1.1).bind fun r7 =>
      some (r7.1, r7.2)
    else if p2 = (2 : Int32) then
      (f83 p1 r1.1).bind fun r10 =>
      some (r10.1, (jshr r10.2 (8 : Int32)))
    else if p2 = (3 : Int32) then
      (f83 p1 r1.1).bind fun r13 =>
      some (r13.1, (r13.2 &&& (255 : Int32)))
    else 
      some (r1.1, (-1 : Int32))
theorem ok222 {L : Nat} (p1 : Int32) (p2 : Int32) (μ : Mem) (res : Mem × Int32) (h : f222 p1 p2 μ = some res) : Mx 222 [.ref 0, .int p1, .int p2] (mk L μ) (mk L res.1, some (.int res.2)) := by
  refine Mx_of ml_222 (by rw [mx_222]; exact Nat.le_of_ble_eq_true rfl) ?_
  show Sx 222 0 [(0, .ref 0), (1, .int p1), (2, .int p2)] [] 0 0 (mk L μ) _
  unfold f222 at h
  refine sx_aload_n (i := 0) k222_0 rfl rfl ?_
  refine cx_getR (k := 5) k222_1 ow_222 fl_11_44 (by decide) sk_0 ft_10_5 sr_0_5 ?_
  refine sx_iload_n (i := 1) k222_4 rfl rfl ?_
  obtain ⟨r1, e2, h⟩ := Option.bind_eq_some_iff.mp h
  refine cx_V (sk := []) (vs := [.int p1]) st_222_80 k222_5 ow_222 cl_11_256 (by decide) rfl (Nat.le_of_ble_eq_true rfl) sk_12 (ok80 p1 _ _ e2) (sk3 := [.int r1.2]) rfl rfl ?_
  by_cases hb3 : r1.2 = 0
  · rw [if_pos hb3] at h
    refine sx_if_ne (tgt := 13) k222_8 (by decide) (fun q => absurd hb3 q) (fun _ => ?_)
    refine sx_iconst (v := -1) k222_11 (by decide) ?_
    exact cx_reti k222_12 rt_222 h
  · rw [if_neg hb3] at h
    refine sx_if_ne (tgt := 13) k222_8 (by decide) (fun _ => ?_) (fun q => absurd q hb3)
    refine sx_iload_n (i := 2) k222_13 rfl rfl ?_
    by_cases hb6 : p2 = (0 : Int32)
    · rw [if_pos hb6] at h
      refine sx_tableIn (off := 30) (tgt := 44) k222_14 (by rw [hb6]; decide) (by rw [hb6]; decide) (by rw [hb6]; rfl) (by decide) ?_
      refine sx_aload_n (i := 0) k222_44 rfl rfl ?_
      refine cx_getR (k := 5) k222_45 ow_222 fl_11_44 (by decide) sk_0 ft_10_5 sr_0_5 ?_
      refine sx_iload_n (i := 1) k222_48 rfl rfl ?_
      obtain ⟨r4, e5, h⟩ := Option.bind_eq_some_iff.mp h
      refine cx_V (sk := []) (vs := [.int p1]) st_222_81 k222_49 ow_222 cl_11_259 (by decide) rfl (Nat.le_of_ble_eq_true rfl) sk_12 (ok81 p1 _ _ e5) (sk3 := [.int r4.2]) rfl rfl ?_
      exact cx_reti k222_52 rt_222 h
    · rw [if_neg hb6] at h
      by_cases hb9 : p2 = (1 : Int32)
      · rw [if_pos hb9] at h
        refine sx_tableIn (off := 39) (tgt := 53) k222_14 (by rw [hb9]; decide) (by rw [hb9]; decide) (by rw [hb9]; rfl) (by decide) ?_
        refine sx_aload_n (i := 0) k222_53 rfl rfl ?_
        refine cx_getR (k := 5) k222_54 ow_222 fl_11_44 (by decide) sk_0 ft_10_5 sr_0_5 ?_
        refine sx_iload_n (i := 1) k222_57 rfl rfl ?_
        obtain ⟨r7, e8, h⟩ := Option.bind_eq_some_iff.mp h
        refine cx_V (sk := []) (vs := [.int p1]) st_222_82 k222_58 ow_222 cl_11_262 (by decide) rfl (Nat.le_of_ble_eq_true rfl) sk_12 (ok82 p1 _ _ e8) (sk3 := [.int r7.2]) rfl rfl ?_
        exact cx_reti k222_61 rt_222 h
      · rw [if_neg hb9] at h
        by_cases hb12 : p2 = (2 : Int32)
        · rw [if_pos hb12] at h
          refine sx_tableIn (off := 48) (tgt := 62) k222_14 (by rw [hb12]; decide) (by rw [hb12]; decide) (by rw [hb12]; rfl) (by decide) ?_
          refine sx_aload_n (i := 0) k222_62 rfl rfl ?_
          refine cx_getR (k := 5) k222_63 ow_222 fl_11_44 (by decide) sk_0 ft_10_5 sr_0_5 ?_
          refine sx_iload_n (i := 1) k222_66 rfl rfl ?_
          obtain ⟨r10, e11, h⟩ := Option.bind_eq_some_iff.mp h
          refine cx_V (sk := []) (vs := [.int p1]) st_222_83 k222_67 ow_222 cl_11_265 (by decide) rfl (Nat.le_of_ble_eq_true rfl) sk_12 (ok83 p1 _ _ e11) (sk3 := [.int r10.2]) rfl rfl ?_
          refine sx_bipush (v := 8) k222_70 (by decide) ?_
          refine sx_ishr k222_72 ?_
          exact cx_reti k222_73 rt_222 h
        · rw [if_neg hb12] at h
          by_cases hb15 : p2 = (3 : Int32)
          · rw [if_pos hb15] at h
            refine sx_tableIn (off := 60) (tgt := 74) k222_14 (by rw [hb15]; decide) (by rw [hb15]; decide) (by rw [hb15]; rfl) (by decide) ?_
            refine sx_aload_n (i := 0) k222_74 rfl rfl ?_
            refine cx_getR (k := 5) k222_75 ow_222 fl_11_44 (by decide) sk_0 ft_10_5 sr_0_5 ?_
            refine sx_iload_n (i := 1) k222_78 rfl rfl ?_
            obtain ⟨r13, e14, h⟩ := Option.bind_eq_some_iff.mp h
            refine cx_V (sk := []) (vs := [.int p1]) st_222_83 k222_79 ow_222 cl_11_265 (by decide) rfl (Nat.le_of_ble_eq_true rfl) sk_12 (ok83 p1 _ _ e14) (sk3 := [.int r13.2]) rfl rfl ?_
            refine sx_sipush (v := 255) k222_82 (by decide) ?_
            refine sx_iand k222_85 ?_
            exact cx_reti k222_86 rt_222 h
          · rw [if_neg hb15] at h
            refine sx_tableOut (tgt := 87) k222_14 (sw_out (n := 4) (fun j hj => ?_)) (by decide) ?_
            · intro hj2
              exact sw_no [(0 : Int32), (1 : Int32), (2 : Int32), (3 : Int32)] (by decide) hj hj2 ⟨hb6, hb9, hb12, hb15, trivial⟩
            ·
              refine sx_iconst (v := -1) k222_87 (by decide) ?_
              exact cx_reti k222_88 rt_222 h
theorem k224_0 : decode (gb 224) 0 = .ok (.iload_n 1, 1) := by decide +kernel
theorem k224_1 : decode (gb 224) 1 = .ok (.tableswitch 162 0 11 #[63, 63, 63, 65, 63, 63, 65, 71, 88, 106, 123, 138], 63) := by decide +kernel
theorem k224_64 : decode (gb 224) 64 = .ok (.iconst 1, 1) := by decide +kernel
theorem k224_65 : decode (gb 224) 65 = .ok (.ireturn, 1) := by decide +kernel
theorem k224_66 : decode (gb 224) 66 = .ok (.aload_n 0, 1) := by decide +kernel
theorem k224_67 : decode (gb 224) 67 = .ok (.iload_n 2, 1) := by decide +kernel
theorem k224_68 : decode (gb 224) 68 = .ok (.invokevirtual 250, 3) := by decide +kernel
theorem k224_71 : decode (gb 224) 71 = .ok (.ireturn, 1) := by decide +kernel
theorem k224_72 : decode (gb 224) 72 = .ok (.iload_n 2, 1) := by decide +kernel
theorem k224_73 : decode (gb 224) 73 = .ok (.iconst 1, 1) := by decide +kernel
theorem k224_74 : decode (gb 224) 74 = .ok (.if_icmp .lt 13, 3) := by decide +kernel
theorem k224_77 : decode (gb 224) 77 = .ok (.iload_n 2, 1) := by decide +kernel
theorem k224_78 : decode (gb 224) 78 = .ok (.bipush 32, 2) := by decide +kernel
theorem k224_80 : decode (gb 224) 80 = .ok (.if_icmp .gt 7, 3) := by decide +kernel
theorem k224_83 : decode (gb 224) 83 = .ok (.iconst 1, 1) := by decide +kernel
theorem k224_84 : decode (gb 224) 84 = .ok (.goto 4, 3) := by decide +kernel
theorem k224_87 : decode (gb 224) 87 = .ok (.iconst 0, 1) := by decide +kernel
theorem k224_88 : decode (gb 224) 88 = .ok (.ireturn, 1) := by decide +kernel
theorem k224_89 : decode (gb 224) 89 = .ok (.iload_n 2, 1) := by decide +kernel
theorem k224_90 : decode (gb 224) 90 = .ok (.iconst 1, 1) := by decide +kernel
theorem k224_91 : decode (gb 224) 91 = .ok (.if_icmp .lt 14, 3) := by decide +kernel
theorem k224_94 : decode (gb 224) 94 = .ok (.iload_n 2, 1) := by decide +kernel
theorem k224_95 : decode (gb 224) 95 = .ok (.sipush 1000, 3) := by decide +kernel
theorem k224_98 : decode (gb 224) 98 = .ok (.if_icmp .gt 7, 3) := by decide +kernel
theorem k224_101 : decode (gb 224) 101 = .ok (.iconst 1, 1) := by decide +kernel
theorem k224_102 : decode (gb 224) 102 = .ok (.goto 4, 3) := by decide +kernel
theorem k224_105 : decode (gb 224) 105 = .ok (.iconst 0, 1) := by decide +kernel
theorem k224_106 : decode (gb 224) 106 = .ok (.ireturn, 1) := by decide +kernel
theorem k224_107 : decode (gb 224) 107 = .ok (.iload_n 2, 1) := by decide +kernel
theorem k224_108 : decode (gb 224) 108 = .ok (.iconst 1, 1) := by decide +kernel
theorem k224_109 : decode (gb 224) 109 = .ok (.if_icmp .lt 13, 3) := by decide +kernel
theorem k224_112 : decode (gb 224) 112 = .ok (.iload_n 2, 1) := by decide +kernel
theorem k224_113 : decode (gb 224) 113 = .ok (.bipush 15, 2) := by decide +kernel
theorem k224_115 : decode (gb 224) 115 = .ok (.if_icmp .gt 7, 3) := by decide +kernel
theorem k224_118 : decode (gb 224) 118 = .ok (.iconst 1, 1) := by decide +kernel
theorem k224_119 : decode (gb 224) 119 = .ok (.goto 4, 3) := by decide +kernel
theorem k224_122 : decode (gb 224) 122 = .ok (.iconst 0, 1) := by decide +kernel
theorem k224_123 : decode (gb 224) 123 = .ok (.ireturn, 1) := by decide +kernel
theorem k224_124 : decode (gb 224) 124 = .ok (.iload_n 2, 1) := by decide +kernel
theorem k224_125 : decode (gb 224) 125 = .ok (.ifCond .eq 8, 3) := by decide +kernel
theorem k224_128 : decode (gb 224) 128 = .ok (.iload_n 2, 1) := by decide +kernel
theorem k224_129 : decode (gb 224) 129 = .ok (.iconst 1, 1) := by decide +kernel
theorem k224_130 : decode (gb 224) 130 = .ok (.if_icmp .ne 7, 3) := by decide +kernel
theorem k224_133 : decode (gb 224) 133 = .ok (.iconst 1, 1) := by decide +kernel
theorem k224_134 : decode (gb 224) 134 = .ok (.goto 4, 3) := by decide +kernel
theorem k224_137 : decode (gb 224) 137 = .ok (.iconst 0, 1) := by decide +kernel
theorem k224_138 : decode (gb 224) 138 = .ok (.ireturn, 1) := by decide +kernel
theorem k224_139 : decode (gb 224) 139 = .ok (.iload_n 2, 1) := by decide +kernel
theorem k224_140 : decode (gb 224) 140 = .ok (.iconst 2, 1) := by decide +kernel
theorem k224_141 : decode (gb 224) 141 = .ok (.if_icmp .lt 20, 3) := by decide +kernel
theorem k224_144 : decode (gb 224) 144 = .ok (.iload_n 2, 1) := by decide +kernel
theorem k224_145 : decode (gb 224) 145 = .ok (.sipush 254, 3) := by decide +kernel
theorem k224_148 : decode (gb 224) 148 = .ok (.if_icmp .gt 13, 3) := by decide +kernel
theorem k224_151 : decode (gb 224) 151 = .ok (.iload_n 2, 1) := by decide +kernel
theorem k224_152 : decode (gb 224) 152 = .ok (.iconst 1, 1) := by decide +kernel
theorem k224_153 : decode (gb 224) 153 = .ok (.iand, 1) := by decide +kernel
theorem k224_154 : decode (gb 224) 154 = .ok (.ifCond .ne 7, 3) := by decide +kernel
theorem k224_157 : decode (gb 224) 157 = .ok (.iconst 1, 1) := by decide +kernel
theorem k224_158 : decode (gb 224) 158 = .ok (.goto 4, 3) := by decide +kernel
theorem k224_161 : decode (gb 224) 161 = .ok (.iconst 0, 1) := by decide +kernel
theorem k224_162 : decode (gb 224) 162 = .ok (.ireturn, 1) := by decide +kernel
theorem k224_163 : decode (gb 224) 163 = .ok (.iconst 0, 1) := by decide +kernel
theorem k224_164 : decode (gb 224) 164 = .ok (.ireturn, 1) := by decide +kernel
def c224_133 (μ : Mem) : Option (Mem × Int32) :=
  rtZ (1 : Int32) μ
theorem c224_133_ok {L : Nat} (μ : Mem) (res : Mem × Int32) (h : c224_133 μ = some res) : Sx 224 133 [] [] 0 0 (mk L μ) (mk L res.1, some (.int res.2)) := by
  unfold c224_133 at h
  refine sx_iconst (v := 1) k224_133 (by decide) ?_
  refine sx_goto (tgt := 138) k224_134 (by decide) ?_
  exact cx_retz k224_138 rt_224 h
/-- CraftHouse.mayDirect(II)Z -/
def f224 (p1 : Int32) (p2 : Int32) (μ : Mem) : Option (Mem × Int32) :=
  if p1 = (0 : Int32) then
    rtZ (1 : Int32) μ
  else if p1 = (1 : Int32) then
    rtZ (1 : Int32) μ
  else if p1 = (2 : Int32) then
    rtZ (1 : Int32) μ
  else if p1 = (3 : Int32) then
    (f220 p2 μ).bind fun r4 =>
    rtZ r4.2 r4.1
  else if p1 = (4 : Int32) then
    rtZ (1 : Int32) μ
  else if p1 = (5 : Int32) then
    rtZ (1 : Int32) μ
  else if p1 = (6 : Int32) then
    (f220 p2 μ).bind fun r9 =>
    rtZ r9.2 r9.1
  else if p1 = (7 : Int32) then
    if p2 < (1 : Int32) then
      rtZ (0 : Int32) μ
    else
      if (32 : Int32) < p2 then
        rtZ (0 : Int32) μ
      else
        rtZ (1 : Int32) μ
  else if p1 = (8 : Int32) then
    if p2 < (1 : Int32) then
      rtZ (0 : Int32) μ
    else
      if (1000 : Int32) < p2 then
        rtZ (0 : Int32) μ
      else
        rtZ (1 : Int32) μ
  else if p1 = (9 : Int32) then
    if p2 < (1 : Int32) then
      rtZ (0 : Int32) μ
    else
      if (15 : Int32) < p2 then
        rtZ (0 : Int32) μ
      else
        rtZ (1 : Int32) μ
  else if p1 = (10 : Int32) then
    if p2 = 0 then
      c224_133 μ
    else
      if p2 = (1 : Int32) then
        c224_133 μ
      else
        rtZ (0 : Int32) μ
  else if p1 = (11 : Int32) then
    if p2 < (2 : Int32) then
      rtZ (0 : Int32) μ
    else
      if (254 : Int32) < p2 then
        rtZ (0 : Int32) μ
      else
        if (p2 &&& (1 : Int32)) = 0 then
          rtZ (1 : Int32) μ
        else
          rtZ (0 : Int32) μ
  else 
    rtZ (0 : Int32) μ
theorem ok224 {L : Nat} (p1 : Int32) (p2 : Int32) (μ : Mem) (res : Mem × Int32) (h : f224 p1 p2 μ = some res) : Mx 224 [.ref 0, .int p1, .int p2] (mk L μ) (mk L res.1, some (.int res.2)) := by
  refine Mx_of ml_224 (by rw [mx_224]; exact Nat.le_of_ble_eq_true rfl) ?_
  show Sx 224 0 [(0, .ref 0), (1, .int p1), (2, .int p2)] [] 0 0 (mk L μ) _
  unfold f224 at h
  refine sx_iload_n (i := 1) k224_0 rfl rfl ?_
  by_cases hb1 : p1 = (0 : Int32)
  · rw [if_pos hb1] at h
    refine sx_tableIn (off := 63) (tgt := 64) k224_1 (by rw [hb1]; decide) (by rw [hb1]; decide) (by rw [hb1]; rfl) (by decide) ?_
    refine sx_iconst (v := 1) k224_64 (by decide) ?_
    exact cx_retz k224_65 rt_224 h
  · rw [if_neg hb1] at h
    by_cases hb2 : p1 = (1 : Int32)
    · rw [if_pos hb2] at h
      refine sx_tableIn (off := 63) (tgt := 64) k224_1 (by rw [hb2]; decide) (by rw [hb2]; decide) (by rw [hb2]; rfl) (by decide) ?_
      refine sx_iconst (v := 1) k224_64 (by decide) ?_
      exact cx_retz k224_65 rt_224 h
    · rw [if_neg hb2] at h
      by_cases hb3 : p1 = (2 : Int32)
      · rw [if_pos hb3] at h
        refine sx_tableIn (off := 63) (tgt := 64) k224_1 (by rw [hb3]; decide) (by rw [hb3]; decide) (by rw [hb3]; rfl) (by decide) ?_
        refine sx_iconst (v := 1) k224_64 (by decide) ?_
        exact cx_retz k224_65 rt_224 h
      · rw [if_neg hb3] at h
        by_cases hb6 : p1 = (3 : Int32)
        · rw [if_pos hb6] at h
          refine sx_tableIn (off := 65) (tgt := 66) k224_1 (by rw [hb6]; decide) (by rw [hb6]; decide) (by rw [hb6]; rfl) (by decide) ?_
          refine sx_aload_n (i := 0) k224_66 rfl rfl ?_
          refine sx_iload_n (i := 2) k224_67 rfl rfl ?_
          obtain ⟨r4, e5, h⟩ := Option.bind_eq_some_iff.mp h
          refine cx_V (sk := []) (vs := [.int p2]) st_224_220 k224_68 ow_224 cl_11_250 (by decide) rfl (Nat.le_of_ble_eq_true rfl) sk_0 (ok220 p2 _ _ e5) (sk3 := [.int r4.2]) rfl rfl ?_
          exact cx_retz k224_71 rt_224 h
        · rw [if_neg hb6] at h
          by_cases hb7 : p1 = (4 : Int32)
          · rw [if_pos hb7] at h
            refine sx_tableIn (off := 63) (tgt := 64) k224_1 (by rw [hb7]; decide) (by rw [hb7]; decide) (by rw [hb7]; rfl) (by decide) ?_
            refine sx_iconst (v := 1) k224_64 (by decide) ?_
            exact cx_retz k224_65 rt_224 h
          · rw [if_neg hb7] at h
            by_cases hb8 : p1 = (5 : Int32)
            · rw [if_pos hb8] at h
              refine sx_tableIn (off := 63) (tgt := 64) k224_1 (by rw [hb8]; decide) (by rw [hb8]; decide) (by rw [hb8]; rfl) (by decide) ?_
              refine sx_iconst (v := 1) k224_64 (by decide) ?_
              exact cx_retz k224_65 rt_224 h
            · rw [if_neg hb8] at h
              by_cases hb11 : p1 = (6 : Int32)
              · rw [if_pos hb11] at h
                refine sx_tableIn (off := 65) (tgt := 66) k224_1 (by rw [hb11]; decide) (by rw [hb11]; decide) (by rw [hb11]; rfl) (by decide) ?_
                refine sx_aload_n (i := 0) k224_66 rfl rfl ?_
                refine sx_iload_n (i := 2) k224_67 rfl rfl ?_
                obtain ⟨r9, e10, h⟩ := Option.bind_eq_some_iff.mp h
                refine cx_V (sk := []) (vs := [.int p2]) st_224_220 k224_68 ow_224 cl_11_250 (by decide) rfl (Nat.le_of_ble_eq_true rfl) sk_0 (ok220 p2 _ _ e10) (sk3 := [.int r9.2]) rfl rfl ?_
                exact cx_retz k224_71 rt_224 h
              · rw [if_neg hb11] at h
                by_cases hb14 : p1 = (7 : Int32)
                · rw [if_pos hb14] at h
                  refine sx_tableIn (off := 71) (tgt := 72) k224_1 (by rw [hb14]; decide) (by rw [hb14]; decide) (by rw [hb14]; rfl) (by decide) ?_
                  refine sx_iload_n (i := 2) k224_72 rfl rfl ?_
                  refine sx_iconst (v := 1) k224_73 (by decide) ?_
                  by_cases hb12 : p2 < (1 : Int32)
                  · rw [if_pos hb12] at h
                    refine sx_icmp_lt (tgt := 87) k224_74 (by decide) (fun _ => ?_) (fun q => absurd hb12 q)
                    refine sx_iconst (v := 0) k224_87 (by decide) ?_
                    exact cx_retz k224_88 rt_224 h
                  · rw [if_neg hb12] at h
                    refine sx_icmp_lt (tgt := 87) k224_74 (by decide) (fun q => absurd q hb12) (fun _ => ?_)
                    refine sx_iload_n (i := 2) k224_77 rfl rfl ?_
                    refine sx_bipush (v := 32) k224_78 (by decide) ?_
                    by_cases hb13 : (32 : Int32) < p2
                    · rw [if_pos hb13] at h
                      refine sx_icmp_gt (tgt := 87) k224_80 (by decide) (fun _ => ?_) (fun q => absurd hb13 q)
                      refine sx_iconst (v := 0) k224_87 (by decide) ?_
                      exact cx_retz k224_88 rt_224 h
                    · rw [if_neg hb13] at h
                      refine sx_icmp_gt (tgt := 87) k224_80 (by decide) (fun q => absurd q hb13) (fun _ => ?_)
                      refine sx_iconst (v := 1) k224_83 (by decide) ?_
                      refine sx_goto (tgt := 88) k224_84 (by decide) ?_
                      exact cx_retz k224_88 rt_224 h
                · rw [if_neg hb14] at h
                  by_cases hb17 : p1 = (8 : Int32)
                  · rw [if_pos hb17] at h
                    refine sx_tableIn (off := 88) (tgt := 89) k224_1 (by rw [hb17]; decide) (by rw [hb17]; decide) (by rw [hb17]; rfl) (by decide) ?_
                    refine sx_iload_n (i := 2) k224_89 rfl rfl ?_
                    refine sx_iconst (v := 1) k224_90 (by decide) ?_
                    by_cases hb15 : p2 < (1 : Int32)
                    · rw [if_pos hb15] at h
                      refine sx_icmp_lt (tgt := 105) k224_91 (by decide) (fun _ => ?_) (fun q => absurd hb15 q)
                      refine sx_iconst (v := 0) k224_105 (by decide) ?_
                      exact cx_retz k224_106 rt_224 h
                    · rw [if_neg hb15] at h
                      refine sx_icmp_lt (tgt := 105) k224_91 (by decide) (fun q => absurd q hb15) (fun _ => ?_)
                      refine sx_iload_n (i := 2) k224_94 rfl rfl ?_
                      refine sx_sipush (v := 1000) k224_95 (by decide) ?_
                      by_cases hb16 : (1000 : Int32) < p2
                      · rw [if_pos hb16] at h
                        refine sx_icmp_gt (tgt := 105) k224_98 (by decide) (fun _ => ?_) (fun q => absurd hb16 q)
                        refine sx_iconst (v := 0) k224_105 (by decide) ?_
                        exact cx_retz k224_106 rt_224 h
                      · rw [if_neg hb16] at h
                        refine sx_icmp_gt (tgt := 105) k224_98 (by decide) (fun q => absurd q hb16) (fun _ => ?_)
                        refine sx_iconst (v := 1) k224_101 (by decide) ?_
                        refine sx_goto (tgt := 106) k224_102 (by decide) ?_
                        exact cx_retz k224_106 rt_224 h
                  · rw [if_neg hb17] at h
                    by_cases hb20 : p1 = (9 : Int32)
                    · rw [if_pos hb20] at h
                      refine sx_tableIn (off := 106) (tgt := 107) k224_1 (by rw [hb20]; decide) (by rw [hb20]; decide) (by rw [hb20]; rfl) (by decide) ?_
                      refine sx_iload_n (i := 2) k224_107 rfl rfl ?_
                      refine sx_iconst (v := 1) k224_108 (by decide) ?_
                      by_cases hb18 : p2 < (1 : Int32)
                      · rw [if_pos hb18] at h
                        refine sx_icmp_lt (tgt := 122) k224_109 (by decide) (fun _ => ?_) (fun q => absurd hb18 q)
                        refine sx_iconst (v := 0) k224_122 (by decide) ?_
                        exact cx_retz k224_123 rt_224 h
                      · rw [if_neg hb18] at h
                        refine sx_icmp_lt (tgt := 122) k224_109 (by decide) (fun q => absurd q hb18) (fun _ => ?_)
                        refine sx_iload_n (i := 2) k224_112 rfl rfl ?_
                        refine sx_bipush (v := 15) k224_113 (by decide) ?_
                        by_cases hb19 : (15 : Int32) < p2
                        · rw [if_pos hb19] at h
                          refine sx_icmp_gt (tgt := 122) k224_115 (by decide) (fun _ => ?_) (fun q => absurd hb19 q)
                          refine sx_iconst (v := 0) k224_122 (by decide) ?_
                          exact cx_retz k224_123 rt_224 h
                        · rw [if_neg hb19] at h
                          refine sx_icmp_gt (tgt := 122) k224_115 (by decide) (fun q => absurd q hb19) (fun _ => ?_)
                          refine sx_iconst (v := 1) k224_118 (by decide) ?_
                          refine sx_goto (tgt := 123) k224_119 (by decide) ?_
                          exact cx_retz k224_123 rt_224 h
                    · rw [if_neg hb20] at h
                      by_cases hb23 : p1 = (10 : Int32)
                      · rw [if_pos hb23] at h
                        refine sx_tableIn (off := 123) (tgt := 124) k224_1 (by rw [hb23]; decide) (by rw [hb23]; decide) (by rw [hb23]; rfl) (by decide) ?_
                        refine sx_iload_n (i := 2) k224_124 rfl rfl ?_
                        by_cases hb21 : p2 = 0
                        · rw [if_pos hb21] at h
                          refine sx_if_eq (tgt := 133) k224_125 (by decide) (fun _ => ?_) (fun q => absurd hb21 q)
                          refine sx_pick (lo2 := []) [] rfl ?_
                          exact c224_133_ok _ _ h
                        · rw [if_neg hb21] at h
                          refine sx_if_eq (tgt := 133) k224_125 (by decide) (fun q => absurd q hb21) (fun _ => ?_)
                          refine sx_iload_n (i := 2) k224_128 rfl rfl ?_
                          refine sx_iconst (v := 1) k224_129 (by decide) ?_
                          by_cases hb22 : p2 = (1 : Int32)
                          · rw [if_pos hb22] at h
                            refine sx_icmp_ne (tgt := 137) k224_130 (by decide) (fun q => absurd hb22 q) (fun _ => ?_)
                            refine sx_pick (lo2 := []) [] rfl ?_
                            exact c224_133_ok _ _ h
                          · rw [if_neg hb22] at h
                            refine sx_icmp_ne (tgt := 137) k224_130 (by decide) (fun _ => ?_) (fun q => absurd q hb22)
                            refine sx_iconst (v := 0) k224_137 (by decide) ?_
                            exact cx_retz k224_138 rt_224 h
                      · rw [if_neg hb23] at h
                        by_cases hb27 : p1 = (11 : Int32)
                        · rw [if_pos hb27] at h
                          refine sx_tableIn (off := 138) (tgt := 139) k224_1 (by rw [hb27]; decide) (by rw [hb27]; decide) (by rw [hb27]; rfl) (by decide) ?_
                          refine sx_iload_n (i := 2) k224_139 rfl rfl ?_
                          refine sx_iconst (v := 2) k224_140 (by decide) ?_
                          by_cases hb24 : p2 < (2 : Int32)
                          · rw [if_pos hb24] at h
                            refine sx_icmp_lt (tgt := 161) k224_141 (by decide) (fun _ => ?_) (fun q => absurd hb24 q)
                            refine sx_iconst (v := 0) k224_161 (by decide) ?_
                            exact cx_retz k224_162 rt_224 h
                          · rw [if_neg hb24] at h
                            refine sx_icmp_lt (tgt := 161) k224_141 (by decide) (fun q => absurd q hb24) (fun _ => ?_)
                            refine sx_iload_n (i := 2) k224_144 rfl rfl ?_
                            refine sx_sipush (v := 254) k224_145 (by decide) ?_
                            by_cases hb25 : (254 : Int32) < p2
                            · rw [if_pos hb25] at h
                              refine sx_icmp_gt (tgt := 161) k224_148 (by decide) (fun _ => ?_) (fun q => absurd hb25 q)
                              refine sx_iconst (v := 0) k224_161 (by decide) ?_
                              exact cx_retz k224_162 rt_224 h
                            · rw [if_neg hb25] at h
                              refine sx_icmp_gt (tgt := 161) k224_148 (by decide) (fun q => absurd q hb25) (fun _ => ?_)
                              refine sx_iload_n (i := 2) k224_151 rfl rfl ?_
                              refine sx_iconst (v := 1) k224_152 (by decide) ?_
                              refine sx_iand k224_153 ?_
                              by_cases hb26 : (p2 &&& (1 : Int32)) = 0
                              · rw [if_pos hb26] at h
                                refine sx_if_ne (tgt := 161) k224_154 (by decide) (fun q => absurd hb26 q) (fun _ => ?_)
                                refine sx_iconst (v := 1) k224_157 (by decide) ?_
                                refine sx_goto (tgt := 162) k224_158 (by decide) ?_
                                exact cx_retz k224_162 rt_224 h
                              · rw [if_neg hb26] at h
                                refine sx_if_ne (tgt := 161) k224_154 (by decide) (fun _ => ?_) (fun q => absurd q hb26)
                                refine sx_iconst (v := 0) k224_161 (by decide) ?_
                                exact cx_retz k224_162 rt_224 h
                        · rw [if_neg hb27] at h
                          refine sx_tableOut (tgt := 163) k224_1 (sw_out (n := 12) (fun j hj => ?_)) (by decide) ?_
                          · intro hj2
                            exact sw_no [(0 : Int32), (1 : Int32), (2 : Int32), (3 : Int32), (4 : Int32), (5 : Int32), (6 : Int32), (7 : Int32), (8 : Int32), (9 : Int32), (10 : Int32), (11 : Int32)] (by decide) hj hj2 ⟨hb1, hb2, hb3, hb6, hb7, hb8, hb11, hb14, hb17, hb20, hb23, hb27, trivial⟩
                          ·
                            refine sx_iconst (v := 0) k224_163 (by decide) ?_
                            exact cx_retz k224_164 rt_224 h
theorem k223_0 : decode (gb 223) 0 = .ok (.aload_n 0, 1) := by decide +kernel
theorem k223_1 : decode (gb 223) 1 = .ok (.iload_n 1, 1) := by decide +kernel
theorem k223_2 : decode (gb 223) 2 = .ok (.iload_n 2, 1) := by decide +kernel
theorem k223_3 : decode (gb 223) 3 = .ok (.invokevirtual 268, 3) := by decide +kernel
theorem k223_6 : decode (gb 223) 6 = .ok (.ifCond .ne 5, 3) := by decide +kernel
theorem k223_9 : decode (gb 223) 9 = .ok (.iconst (-1), 1) := by decide +kernel
theorem k223_10 : decode (gb 223) 10 = .ok (.ireturn, 1) := by decide +kernel
theorem k223_11 : decode (gb 223) 11 = .ok (.iload_n 1, 1) := by decide +kernel
theorem k223_12 : decode (gb 223) 12 = .ok (.bipush 11, 2) := by decide +kernel
theorem k223_14 : decode (gb 223) 14 = .ok (.if_icmp .ne 13, 3) := by decide +kernel
theorem k223_17 : decode (gb 223) 17 = .ok (.aload_n 0, 1) := by decide +kernel
theorem k223_18 : decode (gb 223) 18 = .ok (.getfield 37, 3) := by decide +kernel
theorem k223_21 : decode (gb 223) 21 = .ok (.iload_n 2, 1) := by decide +kernel
theorem k223_22 : decode (gb 223) 22 = .ok (.putfield 271, 3) := by decide +kernel
theorem k223_25 : decode (gb 223) 25 = .ok (.iconst 1, 1) := by decide +kernel
theorem k223_26 : decode (gb 223) 26 = .ok (.ireturn, 1) := by decide +kernel
theorem k223_27 : decode (gb 223) 27 = .ok (.iload_n 1, 1) := by decide +kernel
theorem k223_28 : decode (gb 223) 28 = .ok (.bipush 7, 2) := by decide +kernel
theorem k223_30 : decode (gb 223) 30 = .ok (.if_icmp .lt 14, 3) := by decide +kernel
theorem k223_33 : decode (gb 223) 33 = .ok (.aload_n 0, 1) := by decide +kernel
theorem k223_34 : decode (gb 223) 34 = .ok (.getfield 57, 3) := by decide +kernel
theorem k223_37 : decode (gb 223) 37 = .ok (.iload_n 1, 1) := by decide +kernel
theorem k223_38 : decode (gb 223) 38 = .ok (.iload_n 2, 1) := by decide +kernel
theorem k223_39 : decode (gb 223) 39 = .ok (.invokevirtual 274, 3) := by decide +kernel
theorem k223_42 : decode (gb 223) 42 = .ok (.iconst 1, 1) := by decide +kernel
theorem k223_43 : decode (gb 223) 43 = .ok (.ireturn, 1) := by decide +kernel
theorem k223_44 : decode (gb 223) 44 = .ok (.aload_n 0, 1) := by decide +kernel
theorem k223_45 : decode (gb 223) 45 = .ok (.getfield 57, 3) := by decide +kernel
theorem k223_48 : decode (gb 223) 48 = .ok (.iload_n 1, 1) := by decide +kernel
theorem k223_49 : decode (gb 223) 49 = .ok (.invokevirtual 278, 3) := by decide +kernel
theorem k223_52 : decode (gb 223) 52 = .ok (.ifCond .ne 6, 3) := by decide +kernel
theorem k223_55 : decode (gb 223) 55 = .ok (.bipush (-2), 2) := by decide +kernel
theorem k223_57 : decode (gb 223) 57 = .ok (.ireturn, 1) := by decide +kernel
theorem k223_58 : decode (gb 223) 58 = .ok (.aload_n 0, 1) := by decide +kernel
theorem k223_59 : decode (gb 223) 59 = .ok (.getfield 57, 3) := by decide +kernel
theorem k223_62 : decode (gb 223) 62 = .ok (.iload_n 1, 1) := by decide +kernel
theorem k223_63 : decode (gb 223) 63 = .ok (.iload_n 2, 1) := by decide +kernel
theorem k223_64 : decode (gb 223) 64 = .ok (.invokevirtual 281, 3) := by decide +kernel
theorem k223_67 : decode (gb 223) 67 = .ok (.ifCond .eq 10, 3) := by decide +kernel
theorem k223_70 : decode (gb 223) 70 = .ok (.aload_n 0, 1) := by decide +kernel
theorem k223_71 : decode (gb 223) 71 = .ok (.getfield 57, 3) := by decide +kernel
theorem k223_74 : decode (gb 223) 74 = .ok (.invokevirtual 222, 3) := by decide +kernel
theorem k223_77 : decode (gb 223) 77 = .ok (.iconst 1, 1) := by decide +kernel
theorem k223_78 : decode (gb 223) 78 = .ok (.ireturn, 1) := by decide +kernel
/-- CraftHouse.direct(II)I -/
def f223 (p1 : Int32) (p2 : Int32) (μ : Mem) : Option (Mem × Int32) :=
  (f224 p1 p2 μ).bind fun r1 =>
  if r1.2 = 0 then
    some (r1.1, (-1 : Int32))
  else
    if p1 = (11 : Int32) then
      (pfI 9 16 p2 r1.1).bind fun m16 =>
      some (m16, (1 : Int32))
    else
      if p1 < (7 : Int32) then
        (f151 p1 r1.1).bind fun r6 =>
        if r6.2 = 0 then
          some (r6.1, (-2 : Int32))
        else
          (f152 p1 p2 r6.1).bind fun r9 =>
          if r9.2 = 0 then
            some (r9.1, (1 : Int32))
          else
            (f135 r9.1).bind fun r12 =>
            some (r12, (1 : Int32))
      else
        (f154 p1 p2 r1.1).bind fun r14 =>
        some (r14, (1 : Int32))
theorem ok223 {L : Nat} (p1 : Int32) (p2 : Int32) (μ : Mem) (res : Mem × Int32) (h : f223 p1 p2 μ = some res) : Mx 223 [.ref 0, .int p1, .int p2] (mk L μ) (mk L res.1, some (.int res.2)) := by
  refine Mx_of ml_223 (by rw [mx_223]; exact Nat.le_of_ble_eq_true rfl) ?_
  show Sx 223 0 [(0, .ref 0), (1, .int p1), (2, .int p2)] [] 0 0 (mk L μ) _
  unfold f223 at h
  refine sx_aload_n (i := 0) k223_0 rfl rfl ?_
  refine sx_iload_n (i := 1) k223_1 rfl rfl ?_
  refine sx_iload_n (i := 2) k223_2 rfl rfl ?_
  obtain ⟨r1, e2, h⟩ := Option.bind_eq_some_iff.mp h
  refine cx_V (sk := []) (vs := [.int p1, .int p2]) st_223_224 k223_3 ow_223 cl_11_268 (by decide) rfl (Nat.le_of_ble_eq_true rfl) sk_0 (ok224 p1 p2 _ _ e2) (sk3 := [.int r1.2]) rfl rfl ?_
  by_cases hb3 : r1.2 = 0
  · rw [if_pos hb3] at h
    refine sx_if_ne (tgt := 11) k223_6 (by decide) (fun q => absurd hb3 q) (fun _ => ?_)
    refine sx_iconst (v := -1) k223_9 (by decide) ?_
    exact cx_reti k223_10 rt_223 h
  · rw [if_neg hb3] at h
    refine sx_if_ne (tgt := 11) k223_6 (by decide) (fun _ => ?_) (fun q => absurd q hb3)
    refine sx_iload_n (i := 1) k223_11 rfl rfl ?_
    refine sx_bipush (v := 11) k223_12 (by decide) ?_
    by_cases hb4 : p1 = (11 : Int32)
    · rw [if_pos hb4] at h
      refine sx_icmp_ne (tgt := 27) k223_14 (by decide) (fun q => absurd hb4 q) (fun _ => ?_)
      refine sx_aload_n (i := 0) k223_17 rfl rfl ?_
      refine cx_getR (k := 4) k223_18 ow_223 fl_11_37 (by decide) sk_0 ft_10_4 sr_0_4 ?_
      refine sx_iload_n (i := 2) k223_21 rfl rfl ?_
      obtain ⟨m16, e17, h⟩ := Option.bind_eq_some_iff.mp h
      refine cx_putI (k := 16) k223_22 ow_223 fl_11_271 (by decide) sk_9 nf_9_16 fu_9_16 e17 ?_
      refine sx_iconst (v := 1) k223_25 (by decide) ?_
      exact cx_reti k223_26 rt_223 h
    · rw [if_neg hb4] at h
      refine sx_icmp_ne (tgt := 27) k223_14 (by decide) (fun _ => ?_) (fun q => absurd q hb4)
      refine sx_iload_n (i := 1) k223_27 rfl rfl ?_
      refine sx_bipush (v := 7) k223_28 (by decide) ?_
      by_cases hb5 : p1 < (7 : Int32)
      · rw [if_pos hb5] at h
        refine sx_icmp_lt (tgt := 44) k223_30 (by decide) (fun _ => ?_) (fun q => absurd hb5 q)
        refine sx_aload_n (i := 0) k223_44 rfl rfl ?_
        refine cx_getR (k := 6) k223_45 ow_223 fl_11_57 (by decide) sk_0 ft_10_6 sr_0_6 ?_
        refine sx_iload_n (i := 1) k223_48 rfl rfl ?_
        obtain ⟨r6, e7, h⟩ := Option.bind_eq_some_iff.mp h
        refine cx_V (sk := []) (vs := [.int p1]) st_223_151 k223_49 ow_223 cl_11_278 (by decide) rfl (Nat.le_of_ble_eq_true rfl) sk_28 (ok151 p1 _ _ e7) (sk3 := [.int r6.2]) rfl rfl ?_
        by_cases hb8 : r6.2 = 0
        · rw [if_pos hb8] at h
          refine sx_if_ne (tgt := 58) k223_52 (by decide) (fun q => absurd hb8 q) (fun _ => ?_)
          refine sx_bipush (v := -2) k223_55 (by decide) ?_
          exact cx_reti k223_57 rt_223 h
        · rw [if_neg hb8] at h
          refine sx_if_ne (tgt := 58) k223_52 (by decide) (fun _ => ?_) (fun q => absurd q hb8)
          refine sx_aload_n (i := 0) k223_58 rfl rfl ?_
          refine cx_getR (k := 6) k223_59 ow_223 fl_11_57 (by decide) sk_0 ft_10_6 sr_0_6 ?_
          refine sx_iload_n (i := 1) k223_62 rfl rfl ?_
          refine sx_iload_n (i := 2) k223_63 rfl rfl ?_
          obtain ⟨r9, e10, h⟩ := Option.bind_eq_some_iff.mp h
          refine cx_V (sk := []) (vs := [.int p1, .int p2]) st_223_152 k223_64 ow_223 cl_11_281 (by decide) rfl (Nat.le_of_ble_eq_true rfl) sk_28 (ok152 p1 p2 _ _ e10) (sk3 := [.int r9.2]) rfl rfl ?_
          by_cases hb11 : r9.2 = 0
          · rw [if_pos hb11] at h
            refine sx_if_eq (tgt := 77) k223_67 (by decide) (fun _ => ?_) (fun q => absurd hb11 q)
            refine sx_iconst (v := 1) k223_77 (by decide) ?_
            exact cx_reti k223_78 rt_223 h
          · rw [if_neg hb11] at h
            refine sx_if_eq (tgt := 77) k223_67 (by decide) (fun q => absurd q hb11) (fun _ => ?_)
            refine sx_aload_n (i := 0) k223_70 rfl rfl ?_
            refine cx_getR (k := 6) k223_71 ow_223 fl_11_57 (by decide) sk_0 ft_10_6 sr_0_6 ?_
            obtain ⟨r12, e13, h⟩ := Option.bind_eq_some_iff.mp h
            refine cx_V (sk := []) (vs := []) st_223_135 k223_74 ow_223 cl_11_222 (by decide) rfl (Nat.le_of_ble_eq_true rfl) sk_28 (ok135 _ _ e13) (sk3 := []) rfl rfl ?_
            refine sx_iconst (v := 1) k223_77 (by decide) ?_
            exact cx_reti k223_78 rt_223 h
      · rw [if_neg hb5] at h
        refine sx_icmp_lt (tgt := 44) k223_30 (by decide) (fun q => absurd q hb5) (fun _ => ?_)
        refine sx_aload_n (i := 0) k223_33 rfl rfl ?_
        refine cx_getR (k := 6) k223_34 ow_223 fl_11_57 (by decide) sk_0 ft_10_6 sr_0_6 ?_
        refine sx_iload_n (i := 1) k223_37 rfl rfl ?_
        refine sx_iload_n (i := 2) k223_38 rfl rfl ?_
        obtain ⟨r14, e15, h⟩ := Option.bind_eq_some_iff.mp h
        refine cx_V (sk := []) (vs := [.int p1, .int p2]) st_223_154 k223_39 ow_223 cl_11_274 (by decide) rfl (Nat.le_of_ble_eq_true rfl) sk_28 (ok154 p1 p2 _ _ e15) (sk3 := []) rfl rfl ?_
        refine sx_iconst (v := 1) k223_42 (by decide) ?_
        exact cx_reti k223_43 rt_223 h
theorem k225_0 : decode (gb 225) 0 = .ok (.aload_n 0, 1) := by decide +kernel
theorem k225_1 : decode (gb 225) 1 = .ok (.getfield 57, 3) := by decide +kernel
theorem k225_4 : decode (gb 225) 4 = .ok (.iload_n 1, 1) := by decide +kernel
theorem k225_5 : decode (gb 225) 5 = .ok (.invokevirtual 284, 3) := by decide +kernel
theorem k225_8 : decode (gb 225) 8 = .ok (.ireturn, 1) := by decide +kernel
/-- CraftHouse.machine(I)I -/
def f225 (p1 : Int32) (μ : Mem) : Option (Mem × Int32) :=
  (f155 p1 μ).bind fun r1 =>
  some (r1.1, r1.2)
theorem ok225 {L : Nat} (p1 : Int32) (μ : Mem) (res : Mem × Int32) (h : f225 p1 μ = some res) : Mx 225 [.ref 0, .int p1] (mk L μ) (mk L res.1, some (.int res.2)) := by
  refine Mx_of ml_225 (by rw [mx_225]; exact Nat.le_of_ble_eq_true rfl) ?_
  show Sx 225 0 [(0, .ref 0), (1, .int p1)] [] 0 0 (mk L μ) _
  unfold f225 at h
  refine sx_aload_n (i := 0) k225_0 rfl rfl ?_
  refine cx_getR (k := 6) k225_1 ow_225 fl_11_57 (by decide) sk_0 ft_10_6 sr_0_6 ?_
  refine sx_iload_n (i := 1) k225_4 rfl rfl ?_
  obtain ⟨r1, e2, h⟩ := Option.bind_eq_some_iff.mp h
  refine cx_V (sk := []) (vs := [.int p1]) st_225_155 k225_5 ow_225 cl_11_284 (by decide) rfl (Nat.le_of_ble_eq_true rfl) sk_28 (ok155 p1 _ _ e2) (sk3 := [.int r1.2]) rfl rfl ?_
  exact cx_reti k225_8 rt_225 h
theorem k226_0 : decode (gb 226) 0 = .ok (.iload_n 1, 1) := by decide +kernel
theorem k226_1 : decode (gb 226) 1 = .ok (.ifCond .lt 17, 3) := by decide +kernel
theorem k226_4 : decode (gb 226) 4 = .ok (.iload_n 1, 1) := by decide +kernel
theorem k226_5 : decode (gb 226) 5 = .ok (.iconst 1, 1) := by decide +kernel
theorem k226_6 : decode (gb 226) 6 = .ok (.if_icmp .gt 12, 3) := by decide +kernel
theorem k226_9 : decode (gb 226) 9 = .ok (.iload_n 2, 1) := by decide +kernel
theorem k226_10 : decode (gb 226) 10 = .ok (.ifCond .lt 8, 3) := by decide +kernel
theorem k226_13 : decode (gb 226) 13 = .ok (.iload_n 2, 1) := by decide +kernel
theorem k226_14 : decode (gb 226) 14 = .ok (.iconst 3, 1) := by decide +kernel
theorem k226_15 : decode (gb 226) 15 = .ok (.if_icmp .le 5, 3) := by decide +kernel
theorem k226_18 : decode (gb 226) 18 = .ok (.iconst (-1), 1) := by decide +kernel
theorem k226_19 : decode (gb 226) 19 = .ok (.ireturn, 1) := by decide +kernel
theorem k226_20 : decode (gb 226) 20 = .ok (.iload_n 1, 1) := by decide +kernel
theorem k226_21 : decode (gb 226) 21 = .ok (.ifCond .ne 14, 3) := by decide +kernel
theorem k226_24 : decode (gb 226) 24 = .ok (.aload_n 0, 1) := by decide +kernel
theorem k226_25 : decode (gb 226) 25 = .ok (.getfield 66, 3) := by decide +kernel
theorem k226_28 : decode (gb 226) 28 = .ok (.iload_n 2, 1) := by decide +kernel
theorem k226_29 : decode (gb 226) 29 = .ok (.invokevirtual 287, 3) := by decide +kernel
theorem k226_32 : decode (gb 226) 32 = .ok (.goto 11, 3) := by decide +kernel
theorem k226_35 : decode (gb 226) 35 = .ok (.aload_n 0, 1) := by decide +kernel
theorem k226_36 : decode (gb 226) 36 = .ok (.getfield 66, 3) := by decide +kernel
theorem k226_39 : decode (gb 226) 39 = .ok (.iload_n 2, 1) := by decide +kernel
theorem k226_40 : decode (gb 226) 40 = .ok (.invokevirtual 290, 3) := by decide +kernel
theorem k226_43 : decode (gb 226) 43 = .ok (.ireturn, 1) := by decide +kernel
/-- CraftHouse.ear(II)I -/
def f226 (p1 : Int32) (p2 : Int32) (μ : Mem) : Option (Mem × Int32) :=
  if p1 < 0 then
    some (μ, (-1 : Int32))
  else
    if (1 : Int32) < p1 then
      some (μ, (-1 : Int32))
    else
      if p2 < 0 then
        some (μ, (-1 : Int32))
      else
        if p2 ≤ (3 : Int32) then
          if p1 = 0 then
            (f96 p2 μ).bind fun r8 =>
            some (r8.1, r8.2)
          else
            (f97 p2 μ).bind fun r6 =>
            some (r6.1, r6.2)
        else
          some (μ, (-1 : Int32))
theorem ok226 {L : Nat} (p1 : Int32) (p2 : Int32) (μ : Mem) (res : Mem × Int32) (h : f226 p1 p2 μ = some res) : Mx 226 [.ref 0, .int p1, .int p2] (mk L μ) (mk L res.1, some (.int res.2)) := by
  refine Mx_of ml_226 (by rw [mx_226]; exact Nat.le_of_ble_eq_true rfl) ?_
  show Sx 226 0 [(0, .ref 0), (1, .int p1), (2, .int p2)] [] 0 0 (mk L μ) _
  unfold f226 at h
  refine sx_iload_n (i := 1) k226_0 rfl rfl ?_
  by_cases hb1 : p1 < 0
  · rw [if_pos hb1] at h
    refine sx_if_lt (tgt := 18) k226_1 (by decide) (fun _ => ?_) (fun q => absurd hb1 q)
    refine sx_iconst (v := -1) k226_18 (by decide) ?_
    exact cx_reti k226_19 rt_226 h
  · rw [if_neg hb1] at h
    refine sx_if_lt (tgt := 18) k226_1 (by decide) (fun q => absurd q hb1) (fun _ => ?_)
    refine sx_iload_n (i := 1) k226_4 rfl rfl ?_
    refine sx_iconst (v := 1) k226_5 (by decide) ?_
    by_cases hb2 : (1 : Int32) < p1
    · rw [if_pos hb2] at h
      refine sx_icmp_gt (tgt := 18) k226_6 (by decide) (fun _ => ?_) (fun q => absurd hb2 q)
      refine sx_iconst (v := -1) k226_18 (by decide) ?_
      exact cx_reti k226_19 rt_226 h
    · rw [if_neg hb2] at h
      refine sx_icmp_gt (tgt := 18) k226_6 (by decide) (fun q => absurd q hb2) (fun _ => ?_)
      refine sx_iload_n (i := 2) k226_9 rfl rfl ?_
      by_cases hb3 : p2 < 0
      · rw [if_pos hb3] at h
        refine sx_if_lt (tgt := 18) k226_10 (by decide) (fun _ => ?_) (fun q => absurd hb3 q)
        refine sx_iconst (v := -1) k226_18 (by decide) ?_
        exact cx_reti k226_19 rt_226 h
      · rw [if_neg hb3] at h
        refine sx_if_lt (tgt := 18) k226_10 (by decide) (fun q => absurd q hb3) (fun _ => ?_)
        refine sx_iload_n (i := 2) k226_13 rfl rfl ?_
        refine sx_iconst (v := 3) k226_14 (by decide) ?_
        by_cases hb4 : p2 ≤ (3 : Int32)
        · rw [if_pos hb4] at h
          refine sx_icmp_le (tgt := 20) k226_15 (by decide) (fun _ => ?_) (fun q => absurd hb4 q)
          refine sx_iload_n (i := 1) k226_20 rfl rfl ?_
          by_cases hb5 : p1 = 0
          · rw [if_pos hb5] at h
            refine sx_if_ne (tgt := 35) k226_21 (by decide) (fun q => absurd hb5 q) (fun _ => ?_)
            refine sx_aload_n (i := 0) k226_24 rfl rfl ?_
            refine cx_getR (k := 7) k226_25 ow_226 fl_11_66 (by decide) sk_0 ft_10_7 sr_0_7 ?_
            refine sx_iload_n (i := 2) k226_28 rfl rfl ?_
            obtain ⟨r8, e9, h⟩ := Option.bind_eq_some_iff.mp h
            refine cx_V (sk := []) (vs := [.int p2]) st_226_96 k226_29 ow_226 cl_11_287 (by decide) rfl (Nat.le_of_ble_eq_true rfl) sk_49 (ok96 p2 _ _ e9) (sk3 := [.int r8.2]) rfl rfl ?_
            refine sx_goto (tgt := 43) k226_32 (by decide) ?_
            exact cx_reti k226_43 rt_226 h
          · rw [if_neg hb5] at h
            refine sx_if_ne (tgt := 35) k226_21 (by decide) (fun _ => ?_) (fun q => absurd q hb5)
            refine sx_aload_n (i := 0) k226_35 rfl rfl ?_
            refine cx_getR (k := 7) k226_36 ow_226 fl_11_66 (by decide) sk_0 ft_10_7 sr_0_7 ?_
            refine sx_iload_n (i := 2) k226_39 rfl rfl ?_
            obtain ⟨r6, e7, h⟩ := Option.bind_eq_some_iff.mp h
            refine cx_V (sk := []) (vs := [.int p2]) st_226_97 k226_40 ow_226 cl_11_290 (by decide) rfl (Nat.le_of_ble_eq_true rfl) sk_49 (ok97 p2 _ _ e7) (sk3 := [.int r6.2]) rfl rfl ?_
            exact cx_reti k226_43 rt_226 h
        · rw [if_neg hb4] at h
          refine sx_icmp_le (tgt := 20) k226_15 (by decide) (fun q => absurd q hb4) (fun _ => ?_)
          refine sx_iconst (v := -1) k226_18 (by decide) ?_
          exact cx_reti k226_19 rt_226 h
theorem k227_0 : decode (gb 227) 0 = .ok (.iload_n 1, 1) := by decide +kernel
theorem k227_1 : decode (gb 227) 1 = .ok (.tableswitch 185 0 10 #[59, 75, 83, 91, 99, 107, 115, 123, 131, 139, 162], 59) := by decide +kernel
theorem k227_60 : decode (gb 227) 60 = .ok (.aload_n 0, 1) := by decide +kernel
theorem k227_61 : decode (gb 227) 61 = .ok (.getfield 66, 3) := by decide +kernel
theorem k227_64 : decode (gb 227) 64 = .ok (.getfield 293, 3) := by decide +kernel
theorem k227_67 : decode (gb 227) 67 = .ok (.ifCond .eq 7, 3) := by decide +kernel
theorem k227_70 : decode (gb 227) 70 = .ok (.iconst 1, 1) := by decide +kernel
theorem k227_71 : decode (gb 227) 71 = .ok (.goto 4, 3) := by decide +kernel
theorem k227_74 : decode (gb 227) 74 = .ok (.iconst 0, 1) := by decide +kernel
theorem k227_75 : decode (gb 227) 75 = .ok (.ireturn, 1) := by decide +kernel
theorem k227_76 : decode (gb 227) 76 = .ok (.aload_n 0, 1) := by decide +kernel
theorem k227_77 : decode (gb 227) 77 = .ok (.getfield 66, 3) := by decide +kernel
theorem k227_80 : decode (gb 227) 80 = .ok (.getfield 297, 3) := by decide +kernel
theorem k227_83 : decode (gb 227) 83 = .ok (.ireturn, 1) := by decide +kernel
theorem k227_84 : decode (gb 227) 84 = .ok (.aload_n 0, 1) := by decide +kernel
theorem k227_85 : decode (gb 227) 85 = .ok (.getfield 66, 3) := by decide +kernel
theorem k227_88 : decode (gb 227) 88 = .ok (.getfield 300, 3) := by decide +kernel
theorem k227_91 : decode (gb 227) 91 = .ok (.ireturn, 1) := by decide +kernel
theorem k227_92 : decode (gb 227) 92 = .ok (.aload_n 0, 1) := by decide +kernel
theorem k227_93 : decode (gb 227) 93 = .ok (.getfield 66, 3) := by decide +kernel
theorem k227_96 : decode (gb 227) 96 = .ok (.getfield 303, 3) := by decide +kernel
theorem k227_99 : decode (gb 227) 99 = .ok (.ireturn, 1) := by decide +kernel
theorem k227_100 : decode (gb 227) 100 = .ok (.aload_n 0, 1) := by decide +kernel
theorem k227_101 : decode (gb 227) 101 = .ok (.getfield 66, 3) := by decide +kernel
theorem k227_104 : decode (gb 227) 104 = .ok (.getfield 306, 3) := by decide +kernel
theorem k227_107 : decode (gb 227) 107 = .ok (.ireturn, 1) := by decide +kernel
theorem k227_108 : decode (gb 227) 108 = .ok (.aload_n 0, 1) := by decide +kernel
theorem k227_109 : decode (gb 227) 109 = .ok (.getfield 44, 3) := by decide +kernel
theorem k227_112 : decode (gb 227) 112 = .ok (.getfield 309, 3) := by decide +kernel
theorem k227_115 : decode (gb 227) 115 = .ok (.ireturn, 1) := by decide +kernel
theorem k227_116 : decode (gb 227) 116 = .ok (.aload_n 0, 1) := by decide +kernel
theorem k227_117 : decode (gb 227) 117 = .ok (.getfield 44, 3) := by decide +kernel
theorem k227_120 : decode (gb 227) 120 = .ok (.getfield 312, 3) := by decide +kernel
theorem k227_123 : decode (gb 227) 123 = .ok (.ireturn, 1) := by decide +kernel
theorem k227_124 : decode (gb 227) 124 = .ok (.aload_n 0, 1) := by decide +kernel
theorem k227_125 : decode (gb 227) 125 = .ok (.getfield 44, 3) := by decide +kernel
theorem k227_128 : decode (gb 227) 128 = .ok (.getfield 315, 3) := by decide +kernel
theorem k227_131 : decode (gb 227) 131 = .ok (.ireturn, 1) := by decide +kernel
theorem k227_132 : decode (gb 227) 132 = .ok (.aload_n 0, 1) := by decide +kernel
theorem k227_133 : decode (gb 227) 133 = .ok (.getfield 66, 3) := by decide +kernel
theorem k227_136 : decode (gb 227) 136 = .ok (.getfield 318, 3) := by decide +kernel
theorem k227_139 : decode (gb 227) 139 = .ok (.ireturn, 1) := by decide +kernel
theorem k227_140 : decode (gb 227) 140 = .ok (.aload_n 0, 1) := by decide +kernel
theorem k227_141 : decode (gb 227) 141 = .ok (.getfield 66, 3) := by decide +kernel
theorem k227_144 : decode (gb 227) 144 = .ok (.getfield 318, 3) := by decide +kernel
theorem k227_147 : decode (gb 227) 147 = .ok (.ifCond .ne 8, 3) := by decide +kernel
theorem k227_150 : decode (gb 227) 150 = .ok (.bipush (-2), 2) := by decide +kernel
theorem k227_152 : decode (gb 227) 152 = .ok (.goto 10, 3) := by decide +kernel
theorem k227_155 : decode (gb 227) 155 = .ok (.aload_n 0, 1) := by decide +kernel
theorem k227_156 : decode (gb 227) 156 = .ok (.getfield 66, 3) := by decide +kernel
theorem k227_159 : decode (gb 227) 159 = .ok (.getfield 216, 3) := by decide +kernel
theorem k227_162 : decode (gb 227) 162 = .ok (.ireturn, 1) := by decide +kernel
theorem k227_163 : decode (gb 227) 163 = .ok (.aload_n 0, 1) := by decide +kernel
theorem k227_164 : decode (gb 227) 164 = .ok (.getfield 66, 3) := by decide +kernel
theorem k227_167 : decode (gb 227) 167 = .ok (.getfield 318, 3) := by decide +kernel
theorem k227_170 : decode (gb 227) 170 = .ok (.ifCond .ne 8, 3) := by decide +kernel
theorem k227_173 : decode (gb 227) 173 = .ok (.bipush (-2), 2) := by decide +kernel
theorem k227_175 : decode (gb 227) 175 = .ok (.goto 10, 3) := by decide +kernel
theorem k227_178 : decode (gb 227) 178 = .ok (.aload_n 0, 1) := by decide +kernel
theorem k227_179 : decode (gb 227) 179 = .ok (.getfield 66, 3) := by decide +kernel
theorem k227_182 : decode (gb 227) 182 = .ok (.getfield 213, 3) := by decide +kernel
theorem k227_185 : decode (gb 227) 185 = .ok (.ireturn, 1) := by decide +kernel
theorem k227_186 : decode (gb 227) 186 = .ok (.iconst (-1), 1) := by decide +kernel
theorem k227_187 : decode (gb 227) 187 = .ok (.ireturn, 1) := by decide +kernel
/-- CraftHouse.came(I)I -/
def f227 (p1 : Int32) (μ : Mem) : Option (Mem × Int32) :=
  if p1 = (0 : Int32) then
    if (μ.1 49 11) = 0 then
      some (μ, (0 : Int32))
    else
      some (μ, (1 : Int32))
  else if p1 = (1 : Int32) then
    some (μ, (μ.1 49 12))
  else if p1 = (2 : Int32) then
    some (μ, (μ.1 49 13))
  else if p1 = (3 : Int32) then
    some (μ, (μ.1 49 14))
  else if p1 = (4 : Int32) then
    some (μ, (μ.1 49 15))
  else if p1 = (5 : Int32) then
    some (μ, (μ.1 12 9))
  else if p1 = (6 : Int32) then
    some (μ, (μ.1 12 10))
  else if p1 = (7 : Int32) then
    some (μ, (μ.1 12 11))
  else if p1 = (8 : Int32) then
    some (μ, (μ.1 49 16))
  else if p1 = (9 : Int32) then
    if (μ.1 49 16) = 0 then
      some (μ, (-2 : Int32))
    else
      some (μ, (μ.1 49 17))
  else if p1 = (10 : Int32) then
    if (μ.1 49 16) = 0 then
      some (μ, (-2 : Int32))
    else
      some (μ, (μ.1 49 18))
  else 
    some (μ, (-1 : Int32))
theorem ok227 {L : Nat} (p1 : Int32) (μ : Mem) (res : Mem × Int32) (h : f227 p1 μ = some res) : Mx 227 [.ref 0, .int p1] (mk L μ) (mk L res.1, some (.int res.2)) := by
  refine Mx_of ml_227 (by rw [mx_227]; exact Nat.le_of_ble_eq_true rfl) ?_
  show Sx 227 0 [(0, .ref 0), (1, .int p1)] [] 0 0 (mk L μ) _
  unfold f227 at h
  refine sx_iload_n (i := 1) k227_0 rfl rfl ?_
  by_cases hb2 : p1 = (0 : Int32)
  · rw [if_pos hb2] at h
    refine sx_tableIn (off := 59) (tgt := 60) k227_1 (by rw [hb2]; decide) (by rw [hb2]; decide) (by rw [hb2]; rfl) (by decide) ?_
    refine sx_aload_n (i := 0) k227_60 rfl rfl ?_
    refine cx_getR (k := 7) k227_61 ow_227 fl_11_66 (by decide) sk_0 ft_10_7 sr_0_7 ?_
    refine cx_getI (k := 11) k227_64 ow_227 fl_11_293 (by decide) sk_49 ft_3_11 ?_
    by_cases hb1 : (μ.1 49 11) = 0
    · rw [if_pos hb1] at h
      refine sx_if_eq (tgt := 74) k227_67 (by decide) (fun _ => ?_) (fun q => absurd hb1 q)
      refine sx_iconst (v := 0) k227_74 (by decide) ?_
      exact cx_reti k227_75 rt_227 h
    · rw [if_neg hb1] at h
      refine sx_if_eq (tgt := 74) k227_67 (by decide) (fun q => absurd q hb1) (fun _ => ?_)
      refine sx_iconst (v := 1) k227_70 (by decide) ?_
      refine sx_goto (tgt := 75) k227_71 (by decide) ?_
      exact cx_reti k227_75 rt_227 h
  · rw [if_neg hb2] at h
    by_cases hb3 : p1 = (1 : Int32)
    · rw [if_pos hb3] at h
      refine sx_tableIn (off := 75) (tgt := 76) k227_1 (by rw [hb3]; decide) (by rw [hb3]; decide) (by rw [hb3]; rfl) (by decide) ?_
      refine sx_aload_n (i := 0) k227_76 rfl rfl ?_
      refine cx_getR (k := 7) k227_77 ow_227 fl_11_66 (by decide) sk_0 ft_10_7 sr_0_7 ?_
      refine cx_getI (k := 12) k227_80 ow_227 fl_11_297 (by decide) sk_49 ft_3_12 ?_
      exact cx_reti k227_83 rt_227 h
    · rw [if_neg hb3] at h
      by_cases hb4 : p1 = (2 : Int32)
      · rw [if_pos hb4] at h
        refine sx_tableIn (off := 83) (tgt := 84) k227_1 (by rw [hb4]; decide) (by rw [hb4]; decide) (by rw [hb4]; rfl) (by decide) ?_
        refine sx_aload_n (i := 0) k227_84 rfl rfl ?_
        refine cx_getR (k := 7) k227_85 ow_227 fl_11_66 (by decide) sk_0 ft_10_7 sr_0_7 ?_
        refine cx_getI (k := 13) k227_88 ow_227 fl_11_300 (by decide) sk_49 ft_3_13 ?_
        exact cx_reti k227_91 rt_227 h
      · rw [if_neg hb4] at h
        by_cases hb5 : p1 = (3 : Int32)
        · rw [if_pos hb5] at h
          refine sx_tableIn (off := 91) (tgt := 92) k227_1 (by rw [hb5]; decide) (by rw [hb5]; decide) (by rw [hb5]; rfl) (by decide) ?_
          refine sx_aload_n (i := 0) k227_92 rfl rfl ?_
          refine cx_getR (k := 7) k227_93 ow_227 fl_11_66 (by decide) sk_0 ft_10_7 sr_0_7 ?_
          refine cx_getI (k := 14) k227_96 ow_227 fl_11_303 (by decide) sk_49 ft_3_14 ?_
          exact cx_reti k227_99 rt_227 h
        · rw [if_neg hb5] at h
          by_cases hb6 : p1 = (4 : Int32)
          · rw [if_pos hb6] at h
            refine sx_tableIn (off := 99) (tgt := 100) k227_1 (by rw [hb6]; decide) (by rw [hb6]; decide) (by rw [hb6]; rfl) (by decide) ?_
            refine sx_aload_n (i := 0) k227_100 rfl rfl ?_
            refine cx_getR (k := 7) k227_101 ow_227 fl_11_66 (by decide) sk_0 ft_10_7 sr_0_7 ?_
            refine cx_getI (k := 15) k227_104 ow_227 fl_11_306 (by decide) sk_49 ft_3_15 ?_
            exact cx_reti k227_107 rt_227 h
          · rw [if_neg hb6] at h
            by_cases hb7 : p1 = (5 : Int32)
            · rw [if_pos hb7] at h
              refine sx_tableIn (off := 107) (tgt := 108) k227_1 (by rw [hb7]; decide) (by rw [hb7]; decide) (by rw [hb7]; rfl) (by decide) ?_
              refine sx_aload_n (i := 0) k227_108 rfl rfl ?_
              refine cx_getR (k := 5) k227_109 ow_227 fl_11_44 (by decide) sk_0 ft_10_5 sr_0_5 ?_
              refine cx_getI (k := 9) k227_112 ow_227 fl_11_309 (by decide) sk_12 ft_2_9 ?_
              exact cx_reti k227_115 rt_227 h
            · rw [if_neg hb7] at h
              by_cases hb8 : p1 = (6 : Int32)
              · rw [if_pos hb8] at h
                refine sx_tableIn (off := 115) (tgt := 116) k227_1 (by rw [hb8]; decide) (by rw [hb8]; decide) (by rw [hb8]; rfl) (by decide) ?_
                refine sx_aload_n (i := 0) k227_116 rfl rfl ?_
                refine cx_getR (k := 5) k227_117 ow_227 fl_11_44 (by decide) sk_0 ft_10_5 sr_0_5 ?_
                refine cx_getI (k := 10) k227_120 ow_227 fl_11_312 (by decide) sk_12 ft_2_10 ?_
                exact cx_reti k227_123 rt_227 h
              · rw [if_neg hb8] at h
                by_cases hb9 : p1 = (7 : Int32)
                · rw [if_pos hb9] at h
                  refine sx_tableIn (off := 123) (tgt := 124) k227_1 (by rw [hb9]; decide) (by rw [hb9]; decide) (by rw [hb9]; rfl) (by decide) ?_
                  refine sx_aload_n (i := 0) k227_124 rfl rfl ?_
                  refine cx_getR (k := 5) k227_125 ow_227 fl_11_44 (by decide) sk_0 ft_10_5 sr_0_5 ?_
                  refine cx_getI (k := 11) k227_128 ow_227 fl_11_315 (by decide) sk_12 ft_2_11 ?_
                  exact cx_reti k227_131 rt_227 h
                · rw [if_neg hb9] at h
                  by_cases hb10 : p1 = (8 : Int32)
                  · rw [if_pos hb10] at h
                    refine sx_tableIn (off := 131) (tgt := 132) k227_1 (by rw [hb10]; decide) (by rw [hb10]; decide) (by rw [hb10]; rfl) (by decide) ?_
                    refine sx_aload_n (i := 0) k227_132 rfl rfl ?_
                    refine cx_getR (k := 7) k227_133 ow_227 fl_11_66 (by decide) sk_0 ft_10_7 sr_0_7 ?_
                    refine cx_getI (k := 16) k227_136 ow_227 fl_11_318 (by decide) sk_49 ft_3_16 ?_
                    exact cx_reti k227_139 rt_227 h
                  · rw [if_neg hb10] at h
                    by_cases hb12 : p1 = (9 : Int32)
                    · rw [if_pos hb12] at h
                      refine sx_tableIn (off := 139) (tgt := 140) k227_1 (by rw [hb12]; decide) (by rw [hb12]; decide) (by rw [hb12]; rfl) (by decide) ?_
                      refine sx_aload_n (i := 0) k227_140 rfl rfl ?_
                      refine cx_getR (k := 7) k227_141 ow_227 fl_11_66 (by decide) sk_0 ft_10_7 sr_0_7 ?_
                      refine cx_getI (k := 16) k227_144 ow_227 fl_11_318 (by decide) sk_49 ft_3_16 ?_
                      by_cases hb11 : (μ.1 49 16) = 0
                      · rw [if_pos hb11] at h
                        refine sx_if_ne (tgt := 155) k227_147 (by decide) (fun q => absurd hb11 q) (fun _ => ?_)
                        refine sx_bipush (v := -2) k227_150 (by decide) ?_
                        refine sx_goto (tgt := 162) k227_152 (by decide) ?_
                        exact cx_reti k227_162 rt_227 h
                      · rw [if_neg hb11] at h
                        refine sx_if_ne (tgt := 155) k227_147 (by decide) (fun _ => ?_) (fun q => absurd q hb11)
                        refine sx_aload_n (i := 0) k227_155 rfl rfl ?_
                        refine cx_getR (k := 7) k227_156 ow_227 fl_11_66 (by decide) sk_0 ft_10_7 sr_0_7 ?_
                        refine cx_getI (k := 17) k227_159 ow_227 fl_11_216 (by decide) sk_49 ft_3_17 ?_
                        exact cx_reti k227_162 rt_227 h
                    · rw [if_neg hb12] at h
                      by_cases hb14 : p1 = (10 : Int32)
                      · rw [if_pos hb14] at h
                        refine sx_tableIn (off := 162) (tgt := 163) k227_1 (by rw [hb14]; decide) (by rw [hb14]; decide) (by rw [hb14]; rfl) (by decide) ?_
                        refine sx_aload_n (i := 0) k227_163 rfl rfl ?_
                        refine cx_getR (k := 7) k227_164 ow_227 fl_11_66 (by decide) sk_0 ft_10_7 sr_0_7 ?_
                        refine cx_getI (k := 16) k227_167 ow_227 fl_11_318 (by decide) sk_49 ft_3_16 ?_
                        by_cases hb13 : (μ.1 49 16) = 0
                        · rw [if_pos hb13] at h
                          refine sx_if_ne (tgt := 178) k227_170 (by decide) (fun q => absurd hb13 q) (fun _ => ?_)
                          refine sx_bipush (v := -2) k227_173 (by decide) ?_
                          refine sx_goto (tgt := 185) k227_175 (by decide) ?_
                          exact cx_reti k227_185 rt_227 h
                        · rw [if_neg hb13] at h
                          refine sx_if_ne (tgt := 178) k227_170 (by decide) (fun _ => ?_) (fun q => absurd q hb13)
                          refine sx_aload_n (i := 0) k227_178 rfl rfl ?_
                          refine cx_getR (k := 7) k227_179 ow_227 fl_11_66 (by decide) sk_0 ft_10_7 sr_0_7 ?_
                          refine cx_getI (k := 18) k227_182 ow_227 fl_11_213 (by decide) sk_49 ft_3_18 ?_
                          exact cx_reti k227_185 rt_227 h
                      · rw [if_neg hb14] at h
                        refine sx_tableOut (tgt := 186) k227_1 (sw_out (n := 11) (fun j hj => ?_)) (by decide) ?_
                        · intro hj2
                          exact sw_no [(0 : Int32), (1 : Int32), (2 : Int32), (3 : Int32), (4 : Int32), (5 : Int32), (6 : Int32), (7 : Int32), (8 : Int32), (9 : Int32), (10 : Int32)] (by decide) hj hj2 ⟨hb2, hb3, hb4, hb5, hb6, hb7, hb8, hb9, hb10, hb12, hb14, trivial⟩
                        ·
                          refine sx_iconst (v := -1) k227_186 (by decide) ?_
                          exact cx_reti k227_187 rt_227 h
theorem k228_0 : decode (gb 228) 0 = .ok (.aload_n 0, 1) := by decide +kernel
theorem k228_1 : decode (gb 228) 1 = .ok (.getfield 44, 3) := by decide +kernel
theorem k228_4 : decode (gb 228) 4 = .ok (.iload_n 1, 1) := by decide +kernel
theorem k228_5 : decode (gb 228) 5 = .ok (.invokevirtual 321, 3) := by decide +kernel
theorem k228_8 : decode (gb 228) 8 = .ok (.istore_n 3, 1) := by decide +kernel
theorem k228_9 : decode (gb 228) 9 = .ok (.iload_n 3, 1) := by decide +kernel
theorem k228_10 : decode (gb 228) 10 = .ok (.ifCond .ge 5, 3) := by decide +kernel
theorem k228_13 : decode (gb 228) 13 = .ok (.iconst (-1), 1) := by decide +kernel
theorem k228_14 : decode (gb 228) 14 = .ok (.ireturn, 1) := by decide +kernel
theorem k228_15 : decode (gb 228) 15 = .ok (.aload_n 0, 1) := by decide +kernel
theorem k228_16 : decode (gb 228) 16 = .ok (.getfield 44, 3) := by decide +kernel
theorem k228_19 : decode (gb 228) 19 = .ok (.getfield 324, 3) := by decide +kernel
theorem k228_22 : decode (gb 228) 22 = .ok (.astore 4, 2) := by decide +kernel
theorem k228_24 : decode (gb 228) 24 = .ok (.iload_n 2, 1) := by decide +kernel
theorem k228_25 : decode (gb 228) 25 = .ok (.tableswitch 104 0 5 #[39, 46, 55, 64, 85, 97], 39) := by decide +kernel
theorem k228_64 : decode (gb 228) 64 = .ok (.aload 4, 2) := by decide +kernel
theorem k228_66 : decode (gb 228) 66 = .ok (.iload_n 3, 1) := by decide +kernel
theorem k228_67 : decode (gb 228) 67 = .ok (.invokevirtual 328, 3) := by decide +kernel
theorem k228_70 : decode (gb 228) 70 = .ok (.ireturn, 1) := by decide +kernel
theorem k228_71 : decode (gb 228) 71 = .ok (.aload 4, 2) := by decide +kernel
theorem k228_73 : decode (gb 228) 73 = .ok (.iload_n 3, 1) := by decide +kernel
theorem k228_74 : decode (gb 228) 74 = .ok (.bipush 7, 2) := by decide +kernel
theorem k228_76 : decode (gb 228) 76 = .ok (.invokevirtual 333, 3) := by decide +kernel
theorem k228_79 : decode (gb 228) 79 = .ok (.ireturn, 1) := by decide +kernel
theorem k228_80 : decode (gb 228) 80 = .ok (.aload 4, 2) := by decide +kernel
theorem k228_82 : decode (gb 228) 82 = .ok (.iload_n 3, 1) := by decide +kernel
theorem k228_83 : decode (gb 228) 83 = .ok (.bipush 8, 2) := by decide +kernel
theorem k228_85 : decode (gb 228) 85 = .ok (.invokevirtual 333, 3) := by decide +kernel
theorem k228_88 : decode (gb 228) 88 = .ok (.ireturn, 1) := by decide +kernel
theorem k228_89 : decode (gb 228) 89 = .ok (.aload 4, 2) := by decide +kernel
theorem k228_91 : decode (gb 228) 91 = .ok (.iload_n 3, 1) := by decide +kernel
theorem k228_92 : decode (gb 228) 92 = .ok (.bipush 9, 2) := by decide +kernel
theorem k228_94 : decode (gb 228) 94 = .ok (.invokevirtual 336, 3) := by decide +kernel
theorem k228_97 : decode (gb 228) 97 = .ok (.bipush 16, 2) := by decide +kernel
theorem k228_99 : decode (gb 228) 99 = .ok (.ishl, 1) := by decide +kernel
theorem k228_100 : decode (gb 228) 100 = .ok (.aload 4, 2) := by decide +kernel
theorem k228_102 : decode (gb 228) 102 = .ok (.iload_n 3, 1) := by decide +kernel
theorem k228_103 : decode (gb 228) 103 = .ok (.bipush 11, 2) := by decide +kernel
theorem k228_105 : decode (gb 228) 105 = .ok (.invokevirtual 336, 3) := by decide +kernel
theorem k228_108 : decode (gb 228) 108 = .ok (.ior, 1) := by decide +kernel
theorem k228_109 : decode (gb 228) 109 = .ok (.ireturn, 1) := by decide +kernel
theorem k228_110 : decode (gb 228) 110 = .ok (.aload 4, 2) := by decide +kernel
theorem k228_112 : decode (gb 228) 112 = .ok (.iload_n 3, 1) := by decide +kernel
theorem k228_113 : decode (gb 228) 113 = .ok (.iconst 2, 1) := by decide +kernel
theorem k228_114 : decode (gb 228) 114 = .ok (.invokevirtual 336, 3) := by decide +kernel
theorem k228_117 : decode (gb 228) 117 = .ok (.sipush 16383, 3) := by decide +kernel
theorem k228_120 : decode (gb 228) 120 = .ok (.iand, 1) := by decide +kernel
theorem k228_121 : decode (gb 228) 121 = .ok (.ireturn, 1) := by decide +kernel
theorem k228_122 : decode (gb 228) 122 = .ok (.aload 4, 2) := by decide +kernel
theorem k228_124 : decode (gb 228) 124 = .ok (.iload_n 3, 1) := by decide +kernel
theorem k228_125 : decode (gb 228) 125 = .ok (.invokevirtual 339, 3) := by decide +kernel
theorem k228_128 : decode (gb 228) 128 = .ok (.ireturn, 1) := by decide +kernel
theorem k228_129 : decode (gb 228) 129 = .ok (.iconst (-1), 1) := by decide +kernel
theorem k228_130 : decode (gb 228) 130 = .ok (.ireturn, 1) := by decide +kernel
/-- CraftHouse.archived(II)I -/
def f228 (p1 : Int32) (p2 : Int32) (μ : Mem) : Option (Mem × Int32) :=
  (f87 p1 μ).bind fun r1 =>
  if 0 ≤ r1.2 then
    if p2 = (0 : Int32) then
      (f167 15 r1.2 r1.1).bind fun r4 =>
      some (r4.1, r4.2)
    else if p2 = (1 : Int32) then
      (f171 15 r1.2 (7 : Int32) r1.1).bind fun r7 =>
      some (r7.1, r7.2)
    else if p2 = (2 : Int32) then
      (f171 15 r1.2 (8 : Int32) r1.1).bind fun r10 =>
      some (r10.1, r10.2)
    else if p2 = (3 : Int32) then
      (f172 15 r1.2 (9 : Int32) r1.1).bind fun r13 =>
      (f172 15 r1.2 (11 : Int32) r13.1).bind fun r15 =>
      some (r15.1, ((jshl r13.2 (16 : Int32)) ||| r15.2))
    else if p2 = (4 : Int32) then
      (f172 15 r1.2 (2 : Int32) r1.1).bind fun r18 =>
      some (r18.1, (r18.2 &&& (16383 : Int32)))
    else if p2 = (5 : Int32) then
      (f166 15 r1.2 r1.1).bind fun r21 =>
      some (r21.1, r21.2)
    else 
      some (r1.1, (-1 : Int32))
  else
    some (r1.1, (-1 : Int32))
theorem ok228 {L : Nat} (p1 : Int32) (p2 : Int32) (μ : Mem) (res : Mem × Int32) (h : f228 p1 p2 μ = some res) : Mx 228 [.ref 0, .int p1, .int p2] (mk L μ) (mk L res.1, some (.int res.2)) := by
  refine Mx_of ml_228 (by rw [mx_228]; exact Nat.le_of_ble_eq_true rfl) ?_
  show Sx 228 0 [(0, .ref 0), (1, .int p1), (2, .int p2)] [] 0 0 (mk L μ) _
  unfold f228 at h
  refine sx_aload_n (i := 0) k228_0 rfl rfl ?_
  refine cx_getR (k := 5) k228_1 ow_228 fl_11_44 (by decide) sk_0 ft_10_5 sr_0_5 ?_
  refine sx_iload_n (i := 1) k228_4 rfl rfl ?_
  obtain ⟨r1, e2, h⟩ := Option.bind_eq_some_iff.mp h
  refine cx_V (sk := []) (vs := [.int p1]) st_228_87 k228_5 ow_228 cl_11_321 (by decide) rfl (Nat.le_of_ble_eq_true rfl) sk_12 (ok87 p1 _ _ e2) (sk3 := [.int r1.2]) rfl rfl ?_
  refine cx_istore_n (lo2 := [(3, .int r1.2), (0, .ref 0), (1, .int p1), (2, .int p2)]) k228_8 rfl (by rw [mx_228]; decide) rfl ?_
  refine sx_iload_n (i := 3) k228_9 rfl rfl ?_
  by_cases hb3 : 0 ≤ r1.2
  · rw [if_pos hb3] at h
    refine sx_if_ge (tgt := 15) k228_10 (by decide) (fun _ => ?_) (fun q => absurd hb3 q)
    refine sx_aload_n (i := 0) k228_15 rfl rfl ?_
    refine cx_getR (k := 5) k228_16 ow_228 fl_11_44 (by decide) sk_0 ft_10_5 sr_0_5 ?_
    refine cx_getR (k := 1) k228_19 ow_228 fl_11_324 (by decide) sk_12 ft_2_1 sr_12_1 ?_
    refine cx_astore (lo2 := [(4, .ref 15), (3, .int r1.2), (0, .ref 0), (1, .int p1), (2, .int p2)]) k228_22 (by rw [mx_228]; decide) rfl ?_
    refine sx_iload_n (i := 2) k228_24 rfl rfl ?_
    by_cases hb6 : p2 = (0 : Int32)
    · rw [if_pos hb6] at h
      refine sx_tableIn (off := 39) (tgt := 64) k228_25 (by rw [hb6]; decide) (by rw [hb6]; decide) (by rw [hb6]; rfl) (by decide) ?_
      refine sx_aload k228_64 rfl ?_
      refine sx_iload_n (i := 3) k228_66 rfl rfl ?_
      obtain ⟨r4, e5, h⟩ := Option.bind_eq_some_iff.mp h
      refine cx_V (sk := []) (vs := [.int r1.2]) st_228_167 k228_67 ow_228 cl_11_328 (by decide) rfl (Nat.le_of_ble_eq_true rfl) sk_15 (ok167 15 r1.2 sk_15 _ _ e5) (sk3 := [.int r4.2]) rfl rfl ?_
      exact cx_reti k228_70 rt_228 h
    · rw [if_neg hb6] at h
      by_cases hb9 : p2 = (1 : Int32)
      · rw [if_pos hb9] at h
        refine sx_tableIn (off := 46) (tgt := 71) k228_25 (by rw [hb9]; decide) (by rw [hb9]; decide) (by rw [hb9]; rfl) (by decide) ?_
        refine sx_aload k228_71 rfl ?_
        refine sx_iload_n (i := 3) k228_73 rfl rfl ?_
        refine sx_bipush (v := 7) k228_74 (by decide) ?_
        obtain ⟨r7, e8, h⟩ := Option.bind_eq_some_iff.mp h
        refine cx_V (sk := []) (vs := [.int r1.2, .int (7 : Int32)]) st_228_171 k228_76 ow_228 cl_11_333 (by decide) rfl (Nat.le_of_ble_eq_true rfl) sk_15 (ok171 15 r1.2 (7 : Int32) sk_15 _ _ e8) (sk3 := [.int r7.2]) rfl rfl ?_
        exact cx_reti k228_79 rt_228 h
      · rw [if_neg hb9] at h
        by_cases hb12 : p2 = (2 : Int32)
        · rw [if_pos hb12] at h
          refine sx_tableIn (off := 55) (tgt := 80) k228_25 (by rw [hb12]; decide) (by rw [hb12]; decide) (by rw [hb12]; rfl) (by decide) ?_
          refine sx_aload k228_80 rfl ?_
          refine sx_iload_n (i := 3) k228_82 rfl rfl ?_
          refine sx_bipush (v := 8) k228_83 (by decide) ?_
          obtain ⟨r10, e11, h⟩ := Option.bind_eq_some_iff.mp h
          refine cx_V (sk := []) (vs := [.int r1.2, .int (8 : Int32)]) st_228_171 k228_85 ow_228 cl_11_333 (by decide) rfl (Nat.le_of_ble_eq_true rfl) sk_15 (ok171 15 r1.2 (8 : Int32) sk_15 _ _ e11) (sk3 := [.int r10.2]) rfl rfl ?_
          exact cx_reti k228_88 rt_228 h
        · rw [if_neg hb12] at h
          by_cases hb17 : p2 = (3 : Int32)
          · rw [if_pos hb17] at h
            refine sx_tableIn (off := 64) (tgt := 89) k228_25 (by rw [hb17]; decide) (by rw [hb17]; decide) (by rw [hb17]; rfl) (by decide) ?_
            refine sx_aload k228_89 rfl ?_
            refine sx_iload_n (i := 3) k228_91 rfl rfl ?_
            refine sx_bipush (v := 9) k228_92 (by decide) ?_
            obtain ⟨r13, e14, h⟩ := Option.bind_eq_some_iff.mp h
            refine cx_V (sk := []) (vs := [.int r1.2, .int (9 : Int32)]) st_228_172 k228_94 ow_228 cl_11_336 (by decide) rfl (Nat.le_of_ble_eq_true rfl) sk_15 (ok172 15 r1.2 (9 : Int32) sk_15 _ _ e14) (sk3 := [.int r13.2]) rfl rfl ?_
            refine sx_bipush (v := 16) k228_97 (by decide) ?_
            refine sx_ishl k228_99 ?_
            refine sx_aload k228_100 rfl ?_
            refine sx_iload_n (i := 3) k228_102 rfl rfl ?_
            refine sx_bipush (v := 11) k228_103 (by decide) ?_
            obtain ⟨r15, e16, h⟩ := Option.bind_eq_some_iff.mp h
            refine cx_V (sk := [.int (jshl r13.2 (16 : Int32))]) (vs := [.int r1.2, .int (11 : Int32)]) st_228_172 k228_105 ow_228 cl_11_336 (by decide) rfl (Nat.le_of_ble_eq_true rfl) sk_15 (ok172 15 r1.2 (11 : Int32) sk_15 _ _ e16) (sk3 := [.int r15.2, .int (jshl r13.2 (16 : Int32))]) rfl rfl ?_
            refine sx_ior k228_108 ?_
            exact cx_reti k228_109 rt_228 h
          · rw [if_neg hb17] at h
            by_cases hb20 : p2 = (4 : Int32)
            · rw [if_pos hb20] at h
              refine sx_tableIn (off := 85) (tgt := 110) k228_25 (by rw [hb20]; decide) (by rw [hb20]; decide) (by rw [hb20]; rfl) (by decide) ?_
              refine sx_aload k228_110 rfl ?_
              refine sx_iload_n (i := 3) k228_112 rfl rfl ?_
              refine sx_iconst (v := 2) k228_113 (by decide) ?_
              obtain ⟨r18, e19, h⟩ := Option.bind_eq_some_iff.mp h
              refine cx_V (sk := []) (vs := [.int r1.2, .int (2 : Int32)]) st_228_172 k228_114 ow_228 cl_11_336 (by decide) rfl (Nat.le_of_ble_eq_true rfl) sk_15 (ok172 15 r1.2 (2 : Int32) sk_15 _ _ e19) (sk3 := [.int r18.2]) rfl rfl ?_
              refine sx_sipush (v := 16383) k228_117 (by decide) ?_
              refine sx_iand k228_120 ?_
              exact cx_reti k228_121 rt_228 h
            · rw [if_neg hb20] at h
              by_cases hb23 : p2 = (5 : Int32)
              · rw [if_pos hb23] at h
                refine sx_tableIn (off := 97) (tgt := 122) k228_25 (by rw [hb23]; decide) (by rw [hb23]; decide) (by rw [hb23]; rfl) (by decide) ?_
                refine sx_aload k228_122 rfl ?_
                refine sx_iload_n (i := 3) k228_124 rfl rfl ?_
                obtain ⟨r21, e22, h⟩ := Option.bind_eq_some_iff.mp h
                refine cx_V (sk := []) (vs := [.int r1.2]) st_228_166 k228_125 ow_228 cl_11_339 (by decide) rfl (Nat.le_of_ble_eq_true rfl) sk_15 (ok166 15 r1.2 sk_15 _ _ e22) (sk3 := [.int r21.2]) rfl rfl ?_
                exact cx_reti k228_128 rt_228 h
              · rw [if_neg hb23] at h
                refine sx_tableOut (tgt := 129) k228_25 (sw_out (n := 6) (fun j hj => ?_)) (by decide) ?_
                · intro hj2
                  exact sw_no [(0 : Int32), (1 : Int32), (2 : Int32), (3 : Int32), (4 : Int32), (5 : Int32)] (by decide) hj hj2 ⟨hb6, hb9, hb12, hb17, hb20, hb23, trivial⟩
                ·
                  refine sx_iconst (v := -1) k228_129 (by decide) ?_
                  exact cx_reti k228_130 rt_228 h
  · rw [if_neg hb3] at h
    refine sx_if_ge (tgt := 15) k228_10 (by decide) (fun q => absurd q hb3) (fun _ => ?_)
    refine sx_iconst (v := -1) k228_13 (by decide) ?_
    exact cx_reti k228_14 rt_228 h
theorem k229_0 : decode (gb 229) 0 = .ok (.aload_n 0, 1) := by decide +kernel
theorem k229_1 : decode (gb 229) 1 = .ok (.getfield 44, 3) := by decide +kernel
theorem k229_4 : decode (gb 229) 4 = .ok (.iload_n 1, 1) := by decide +kernel
theorem k229_5 : decode (gb 229) 5 = .ok (.invokevirtual 321, 3) := by decide +kernel
theorem k229_8 : decode (gb 229) 8 = .ok (.istore_n 3, 1) := by decide +kernel
theorem k229_9 : decode (gb 229) 9 = .ok (.iload_n 3, 1) := by decide +kernel
theorem k229_10 : decode (gb 229) 10 = .ok (.ifCond .lt 22, 3) := by decide +kernel
theorem k229_13 : decode (gb 229) 13 = .ok (.iload_n 2, 1) := by decide +kernel
theorem k229_14 : decode (gb 229) 14 = .ok (.ifCond .lt 18, 3) := by decide +kernel
theorem k229_17 : decode (gb 229) 17 = .ok (.iload_n 2, 1) := by decide +kernel
theorem k229_18 : decode (gb 229) 18 = .ok (.aload_n 0, 1) := by decide +kernel
theorem k229_19 : decode (gb 229) 19 = .ok (.getfield 44, 3) := by decide +kernel
theorem k229_22 : decode (gb 229) 22 = .ok (.getfield 324, 3) := by decide +kernel
theorem k229_25 : decode (gb 229) 25 = .ok (.iload_n 3, 1) := by decide +kernel
theorem k229_26 : decode (gb 229) 26 = .ok (.invokevirtual 339, 3) := by decide +kernel
theorem k229_29 : decode (gb 229) 29 = .ok (.if_icmp .lt 5, 3) := by decide +kernel
theorem k229_32 : decode (gb 229) 32 = .ok (.iconst (-1), 1) := by decide +kernel
theorem k229_33 : decode (gb 229) 33 = .ok (.ireturn, 1) := by decide +kernel
theorem k229_34 : decode (gb 229) 34 = .ok (.aload_n 0, 1) := by decide +kernel
theorem k229_35 : decode (gb 229) 35 = .ok (.getfield 44, 3) := by decide +kernel
theorem k229_38 : decode (gb 229) 38 = .ok (.getfield 324, 3) := by decide +kernel
theorem k229_41 : decode (gb 229) 41 = .ok (.iload_n 3, 1) := by decide +kernel
theorem k229_42 : decode (gb 229) 42 = .ok (.iload_n 2, 1) := by decide +kernel
theorem k229_43 : decode (gb 229) 43 = .ok (.invokevirtual 333, 3) := by decide +kernel
theorem k229_46 : decode (gb 229) 46 = .ok (.ireturn, 1) := by decide +kernel
/-- CraftHouse.archivedByte(II)I -/
def f229 (p1 : Int32) (p2 : Int32) (μ : Mem) : Option (Mem × Int32) :=
  (f87 p1 μ).bind fun r1 =>
  if r1.2 < 0 then
    some (r1.1, (-1 : Int32))
  else
    if p2 < 0 then
      some (r1.1, (-1 : Int32))
    else
      (f166 15 r1.2 r1.1).bind fun r5 =>
      if p2 < r5.2 then
        (f171 15 r1.2 p2 r5.1).bind fun r8 =>
        some (r8.1, r8.2)
      else
        some (r5.1, (-1 : Int32))
theorem ok229 {L : Nat} (p1 : Int32) (p2 : Int32) (μ : Mem) (res : Mem × Int32) (h : f229 p1 p2 μ = some res) : Mx 229 [.ref 0, .int p1, .int p2] (mk L μ) (mk L res.1, some (.int res.2)) := by
  refine Mx_of ml_229 (by rw [mx_229]; exact Nat.le_of_ble_eq_true rfl) ?_
  show Sx 229 0 [(0, .ref 0), (1, .int p1), (2, .int p2)] [] 0 0 (mk L μ) _
  unfold f229 at h
  refine sx_aload_n (i := 0) k229_0 rfl rfl ?_
  refine cx_getR (k := 5) k229_1 ow_229 fl_11_44 (by decide) sk_0 ft_10_5 sr_0_5 ?_
  refine sx_iload_n (i := 1) k229_4 rfl rfl ?_
  obtain ⟨r1, e2, h⟩ := Option.bind_eq_some_iff.mp h
  refine cx_V (sk := []) (vs := [.int p1]) st_229_87 k229_5 ow_229 cl_11_321 (by decide) rfl (Nat.le_of_ble_eq_true rfl) sk_12 (ok87 p1 _ _ e2) (sk3 := [.int r1.2]) rfl rfl ?_
  refine cx_istore_n (lo2 := [(3, .int r1.2), (0, .ref 0), (1, .int p1), (2, .int p2)]) k229_8 rfl (by rw [mx_229]; decide) rfl ?_
  refine sx_iload_n (i := 3) k229_9 rfl rfl ?_
  by_cases hb3 : r1.2 < 0
  · rw [if_pos hb3] at h
    refine sx_if_lt (tgt := 32) k229_10 (by decide) (fun _ => ?_) (fun q => absurd hb3 q)
    refine sx_iconst (v := -1) k229_32 (by decide) ?_
    exact cx_reti k229_33 rt_229 h
  · rw [if_neg hb3] at h
    refine sx_if_lt (tgt := 32) k229_10 (by decide) (fun q => absurd q hb3) (fun _ => ?_)
    refine sx_iload_n (i := 2) k229_13 rfl rfl ?_
    by_cases hb4 : p2 < 0
    · rw [if_pos hb4] at h
      refine sx_if_lt (tgt := 32) k229_14 (by decide) (fun _ => ?_) (fun q => absurd hb4 q)
      refine sx_iconst (v := -1) k229_32 (by decide) ?_
      exact cx_reti k229_33 rt_229 h
    · rw [if_neg hb4] at h
      refine sx_if_lt (tgt := 32) k229_14 (by decide) (fun q => absurd q hb4) (fun _ => ?_)
      refine sx_iload_n (i := 2) k229_17 rfl rfl ?_
      refine sx_aload_n (i := 0) k229_18 rfl rfl ?_
      refine cx_getR (k := 5) k229_19 ow_229 fl_11_44 (by decide) sk_0 ft_10_5 sr_0_5 ?_
      refine cx_getR (k := 1) k229_22 ow_229 fl_11_324 (by decide) sk_12 ft_2_1 sr_12_1 ?_
      refine sx_iload_n (i := 3) k229_25 rfl rfl ?_
      obtain ⟨r5, e6, h⟩ := Option.bind_eq_some_iff.mp h
      refine cx_V (sk := [.int p2]) (vs := [.int r1.2]) st_229_166 k229_26 ow_229 cl_11_339 (by decide) rfl (Nat.le_of_ble_eq_true rfl) sk_15 (ok166 15 r1.2 sk_15 _ _ e6) (sk3 := [.int r5.2, .int p2]) rfl rfl ?_
      by_cases hb7 : p2 < r5.2
      · rw [if_pos hb7] at h
        refine sx_icmp_lt (tgt := 34) k229_29 (by decide) (fun _ => ?_) (fun q => absurd hb7 q)
        refine sx_aload_n (i := 0) k229_34 rfl rfl ?_
        refine cx_getR (k := 5) k229_35 ow_229 fl_11_44 (by decide) sk_0 ft_10_5 sr_0_5 ?_
        refine cx_getR (k := 1) k229_38 ow_229 fl_11_324 (by decide) sk_12 ft_2_1 sr_12_1 ?_
        refine sx_iload_n (i := 3) k229_41 rfl rfl ?_
        refine sx_iload_n (i := 2) k229_42 rfl rfl ?_
        obtain ⟨r8, e9, h⟩ := Option.bind_eq_some_iff.mp h
        refine cx_V (sk := []) (vs := [.int r1.2, .int p2]) st_229_171 k229_43 ow_229 cl_11_333 (by decide) rfl (Nat.le_of_ble_eq_true rfl) sk_15 (ok171 15 r1.2 p2 sk_15 _ _ e9) (sk3 := [.int r8.2]) rfl rfl ?_
        exact cx_reti k229_46 rt_229 h
      · rw [if_neg hb7] at h
        refine sx_icmp_lt (tgt := 34) k229_29 (by decide) (fun q => absurd q hb7) (fun _ => ?_)
        refine sx_iconst (v := -1) k229_32 (by decide) ?_
        exact cx_reti k229_33 rt_229 h
theorem k230_0 : decode (gb 230) 0 = .ok (.iload_n 1, 1) := by decide +kernel
theorem k230_1 : decode (gb 230) 1 = .ok (.ifCond .lt 9, 3) := by decide +kernel
theorem k230_4 : decode (gb 230) 4 = .ok (.iload_n 1, 1) := by decide +kernel
theorem k230_5 : decode (gb 230) 5 = .ok (.bipush 24, 2) := by decide +kernel
theorem k230_7 : decode (gb 230) 7 = .ok (.if_icmp .lt 5, 3) := by decide +kernel
theorem k230_10 : decode (gb 230) 10 = .ok (.iconst 0, 1) := by decide +kernel
theorem k230_11 : decode (gb 230) 11 = .ok (.ireturn, 1) := by decide +kernel
theorem k230_12 : decode (gb 230) 12 = .ok (.iload_n 2, 1) := by decide +kernel
theorem k230_13 : decode (gb 230) 13 = .ok (.tableswitch 57 0 2 #[27, 37, 47], 27) := by decide +kernel
theorem k230_40 : decode (gb 230) 40 = .ok (.aload_n 0, 1) := by decide +kernel
theorem k230_41 : decode (gb 230) 41 = .ok (.getfield 44, 3) := by decide +kernel
theorem k230_44 : decode (gb 230) 44 = .ok (.getfield 342, 3) := by decide +kernel
theorem k230_47 : decode (gb 230) 47 = .ok (.iload_n 1, 1) := by decide +kernel
theorem k230_48 : decode (gb 230) 48 = .ok (.iaload, 1) := by decide +kernel
theorem k230_49 : decode (gb 230) 49 = .ok (.ireturn, 1) := by decide +kernel
theorem k230_50 : decode (gb 230) 50 = .ok (.aload_n 0, 1) := by decide +kernel
theorem k230_51 : decode (gb 230) 51 = .ok (.getfield 44, 3) := by decide +kernel
theorem k230_54 : decode (gb 230) 54 = .ok (.getfield 346, 3) := by decide +kernel
theorem k230_57 : decode (gb 230) 57 = .ok (.iload_n 1, 1) := by decide +kernel
theorem k230_58 : decode (gb 230) 58 = .ok (.iaload, 1) := by decide +kernel
theorem k230_59 : decode (gb 230) 59 = .ok (.ireturn, 1) := by decide +kernel
theorem k230_60 : decode (gb 230) 60 = .ok (.aload_n 0, 1) := by decide +kernel
theorem k230_61 : decode (gb 230) 61 = .ok (.getfield 44, 3) := by decide +kernel
theorem k230_64 : decode (gb 230) 64 = .ok (.getfield 349, 3) := by decide +kernel
theorem k230_67 : decode (gb 230) 67 = .ok (.iload_n 1, 1) := by decide +kernel
theorem k230_68 : decode (gb 230) 68 = .ok (.iaload, 1) := by decide +kernel
theorem k230_69 : decode (gb 230) 69 = .ok (.ireturn, 1) := by decide +kernel
theorem k230_70 : decode (gb 230) 70 = .ok (.iconst 0, 1) := by decide +kernel
theorem k230_71 : decode (gb 230) 71 = .ok (.ireturn, 1) := by decide +kernel
/-- CraftHouse.shown(II)I -/
def f230 (p1 : Int32) (p2 : Int32) (μ : Mem) : Option (Mem × Int32) :=
  if p1 < 0 then
    some (μ, (0 : Int32))
  else
    if p1 < (24 : Int32) then
      if p2 = (0 : Int32) then
        (ldA 21 p1 μ).bind fun x3 =>
        some (μ, x3)
      else if p2 = (1 : Int32) then
        (ldA 22 p1 μ).bind fun x6 =>
        some (μ, x6)
      else if p2 = (2 : Int32) then
        (ldA 23 p1 μ).bind fun x9 =>
        some (μ, x9)
      else 
        some (μ, (0 : Int32))
    else
      some (μ, (0 : Int32))
theorem ok230 {L : Nat} (p1 : Int32) (p2 : Int32) (μ : Mem) (res : Mem × Int32) (h : f230 p1 p2 μ = some res) : Mx 230 [.ref 0, .int p1, .int p2] (mk L μ) (mk L res.1, some (.int res.2)) := by
  refine Mx_of ml_230 (by rw [mx_230]; exact Nat.le_of_ble_eq_true rfl) ?_
  show Sx 230 0 [(0, .ref 0), (1, .int p1), (2, .int p2)] [] 0 0 (mk L μ) _
  unfold f230 at h
  refine sx_iload_n (i := 1) k230_0 rfl rfl ?_
  by_cases hb1 : p1 < 0
  · rw [if_pos hb1] at h
    refine sx_if_lt (tgt := 10) k230_1 (by decide) (fun _ => ?_) (fun q => absurd hb1 q)
    refine sx_iconst (v := 0) k230_10 (by decide) ?_
    exact cx_reti k230_11 rt_230 h
  · rw [if_neg hb1] at h
    refine sx_if_lt (tgt := 10) k230_1 (by decide) (fun q => absurd q hb1) (fun _ => ?_)
    refine sx_iload_n (i := 1) k230_4 rfl rfl ?_
    refine sx_bipush (v := 24) k230_5 (by decide) ?_
    by_cases hb2 : p1 < (24 : Int32)
    · rw [if_pos hb2] at h
      refine sx_icmp_lt (tgt := 12) k230_7 (by decide) (fun _ => ?_) (fun q => absurd hb2 q)
      refine sx_iload_n (i := 2) k230_12 rfl rfl ?_
      by_cases hb5 : p2 = (0 : Int32)
      · rw [if_pos hb5] at h
        refine sx_tableIn (off := 27) (tgt := 40) k230_13 (by rw [hb5]; decide) (by rw [hb5]; decide) (by rw [hb5]; rfl) (by decide) ?_
        refine sx_aload_n (i := 0) k230_40 rfl rfl ?_
        refine cx_getR (k := 5) k230_41 ow_230 fl_11_44 (by decide) sk_0 ft_10_5 sr_0_5 ?_
        refine cx_getR (k := 2) k230_44 ow_230 fl_11_342 (by decide) sk_12 ft_2_2 sr_12_2 ?_
        refine sx_iload_n (i := 1) k230_47 rfl rfl ?_
        obtain ⟨x3, e4, h⟩ := Option.bind_eq_some_iff.mp h
        refine cx_iald k230_48 sk_21 e4 ?_
        exact cx_reti k230_49 rt_230 h
      · rw [if_neg hb5] at h
        by_cases hb8 : p2 = (1 : Int32)
        · rw [if_pos hb8] at h
          refine sx_tableIn (off := 37) (tgt := 50) k230_13 (by rw [hb8]; decide) (by rw [hb8]; decide) (by rw [hb8]; rfl) (by decide) ?_
          refine sx_aload_n (i := 0) k230_50 rfl rfl ?_
          refine cx_getR (k := 5) k230_51 ow_230 fl_11_44 (by decide) sk_0 ft_10_5 sr_0_5 ?_
          refine cx_getR (k := 3) k230_54 ow_230 fl_11_346 (by decide) sk_12 ft_2_3 sr_12_3 ?_
          refine sx_iload_n (i := 1) k230_57 rfl rfl ?_
          obtain ⟨x6, e7, h⟩ := Option.bind_eq_some_iff.mp h
          refine cx_iald k230_58 sk_22 e7 ?_
          exact cx_reti k230_59 rt_230 h
        · rw [if_neg hb8] at h
          by_cases hb11 : p2 = (2 : Int32)
          · rw [if_pos hb11] at h
            refine sx_tableIn (off := 47) (tgt := 60) k230_13 (by rw [hb11]; decide) (by rw [hb11]; decide) (by rw [hb11]; rfl) (by decide) ?_
            refine sx_aload_n (i := 0) k230_60 rfl rfl ?_
            refine cx_getR (k := 5) k230_61 ow_230 fl_11_44 (by decide) sk_0 ft_10_5 sr_0_5 ?_
            refine cx_getR (k := 4) k230_64 ow_230 fl_11_349 (by decide) sk_12 ft_2_4 sr_12_4 ?_
            refine sx_iload_n (i := 1) k230_67 rfl rfl ?_
            obtain ⟨x9, e10, h⟩ := Option.bind_eq_some_iff.mp h
            refine cx_iald k230_68 sk_23 e10 ?_
            exact cx_reti k230_69 rt_230 h
          · rw [if_neg hb11] at h
            refine sx_tableOut (tgt := 70) k230_13 (sw_out (n := 3) (fun j hj => ?_)) (by decide) ?_
            · intro hj2
              exact sw_no [(0 : Int32), (1 : Int32), (2 : Int32)] (by decide) hj hj2 ⟨hb5, hb8, hb11, trivial⟩
            ·
              refine sx_iconst (v := 0) k230_70 (by decide) ?_
              exact cx_reti k230_71 rt_230 h
    · rw [if_neg hb2] at h
      refine sx_icmp_lt (tgt := 12) k230_7 (by decide) (fun q => absurd q hb2) (fun _ => ?_)
      refine sx_iconst (v := 0) k230_10 (by decide) ?_
      exact cx_reti k230_11 rt_230 h
theorem k231_0 : decode (gb 231) 0 = .ok (.iload_n 1, 1) := by decide +kernel
theorem k231_1 : decode (gb 231) 1 = .ok (.ifCond .lt 10, 3) := by decide +kernel
theorem k231_4 : decode (gb 231) 4 = .ok (.iload_n 1, 1) := by decide +kernel
theorem k231_5 : decode (gb 231) 5 = .ok (.sipush 200, 3) := by decide +kernel
theorem k231_8 : decode (gb 231) 8 = .ok (.if_icmp .le 5, 3) := by decide +kernel
theorem k231_11 : decode (gb 231) 11 = .ok (.iconst (-1), 1) := by decide +kernel
theorem k231_12 : decode (gb 231) 12 = .ok (.ireturn, 1) := by decide +kernel
theorem k231_13 : decode (gb 231) 13 = .ok (.iconst 0, 1) := by decide +kernel
theorem k231_14 : decode (gb 231) 14 = .ok (.istore_n 2, 1) := by decide +kernel
theorem k231_15 : decode (gb 231) 15 = .ok (.iload_n 2, 1) := by decide +kernel
theorem k231_16 : decode (gb 231) 16 = .ok (.iload_n 1, 1) := by decide +kernel
theorem k231_17 : decode (gb 231) 17 = .ok (.if_icmp .ge 98, 3) := by decide +kernel
theorem k231_20 : decode (gb 231) 20 = .ok (.aload_n 0, 1) := by decide +kernel
theorem k231_21 : decode (gb 231) 21 = .ok (.getfield 75, 3) := by decide +kernel
theorem k231_24 : decode (gb 231) 24 = .ok (.dup, 1) := by decide +kernel
theorem k231_25 : decode (gb 231) 25 = .ok (.getfield 352, 3) := by decide +kernel
theorem k231_28 : decode (gb 231) 28 = .ok (.iconst 1, 1) := by decide +kernel
theorem k231_29 : decode (gb 231) 29 = .ok (.iadd, 1) := by decide +kernel
theorem k231_30 : decode (gb 231) 30 = .ok (.putfield 352, 3) := by decide +kernel
theorem k231_33 : decode (gb 231) 33 = .ok (.aload_n 0, 1) := by decide +kernel
theorem k231_34 : decode (gb 231) 34 = .ok (.getfield 84, 3) := by decide +kernel
theorem k231_37 : decode (gb 231) 37 = .ok (.invokevirtual 355, 3) := by decide +kernel
theorem k231_40 : decode (gb 231) 40 = .ok (.aload_n 0, 1) := by decide +kernel
theorem k231_41 : decode (gb 231) 41 = .ok (.getfield 84, 3) := by decide +kernel
theorem k231_44 : decode (gb 231) 44 = .ok (.invokevirtual 358, 3) := by decide +kernel
theorem k231_47 : decode (gb 231) 47 = .ok (.aload_n 0, 1) := by decide +kernel
theorem k231_48 : decode (gb 231) 48 = .ok (.getfield 84, 3) := by decide +kernel
theorem k231_51 : decode (gb 231) 51 = .ok (.invokevirtual 361, 3) := by decide +kernel
theorem k231_54 : decode (gb 231) 54 = .ok (.aload_n 0, 1) := by decide +kernel
theorem k231_55 : decode (gb 231) 55 = .ok (.getfield 84, 3) := by decide +kernel
theorem k231_58 : decode (gb 231) 58 = .ok (.invokevirtual 364, 3) := by decide +kernel
theorem k231_61 : decode (gb 231) 61 = .ok (.aload_n 0, 1) := by decide +kernel
theorem k231_62 : decode (gb 231) 62 = .ok (.getfield 75, 3) := by decide +kernel
theorem k231_65 : decode (gb 231) 65 = .ok (.aload_n 0, 1) := by decide +kernel
theorem k231_66 : decode (gb 231) 66 = .ok (.getfield 37, 3) := by decide +kernel
theorem k231_69 : decode (gb 231) 69 = .ok (.invokevirtual 367, 3) := by decide +kernel
theorem k231_72 : decode (gb 231) 72 = .ok (.aload_n 0, 1) := by decide +kernel
theorem k231_73 : decode (gb 231) 73 = .ok (.getfield 37, 3) := by decide +kernel
theorem k231_76 : decode (gb 231) 76 = .ok (.getfield 370, 3) := by decide +kernel
theorem k231_79 : decode (gb 231) 79 = .ok (.invokevirtual 371, 3) := by decide +kernel
theorem k231_82 : decode (gb 231) 82 = .ok (.aload_n 0, 1) := by decide +kernel
theorem k231_83 : decode (gb 231) 83 = .ok (.getfield 57, 3) := by decide +kernel
theorem k231_86 : decode (gb 231) 86 = .ok (.invokevirtual 374, 3) := by decide +kernel
theorem k231_89 : decode (gb 231) 89 = .ok (.ifCond .eq 20, 3) := by decide +kernel
theorem k231_92 : decode (gb 231) 92 = .ok (.aload_n 0, 1) := by decide +kernel
theorem k231_93 : decode (gb 231) 93 = .ok (.getfield 57, 3) := by decide +kernel
theorem k231_96 : decode (gb 231) 96 = .ok (.invokevirtual 377, 3) := by decide +kernel
theorem k231_99 : decode (gb 231) 99 = .ok (.ifCond .eq 10, 3) := by decide +kernel
theorem k231_102 : decode (gb 231) 102 = .ok (.aload_n 0, 1) := by decide +kernel
theorem k231_103 : decode (gb 231) 103 = .ok (.getfield 57, 3) := by decide +kernel
theorem k231_106 : decode (gb 231) 106 = .ok (.invokevirtual 222, 3) := by decide +kernel
theorem k231_109 : decode (gb 231) 109 = .ok (.iinc 2 1, 3) := by decide +kernel
theorem k231_112 : decode (gb 231) 112 = .ok (.goto (-97), 3) := by decide +kernel
theorem k231_115 : decode (gb 231) 115 = .ok (.aload_n 0, 1) := by decide +kernel
theorem k231_116 : decode (gb 231) 116 = .ok (.getfield 75, 3) := by decide +kernel
theorem k231_119 : decode (gb 231) 119 = .ok (.getfield 352, 3) := by decide +kernel
theorem k231_122 : decode (gb 231) 122 = .ok (.ireturn, 1) := by decide +kernel
def c231_109 (kl15 : Int32 → Int32 → Mem → Option (Mem × Int32)) (v1 : Int32) (v2 : Int32) (μ : Mem) : Option (Mem × Int32) :=
  nm (v2 + (1 : Int32)) fun x1 =>
  kl15 v1 x1 μ
theorem c231_109_ok {L : Nat} (kl15 : Int32 → Int32 → Mem → Option (Mem × Int32)) (hk15 : (∀ (v1 : Int32) (v2 : Int32) (μ : Mem) (res : Mem × Int32), kl15 v1 v2 μ = some res → Sx 231 15 [(0, .ref 0), (1, .int v1), (2, .int v2)] [] 0 0 (mk L μ) (mk L res.1, some (.int res.2)))) (v1 : Int32) (v2 : Int32) (μ : Mem) (res : Mem × Int32) (h : c231_109 kl15 v1 v2 μ = some res) : Sx 231 109 [(0, .ref 0), (1, .int v1), (2, .int v2)] [] 0 0 (mk L μ) (mk L res.1, some (.int res.2)) := by
  unfold c231_109 at h
  refine cx_iinc (c := 1) (lo2 := fun x1 => [(2, .int x1), (0, .ref 0), (1, .int v1)]) k231_109 rfl (by decide) (by rw [mx_231]; decide) (fun _ => rfl) h (fun x1 h => ?_)
  refine sx_goto (tgt := 15) k231_112 (by decide) ?_
  refine sx_pick (lo2 := [(0, .ref 0), (1, .int v1), (2, .int x1)]) [1, 2, 0] rfl ?_
  exact hk15 v1 x1 _ _ h
def b231_15 (kl15 : Int32 → Int32 → Mem → Option (Mem × Int32)) (v1 : Int32) (v2 : Int32) (μ : Mem) : Option (Mem × Int32) :=
  if v1 ≤ v2 then
    some (μ, (μ.1 57 12))
  else
    (pfI 57 12 ((μ.1 57 12) + (1 : Int32)) μ).bind fun m2 =>
    (f51 m2).bind fun r4 =>
    (f38 r4).bind fun r6 =>
    (f48 r6).bind fun r8 =>
    (f16 r8).bind fun r10 =>
    (f195 r10).bind fun r12 =>
    (f121 r12.2 (r12.1.1 9 11) r12.1).bind fun r14 =>
    (f148 r14).bind fun r16 =>
    if r16.2 = 0 then
      c231_109 kl15 v1 v2 r16.1
    else
      (f149 r16.1).bind fun r19 =>
      if r19.2 = 0 then
        c231_109 kl15 v1 v2 r19.1
      else
        (f135 r19.1).bind fun r22 =>
        c231_109 kl15 v1 v2 r22
theorem b231_15_ok {L : Nat} (kl15 : Int32 → Int32 → Mem → Option (Mem × Int32)) (hk15 : (∀ (v1 : Int32) (v2 : Int32) (μ : Mem) (res : Mem × Int32), kl15 v1 v2 μ = some res → Sx 231 15 [(0, .ref 0), (1, .int v1), (2, .int v2)] [] 0 0 (mk L μ) (mk L res.1, some (.int res.2)))) (v1 : Int32) (v2 : Int32) (μ : Mem) (res : Mem × Int32) (h : b231_15 kl15 v1 v2 μ = some res) : Sx 231 15 [(0, .ref 0), (1, .int v1), (2, .int v2)] [] 0 0 (mk L μ) (mk L res.1, some (.int res.2)) := by
  unfold b231_15 at h
  refine sx_iload_n (i := 2) k231_15 rfl rfl ?_
  refine sx_iload_n (i := 1) k231_16 rfl rfl ?_
  by_cases hb1 : v1 ≤ v2
  · rw [if_pos hb1] at h
    refine sx_icmp_ge (tgt := 115) k231_17 (by decide) (fun _ => ?_) (fun q => absurd hb1 q)
    refine sx_aload_n (i := 0) k231_115 rfl rfl ?_
    refine cx_getR (k := 8) k231_116 ow_231 fl_11_75 (by decide) sk_0 ft_10_8 sr_0_8 ?_
    refine cx_getI (k := 12) k231_119 ow_231 fl_11_352 (by decide) sk_57 ft_5_12 ?_
    exact cx_reti k231_122 rt_231 h
  · rw [if_neg hb1] at h
    refine sx_icmp_ge (tgt := 115) k231_17 (by decide) (fun q => absurd q hb1) (fun _ => ?_)
    refine sx_aload_n (i := 0) k231_20 rfl rfl ?_
    refine cx_getR (k := 8) k231_21 ow_231 fl_11_75 (by decide) sk_0 ft_10_8 sr_0_8 ?_
    refine sx_dup k231_24 rfl ?_
    refine cx_getI (k := 12) k231_25 ow_231 fl_11_352 (by decide) sk_57 ft_5_12 ?_
    refine sx_iconst (v := 1) k231_28 (by decide) ?_
    refine sx_iadd k231_29 ?_
    obtain ⟨m2, e3, h⟩ := Option.bind_eq_some_iff.mp h
    refine cx_putI (k := 12) k231_30 ow_231 fl_11_352 (by decide) sk_57 nf_5_12 fu_5_12 e3 ?_
    refine sx_aload_n (i := 0) k231_33 rfl rfl ?_
    refine cx_getR (k := 9) k231_34 ow_231 fl_11_84 (by decide) sk_0 ft_10_9 sr_0_9 ?_
    obtain ⟨r4, e5, h⟩ := Option.bind_eq_some_iff.mp h
    refine cx_V (sk := []) (vs := []) st_231_51 k231_37 ow_231 cl_11_355 (by decide) rfl (Nat.le_of_ble_eq_true rfl) sk_101 (ok51 _ _ e5) (sk3 := []) rfl rfl ?_
    refine sx_aload_n (i := 0) k231_40 rfl rfl ?_
    refine cx_getR (k := 9) k231_41 ow_231 fl_11_84 (by decide) sk_0 ft_10_9 sr_0_9 ?_
    obtain ⟨r6, e7, h⟩ := Option.bind_eq_some_iff.mp h
    refine cx_V (sk := []) (vs := []) st_231_38 k231_44 ow_231 cl_11_358 (by decide) rfl (Nat.le_of_ble_eq_true rfl) sk_101 (ok38 _ _ e7) (sk3 := []) rfl rfl ?_
    refine sx_aload_n (i := 0) k231_47 rfl rfl ?_
    refine cx_getR (k := 9) k231_48 ow_231 fl_11_84 (by decide) sk_0 ft_10_9 sr_0_9 ?_
    obtain ⟨r8, e9, h⟩ := Option.bind_eq_some_iff.mp h
    refine cx_V (sk := []) (vs := []) st_231_48 k231_51 ow_231 cl_11_361 (by decide) rfl (Nat.le_of_ble_eq_true rfl) sk_101 (ok48 _ _ e9) (sk3 := []) rfl rfl ?_
    refine sx_aload_n (i := 0) k231_54 rfl rfl ?_
    refine cx_getR (k := 9) k231_55 ow_231 fl_11_84 (by decide) sk_0 ft_10_9 sr_0_9 ?_
    obtain ⟨r10, e11, h⟩ := Option.bind_eq_some_iff.mp h
    refine cx_V (sk := []) (vs := []) st_231_16 k231_58 ow_231 cl_11_364 (by decide) rfl (Nat.le_of_ble_eq_true rfl) sk_101 (ok16 _ _ e11) (sk3 := []) rfl rfl ?_
    refine sx_aload_n (i := 0) k231_61 rfl rfl ?_
    refine cx_getR (k := 8) k231_62 ow_231 fl_11_75 (by decide) sk_0 ft_10_8 sr_0_8 ?_
    refine sx_aload_n (i := 0) k231_65 rfl rfl ?_
    refine cx_getR (k := 4) k231_66 ow_231 fl_11_37 (by decide) sk_0 ft_10_4 sr_0_4 ?_
    obtain ⟨r12, e13, h⟩ := Option.bind_eq_some_iff.mp h
    refine cx_V (sk := [.ref 57]) (vs := []) st_231_195 k231_69 ow_231 cl_11_367 (by decide) rfl (Nat.le_of_ble_eq_true rfl) sk_9 (ok195 _ _ e13) (sk3 := [.int r12.2, .ref 57]) rfl rfl ?_
    refine sx_aload_n (i := 0) k231_72 rfl rfl ?_
    refine cx_getR (k := 4) k231_73 ow_231 fl_11_37 (by decide) sk_0 ft_10_4 sr_0_4 ?_
    refine cx_getI (k := 11) k231_76 ow_231 fl_11_370 (by decide) sk_9 ft_9_11 ?_
    obtain ⟨r14, e15, h⟩ := Option.bind_eq_some_iff.mp h
    refine cx_V (sk := []) (vs := [.int r12.2, .int (r12.1.1 9 11)]) st_231_121 k231_79 ow_231 cl_11_371 (by decide) rfl (Nat.le_of_ble_eq_true rfl) sk_57 (ok121 r12.2 (r12.1.1 9 11) _ _ e15) (sk3 := []) rfl rfl ?_
    refine sx_aload_n (i := 0) k231_82 rfl rfl ?_
    refine cx_getR (k := 6) k231_83 ow_231 fl_11_57 (by decide) sk_0 ft_10_6 sr_0_6 ?_
    obtain ⟨r16, e17, h⟩ := Option.bind_eq_some_iff.mp h
    refine cx_V (sk := []) (vs := []) st_231_148 k231_86 ow_231 cl_11_374 (by decide) rfl (Nat.le_of_ble_eq_true rfl) sk_28 (ok148 _ _ e17) (sk3 := [.int r16.2]) rfl rfl ?_
    by_cases hb18 : r16.2 = 0
    · rw [if_pos hb18] at h
      refine sx_if_eq (tgt := 109) k231_89 (by decide) (fun _ => ?_) (fun q => absurd hb18 q)
      refine sx_pick (lo2 := [(0, .ref 0), (1, .int v1), (2, .int v2)]) [0, 1, 2] rfl ?_
      exact c231_109_ok kl15 hk15 v1 v2 _ _ h
    · rw [if_neg hb18] at h
      refine sx_if_eq (tgt := 109) k231_89 (by decide) (fun q => absurd q hb18) (fun _ => ?_)
      refine sx_aload_n (i := 0) k231_92 rfl rfl ?_
      refine cx_getR (k := 6) k231_93 ow_231 fl_11_57 (by decide) sk_0 ft_10_6 sr_0_6 ?_
      obtain ⟨r19, e20, h⟩ := Option.bind_eq_some_iff.mp h
      refine cx_V (sk := []) (vs := []) st_231_149 k231_96 ow_231 cl_11_377 (by decide) rfl (Nat.le_of_ble_eq_true rfl) sk_28 (ok149 _ _ e20) (sk3 := [.int r19.2]) rfl rfl ?_
      by_cases hb21 : r19.2 = 0
      · rw [if_pos hb21] at h
        refine sx_if_eq (tgt := 109) k231_99 (by decide) (fun _ => ?_) (fun q => absurd hb21 q)
        refine sx_pick (lo2 := [(0, .ref 0), (1, .int v1), (2, .int v2)]) [0, 1, 2] rfl ?_
        exact c231_109_ok kl15 hk15 v1 v2 _ _ h
      · rw [if_neg hb21] at h
        refine sx_if_eq (tgt := 109) k231_99 (by decide) (fun q => absurd q hb21) (fun _ => ?_)
        refine sx_aload_n (i := 0) k231_102 rfl rfl ?_
        refine cx_getR (k := 6) k231_103 ow_231 fl_11_57 (by decide) sk_0 ft_10_6 sr_0_6 ?_
        obtain ⟨r22, e23, h⟩ := Option.bind_eq_some_iff.mp h
        refine cx_V (sk := []) (vs := []) st_231_135 k231_106 ow_231 cl_11_222 (by decide) rfl (Nat.le_of_ble_eq_true rfl) sk_28 (ok135 _ _ e23) (sk3 := []) rfl rfl ?_
        refine sx_pick (lo2 := [(0, .ref 0), (1, .int v1), (2, .int v2)]) [0, 1, 2] rfl ?_
        exact c231_109_ok kl15 hk15 v1 v2 _ _ h
def l231_15 : Nat → Int32 × Int32 × Mem → Option (Mem × Int32) :=
  fixN (fun self x => b231_15 (fun v1 v2 μ => self (v1, v2, μ)) (x.1) (x.2.1) (x.2.2))
theorem l231_15_ok {L : Nat} (n : Nat) (v1 : Int32) (v2 : Int32) (μ : Mem) (res : Mem × Int32) (h : l231_15 n (v1, v2, μ) = some res) : Sx 231 15 [(0, .ref 0), (1, .int v1), (2, .int v2)] [] 0 0 (mk L μ) (mk L res.1, some (.int res.2)) := by
  have key := fixN_ind (P := fun x res => Sx 231 15 [(0, .ref 0), (1, .int (x.1)), (2, .int (x.2.1))] [] 0 0 (mk L (x.2.2)) (mk L res.1, some (.int res.2))) (F := fun self x => b231_15 (fun v1 v2 μ => self (v1, v2, μ)) (x.1) (x.2.1) (x.2.2)) (fun self hself x res h => b231_15_ok (fun v1 v2 μ => self (v1, v2, μ)) (fun v1 v2 μ res hh => hself (v1, v2, μ) res hh) (x.1) (x.2.1) (x.2.2) res h) n (v1, v2, μ) res h
  exact key
/-- CraftHouse.tick(I)I -/
def f231 (p1 : Int32) (μ : Mem) : Option (Mem × Int32) :=
  if p1 < 0 then
    some (μ, (-1 : Int32))
  else
    if p1 ≤ (200 : Int32) then
      l231_15 gF (p1, (0 : Int32), μ)
    else
      some (μ, (-1 : Int32))
theorem ok231 {L : Nat} (p1 : Int32) (μ : Mem) (res : Mem × Int32) (h : f231 p1 μ = some res) : Mx 231 [.ref 0, .int p1] (mk L μ) (mk L res.1, some (.int res.2)) := by
  refine Mx_of ml_231 (by rw [mx_231]; exact Nat.le_of_ble_eq_true rfl) ?_
  show Sx 231 0 [(0, .ref 0), (1, .int p1)] [] 0 0 (mk L μ) _
  unfold f231 at h
  refine sx_iload_n (i := 1) k231_0 rfl rfl ?_
  by_cases hb1 : p1 < 0
  · rw [if_pos hb1] at h
    refine sx_if_lt (tgt := 11) k231_1 (by decide) (fun _ => ?_) (fun q => absurd hb1 q)
    refine sx_iconst (v := -1) k231_11 (by decide) ?_
    exact cx_reti k231_12 rt_231 h
  · rw [if_neg hb1] at h
    refine sx_if_lt (tgt := 11) k231_1 (by decide) (fun q => absurd q hb1) (fun _ => ?_)
    refine sx_iload_n (i := 1) k231_4 rfl rfl ?_
    refine sx_sipush (v := 200) k231_5 (by decide) ?_
    by_cases hb2 : p1 ≤ (200 : Int32)
    · rw [if_pos hb2] at h
      refine sx_icmp_le (tgt := 13) k231_8 (by decide) (fun _ => ?_) (fun q => absurd hb2 q)
      refine sx_iconst (v := 0) k231_13 (by decide) ?_
      refine cx_istore_n (lo2 := [(2, .int (0 : Int32)), (0, .ref 0), (1, .int p1)]) k231_14 rfl (by rw [mx_231]; decide) rfl ?_
      refine sx_pick (lo2 := [(0, .ref 0), (1, .int p1), (2, .int (0 : Int32))]) [1, 2, 0] rfl ?_
      exact l231_15_ok gF p1 (0 : Int32) _ _ h
    · rw [if_neg hb2] at h
      refine sx_icmp_le (tgt := 13) k231_8 (by decide) (fun q => absurd q hb2) (fun _ => ?_)
      refine sx_iconst (v := -1) k231_11 (by decide) ?_
      exact cx_reti k231_12 rt_231 h
theorem k232_0 : decode (gb 232) 0 = .ok (.iload_n 1, 1) := by decide +kernel
theorem k232_1 : decode (gb 232) 1 = .ok (.ifCond .lt 9, 3) := by decide +kernel
theorem k232_4 : decode (gb 232) 4 = .ok (.iload_n 1, 1) := by decide +kernel
theorem k232_5 : decode (gb 232) 5 = .ok (.bipush 15, 2) := by decide +kernel
theorem k232_7 : decode (gb 232) 7 = .ok (.if_icmp .le 5, 3) := by decide +kernel
theorem k232_10 : decode (gb 232) 10 = .ok (.iconst 0, 1) := by decide +kernel
theorem k232_11 : decode (gb 232) 11 = .ok (.ireturn, 1) := by decide +kernel
theorem k232_12 : decode (gb 232) 12 = .ok (.aload_n 0, 1) := by decide +kernel
theorem k232_13 : decode (gb 232) 13 = .ok (.getfield 84, 3) := by decide +kernel
theorem k232_16 : decode (gb 232) 16 = .ok (.getfield 380, 3) := by decide +kernel
theorem k232_19 : decode (gb 232) 19 = .ok (.iload_n 1, 1) := by decide +kernel
theorem k232_20 : decode (gb 232) 20 = .ok (.iaload, 1) := by decide +kernel
theorem k232_21 : decode (gb 232) 21 = .ok (.istore_n 3, 1) := by decide +kernel
theorem k232_22 : decode (gb 232) 22 = .ok (.aload_n 0, 1) := by decide +kernel
theorem k232_23 : decode (gb 232) 23 = .ok (.getfield 84, 3) := by decide +kernel
theorem k232_26 : decode (gb 232) 26 = .ok (.getfield 380, 3) := by decide +kernel
theorem k232_29 : decode (gb 232) 29 = .ok (.iload_n 1, 1) := by decide +kernel
theorem k232_30 : decode (gb 232) 30 = .ok (.iload_n 2, 1) := by decide +kernel
theorem k232_31 : decode (gb 232) 31 = .ok (.iastore, 1) := by decide +kernel
theorem k232_32 : decode (gb 232) 32 = .ok (.iload_n 3, 1) := by decide +kernel
theorem k232_33 : decode (gb 232) 33 = .ok (.ireturn, 1) := by decide +kernel
/-- CraftHouse.sense(II)I -/
def f232 (p1 : Int32) (p2 : Int32) (μ : Mem) : Option (Mem × Int32) :=
  if p1 < 0 then
    some (μ, (0 : Int32))
  else
    if p1 ≤ (15 : Int32) then
      (ldA 124 p1 μ).bind fun x3 =>
      (stA 124 p1 p2 μ).bind fun m5 =>
      some (m5, x3)
    else
      some (μ, (0 : Int32))
theorem ok232 {L : Nat} (p1 : Int32) (p2 : Int32) (μ : Mem) (res : Mem × Int32) (h : f232 p1 p2 μ = some res) : Mx 232 [.ref 0, .int p1, .int p2] (mk L μ) (mk L res.1, some (.int res.2)) := by
  refine Mx_of ml_232 (by rw [mx_232]; exact Nat.le_of_ble_eq_true rfl) ?_
  show Sx 232 0 [(0, .ref 0), (1, .int p1), (2, .int p2)] [] 0 0 (mk L μ) _
  unfold f232 at h
  refine sx_iload_n (i := 1) k232_0 rfl rfl ?_
  by_cases hb1 : p1 < 0
  · rw [if_pos hb1] at h
    refine sx_if_lt (tgt := 10) k232_1 (by decide) (fun _ => ?_) (fun q => absurd hb1 q)
    refine sx_iconst (v := 0) k232_10 (by decide) ?_
    exact cx_reti k232_11 rt_232 h
  · rw [if_neg hb1] at h
    refine sx_if_lt (tgt := 10) k232_1 (by decide) (fun q => absurd q hb1) (fun _ => ?_)
    refine sx_iload_n (i := 1) k232_4 rfl rfl ?_
    refine sx_bipush (v := 15) k232_5 (by decide) ?_
    by_cases hb2 : p1 ≤ (15 : Int32)
    · rw [if_pos hb2] at h
      refine sx_icmp_le (tgt := 12) k232_7 (by decide) (fun _ => ?_) (fun q => absurd hb2 q)
      refine sx_aload_n (i := 0) k232_12 rfl rfl ?_
      refine cx_getR (k := 9) k232_13 ow_232 fl_11_84 (by decide) sk_0 ft_10_9 sr_0_9 ?_
      refine cx_getR (k := 7) k232_16 ow_232 fl_11_380 (by decide) sk_101 ft_0_7 sr_101_7 ?_
      refine sx_iload_n (i := 1) k232_19 rfl rfl ?_
      obtain ⟨x3, e4, h⟩ := Option.bind_eq_some_iff.mp h
      refine cx_iald k232_20 sk_124 e4 ?_
      refine cx_istore_n (lo2 := [(3, .int x3), (0, .ref 0), (1, .int p1), (2, .int p2)]) k232_21 rfl (by rw [mx_232]; decide) rfl ?_
      refine sx_aload_n (i := 0) k232_22 rfl rfl ?_
      refine cx_getR (k := 9) k232_23 ow_232 fl_11_84 (by decide) sk_0 ft_10_9 sr_0_9 ?_
      refine cx_getR (k := 7) k232_26 ow_232 fl_11_380 (by decide) sk_101 ft_0_7 sr_101_7 ?_
      refine sx_iload_n (i := 1) k232_29 rfl rfl ?_
      refine sx_iload_n (i := 2) k232_30 rfl rfl ?_
      obtain ⟨m5, e6, h⟩ := Option.bind_eq_some_iff.mp h
      refine cx_iast k232_31 sk_124 e6 ?_
      refine sx_iload_n (i := 3) k232_32 rfl rfl ?_
      exact cx_reti k232_33 rt_232 h
    · rw [if_neg hb2] at h
      refine sx_icmp_le (tgt := 12) k232_7 (by decide) (fun q => absurd q hb2) (fun _ => ?_)
      refine sx_iconst (v := 0) k232_10 (by decide) ?_
      exact cx_reti k232_11 rt_232 h
theorem k233_0 : decode (gb 233) 0 = .ok (.iload_n 1, 1) := by decide +kernel
theorem k233_1 : decode (gb 233) 1 = .ok (.ifCond .lt 9, 3) := by decide +kernel
theorem k233_4 : decode (gb 233) 4 = .ok (.iload_n 1, 1) := by decide +kernel
theorem k233_5 : decode (gb 233) 5 = .ok (.bipush 24, 2) := by decide +kernel
theorem k233_7 : decode (gb 233) 7 = .ok (.if_icmp .lt 7, 3) := by decide +kernel
theorem k233_10 : decode (gb 233) 10 = .ok (.iconst 0, 1) := by decide +kernel
theorem k233_11 : decode (gb 233) 11 = .ok (.goto 11, 3) := by decide +kernel
theorem k233_14 : decode (gb 233) 14 = .ok (.aload_n 0, 1) := by decide +kernel
theorem k233_15 : decode (gb 233) 15 = .ok (.getfield 84, 3) := by decide +kernel
theorem k233_18 : decode (gb 233) 18 = .ok (.iload_n 1, 1) := by decide +kernel
theorem k233_19 : decode (gb 233) 19 = .ok (.invokevirtual 383, 3) := by decide +kernel
theorem k233_22 : decode (gb 233) 22 = .ok (.ireturn, 1) := by decide +kernel
def c233_10 (μ : Mem) : Option (Mem × Int32) :=
  some (μ, (0 : Int32))
theorem c233_10_ok {L : Nat} (μ : Mem) (res : Mem × Int32) (h : c233_10 μ = some res) : Sx 233 10 [] [] 0 0 (mk L μ) (mk L res.1, some (.int res.2)) := by
  unfold c233_10 at h
  refine sx_iconst (v := 0) k233_10 (by decide) ?_
  refine sx_goto (tgt := 22) k233_11 (by decide) ?_
  exact cx_reti k233_22 rt_233 h
/-- CraftHouse.parameter(I)I -/
def f233 (p1 : Int32) (μ : Mem) : Option (Mem × Int32) :=
  if p1 < 0 then
    c233_10 μ
  else
    if p1 < (24 : Int32) then
      (f6 p1 μ).bind fun r3 =>
      some (r3.1, r3.2)
    else
      c233_10 μ
theorem ok233 {L : Nat} (p1 : Int32) (μ : Mem) (res : Mem × Int32) (h : f233 p1 μ = some res) : Mx 233 [.ref 0, .int p1] (mk L μ) (mk L res.1, some (.int res.2)) := by
  refine Mx_of ml_233 (by rw [mx_233]; exact Nat.le_of_ble_eq_true rfl) ?_
  show Sx 233 0 [(0, .ref 0), (1, .int p1)] [] 0 0 (mk L μ) _
  unfold f233 at h
  refine sx_iload_n (i := 1) k233_0 rfl rfl ?_
  by_cases hb1 : p1 < 0
  · rw [if_pos hb1] at h
    refine sx_if_lt (tgt := 10) k233_1 (by decide) (fun _ => ?_) (fun q => absurd hb1 q)
    refine sx_pick (lo2 := []) [] rfl ?_
    exact c233_10_ok _ _ h
  · rw [if_neg hb1] at h
    refine sx_if_lt (tgt := 10) k233_1 (by decide) (fun q => absurd q hb1) (fun _ => ?_)
    refine sx_iload_n (i := 1) k233_4 rfl rfl ?_
    refine sx_bipush (v := 24) k233_5 (by decide) ?_
    by_cases hb2 : p1 < (24 : Int32)
    · rw [if_pos hb2] at h
      refine sx_icmp_lt (tgt := 14) k233_7 (by decide) (fun _ => ?_) (fun q => absurd hb2 q)
      refine sx_aload_n (i := 0) k233_14 rfl rfl ?_
      refine cx_getR (k := 9) k233_15 ow_233 fl_11_84 (by decide) sk_0 ft_10_9 sr_0_9 ?_
      refine sx_iload_n (i := 1) k233_18 rfl rfl ?_
      obtain ⟨r3, e4, h⟩ := Option.bind_eq_some_iff.mp h
      refine cx_V (sk := []) (vs := [.int p1]) st_233_6 k233_19 ow_233 cl_11_383 (by decide) rfl (Nat.le_of_ble_eq_true rfl) sk_101 (ok6 p1 _ _ e4) (sk3 := [.int r3.2]) rfl rfl ?_
      exact cx_reti k233_22 rt_233 h
    · rw [if_neg hb2] at h
      refine sx_icmp_lt (tgt := 14) k233_7 (by decide) (fun q => absurd q hb2) (fun _ => ?_)
      refine sx_pick (lo2 := []) [] rfl ?_
      exact c233_10_ok _ _ h
theorem k234_0 : decode (gb 234) 0 = .ok (.iload_n 1, 1) := by decide +kernel
theorem k234_1 : decode (gb 234) 1 = .ok (.ifCond .lt 10, 3) := by decide +kernel
theorem k234_4 : decode (gb 234) 4 = .ok (.iload_n 1, 1) := by decide +kernel
theorem k234_5 : decode (gb 234) 5 = .ok (.sipush 1024, 3) := by decide +kernel
theorem k234_8 : decode (gb 234) 8 = .ok (.if_icmp .lt 7, 3) := by decide +kernel
theorem k234_11 : decode (gb 234) 11 = .ok (.iconst (-1), 1) := by decide +kernel
theorem k234_12 : decode (gb 234) 12 = .ok (.goto 14, 3) := by decide +kernel
theorem k234_15 : decode (gb 234) 15 = .ok (.aload_n 0, 1) := by decide +kernel
theorem k234_16 : decode (gb 234) 16 = .ok (.getfield 84, 3) := by decide +kernel
theorem k234_19 : decode (gb 234) 19 = .ok (.getfield 386, 3) := by decide +kernel
theorem k234_22 : decode (gb 234) 22 = .ok (.iload_n 1, 1) := by decide +kernel
theorem k234_23 : decode (gb 234) 23 = .ok (.invokevirtual 95, 3) := by decide +kernel
theorem k234_26 : decode (gb 234) 26 = .ok (.ireturn, 1) := by decide +kernel
def c234_11 (μ : Mem) : Option (Mem × Int32) :=
  some (μ, (-1 : Int32))
theorem c234_11_ok {L : Nat} (μ : Mem) (res : Mem × Int32) (h : c234_11 μ = some res) : Sx 234 11 [] [] 0 0 (mk L μ) (mk L res.1, some (.int res.2)) := by
  unfold c234_11 at h
  refine sx_iconst (v := -1) k234_11 (by decide) ?_
  refine sx_goto (tgt := 26) k234_12 (by decide) ?_
  exact cx_reti k234_26 rt_234 h
/-- CraftHouse.memory(I)I -/
def f234 (p1 : Int32) (μ : Mem) : Option (Mem × Int32) :=
  if p1 < 0 then
    c234_11 μ
  else
    if p1 < (1024 : Int32) then
      (f75 127 p1 μ).bind fun r3 =>
      some (r3.1, r3.2)
    else
      c234_11 μ
theorem ok234 {L : Nat} (p1 : Int32) (μ : Mem) (res : Mem × Int32) (h : f234 p1 μ = some res) : Mx 234 [.ref 0, .int p1] (mk L μ) (mk L res.1, some (.int res.2)) := by
  refine Mx_of ml_234 (by rw [mx_234]; exact Nat.le_of_ble_eq_true rfl) ?_
  show Sx 234 0 [(0, .ref 0), (1, .int p1)] [] 0 0 (mk L μ) _
  unfold f234 at h
  refine sx_iload_n (i := 1) k234_0 rfl rfl ?_
  by_cases hb1 : p1 < 0
  · rw [if_pos hb1] at h
    refine sx_if_lt (tgt := 11) k234_1 (by decide) (fun _ => ?_) (fun q => absurd hb1 q)
    refine sx_pick (lo2 := []) [] rfl ?_
    exact c234_11_ok _ _ h
  · rw [if_neg hb1] at h
    refine sx_if_lt (tgt := 11) k234_1 (by decide) (fun q => absurd q hb1) (fun _ => ?_)
    refine sx_iload_n (i := 1) k234_4 rfl rfl ?_
    refine sx_sipush (v := 1024) k234_5 (by decide) ?_
    by_cases hb2 : p1 < (1024 : Int32)
    · rw [if_pos hb2] at h
      refine sx_icmp_lt (tgt := 15) k234_8 (by decide) (fun _ => ?_) (fun q => absurd hb2 q)
      refine sx_aload_n (i := 0) k234_15 rfl rfl ?_
      refine cx_getR (k := 9) k234_16 ow_234 fl_11_84 (by decide) sk_0 ft_10_9 sr_0_9 ?_
      refine cx_getR (k := 10) k234_19 ow_234 fl_11_386 (by decide) sk_101 ft_0_10 sr_101_10 ?_
      refine sx_iload_n (i := 1) k234_22 rfl rfl ?_
      obtain ⟨r3, e4, h⟩ := Option.bind_eq_some_iff.mp h
      refine cx_V (sk := []) (vs := [.int p1]) st_234_75 k234_23 ow_234 cl_11_95 (by decide) rfl (Nat.le_of_ble_eq_true rfl) sk_127 (ok75 127 p1 sk_127 _ _ e4) (sk3 := [.int r3.2]) rfl rfl ?_
      exact cx_reti k234_26 rt_234 h
    · rw [if_neg hb2] at h
      refine sx_icmp_lt (tgt := 15) k234_8 (by decide) (fun q => absurd q hb2) (fun _ => ?_)
      refine sx_pick (lo2 := []) [] rfl ?_
      exact c234_11_ok _ _ h
theorem k235_0 : decode (gb 235) 0 = .ok (.iload_n 1, 1) := by decide +kernel
theorem k235_1 : decode (gb 235) 1 = .ok (.tableswitch 227 0 15 #[79, 87, 95, 103, 111, 119, 127, 138, 149, 160, 168, 184, 195, 203, 211, 219], 79) := by decide +kernel
theorem k235_80 : decode (gb 235) 80 = .ok (.aload_n 0, 1) := by decide +kernel
theorem k235_81 : decode (gb 235) 81 = .ok (.getfield 37, 3) := by decide +kernel
theorem k235_84 : decode (gb 235) 84 = .ok (.getfield 370, 3) := by decide +kernel
theorem k235_87 : decode (gb 235) 87 = .ok (.ireturn, 1) := by decide +kernel
theorem k235_88 : decode (gb 235) 88 = .ok (.aload_n 0, 1) := by decide +kernel
theorem k235_89 : decode (gb 235) 89 = .ok (.getfield 37, 3) := by decide +kernel
theorem k235_92 : decode (gb 235) 92 = .ok (.getfield 389, 3) := by decide +kernel
theorem k235_95 : decode (gb 235) 95 = .ok (.ireturn, 1) := by decide +kernel
theorem k235_96 : decode (gb 235) 96 = .ok (.aload_n 0, 1) := by decide +kernel
theorem k235_97 : decode (gb 235) 97 = .ok (.getfield 37, 3) := by decide +kernel
theorem k235_100 : decode (gb 235) 100 = .ok (.getfield 392, 3) := by decide +kernel
theorem k235_103 : decode (gb 235) 103 = .ok (.ireturn, 1) := by decide +kernel
theorem k235_104 : decode (gb 235) 104 = .ok (.aload_n 0, 1) := by decide +kernel
theorem k235_105 : decode (gb 235) 105 = .ok (.getfield 37, 3) := by decide +kernel
theorem k235_108 : decode (gb 235) 108 = .ok (.getfield 395, 3) := by decide +kernel
theorem k235_111 : decode (gb 235) 111 = .ok (.ireturn, 1) := by decide +kernel
theorem k235_112 : decode (gb 235) 112 = .ok (.aload_n 0, 1) := by decide +kernel
theorem k235_113 : decode (gb 235) 113 = .ok (.getfield 37, 3) := by decide +kernel
theorem k235_116 : decode (gb 235) 116 = .ok (.getfield 398, 3) := by decide +kernel
theorem k235_119 : decode (gb 235) 119 = .ok (.ireturn, 1) := by decide +kernel
theorem k235_120 : decode (gb 235) 120 = .ok (.aload_n 0, 1) := by decide +kernel
theorem k235_121 : decode (gb 235) 121 = .ok (.getfield 37, 3) := by decide +kernel
theorem k235_124 : decode (gb 235) 124 = .ok (.getfield 271, 3) := by decide +kernel
theorem k235_127 : decode (gb 235) 127 = .ok (.ireturn, 1) := by decide +kernel
theorem k235_128 : decode (gb 235) 128 = .ok (.aload_n 0, 1) := by decide +kernel
theorem k235_129 : decode (gb 235) 129 = .ok (.getfield 84, 3) := by decide +kernel
theorem k235_132 : decode (gb 235) 132 = .ok (.getfield 401, 3) := by decide +kernel
theorem k235_135 : decode (gb 235) 135 = .ok (.getfield 404, 3) := by decide +kernel
theorem k235_138 : decode (gb 235) 138 = .ok (.ireturn, 1) := by decide +kernel
theorem k235_139 : decode (gb 235) 139 = .ok (.aload_n 0, 1) := by decide +kernel
theorem k235_140 : decode (gb 235) 140 = .ok (.getfield 75, 3) := by decide +kernel
theorem k235_143 : decode (gb 235) 143 = .ok (.getfield 405, 3) := by decide +kernel
theorem k235_146 : decode (gb 235) 146 = .ok (.getfield 404, 3) := by decide +kernel
theorem k235_149 : decode (gb 235) 149 = .ok (.ireturn, 1) := by decide +kernel
theorem k235_150 : decode (gb 235) 150 = .ok (.aload_n 0, 1) := by decide +kernel
theorem k235_151 : decode (gb 235) 151 = .ok (.getfield 75, 3) := by decide +kernel
theorem k235_154 : decode (gb 235) 154 = .ok (.getfield 408, 3) := by decide +kernel
theorem k235_157 : decode (gb 235) 157 = .ok (.getfield 404, 3) := by decide +kernel
theorem k235_160 : decode (gb 235) 160 = .ok (.ireturn, 1) := by decide +kernel
theorem k235_161 : decode (gb 235) 161 = .ok (.aload_n 0, 1) := by decide +kernel
theorem k235_162 : decode (gb 235) 162 = .ok (.getfield 75, 3) := by decide +kernel
theorem k235_165 : decode (gb 235) 165 = .ok (.getfield 411, 3) := by decide +kernel
theorem k235_168 : decode (gb 235) 168 = .ok (.ireturn, 1) := by decide +kernel
theorem k235_169 : decode (gb 235) 169 = .ok (.aload_n 0, 1) := by decide +kernel
theorem k235_170 : decode (gb 235) 170 = .ok (.getfield 37, 3) := by decide +kernel
theorem k235_173 : decode (gb 235) 173 = .ok (.getfield 414, 3) := by decide +kernel
theorem k235_176 : decode (gb 235) 176 = .ok (.ifCond .eq 7, 3) := by decide +kernel
theorem k235_179 : decode (gb 235) 179 = .ok (.iconst 1, 1) := by decide +kernel
theorem k235_180 : decode (gb 235) 180 = .ok (.goto 4, 3) := by decide +kernel
theorem k235_183 : decode (gb 235) 183 = .ok (.iconst 0, 1) := by decide +kernel
theorem k235_184 : decode (gb 235) 184 = .ok (.ireturn, 1) := by decide +kernel
theorem k235_185 : decode (gb 235) 185 = .ok (.aload_n 0, 1) := by decide +kernel
theorem k235_186 : decode (gb 235) 186 = .ok (.getfield 37, 3) := by decide +kernel
theorem k235_189 : decode (gb 235) 189 = .ok (.getfield 417, 3) := by decide +kernel
theorem k235_192 : decode (gb 235) 192 = .ok (.getfield 88, 3) := by decide +kernel
theorem k235_195 : decode (gb 235) 195 = .ok (.ireturn, 1) := by decide +kernel
theorem k235_196 : decode (gb 235) 196 = .ok (.aload_n 0, 1) := by decide +kernel
theorem k235_197 : decode (gb 235) 197 = .ok (.getfield 37, 3) := by decide +kernel
theorem k235_200 : decode (gb 235) 200 = .ok (.getfield 420, 3) := by decide +kernel
theorem k235_203 : decode (gb 235) 203 = .ok (.ireturn, 1) := by decide +kernel
theorem k235_204 : decode (gb 235) 204 = .ok (.aload_n 0, 1) := by decide +kernel
theorem k235_205 : decode (gb 235) 205 = .ok (.getfield 37, 3) := by decide +kernel
theorem k235_208 : decode (gb 235) 208 = .ok (.getfield 423, 3) := by decide +kernel
theorem k235_211 : decode (gb 235) 211 = .ok (.ireturn, 1) := by decide +kernel
theorem k235_212 : decode (gb 235) 212 = .ok (.aload_n 0, 1) := by decide +kernel
theorem k235_213 : decode (gb 235) 213 = .ok (.getfield 75, 3) := by decide +kernel
theorem k235_216 : decode (gb 235) 216 = .ok (.getfield 426, 3) := by decide +kernel
theorem k235_219 : decode (gb 235) 219 = .ok (.ireturn, 1) := by decide +kernel
theorem k235_220 : decode (gb 235) 220 = .ok (.aload_n 0, 1) := by decide +kernel
theorem k235_221 : decode (gb 235) 221 = .ok (.getfield 37, 3) := by decide +kernel
theorem k235_224 : decode (gb 235) 224 = .ok (.getfield 429, 3) := by decide +kernel
theorem k235_227 : decode (gb 235) 227 = .ok (.ireturn, 1) := by decide +kernel
theorem k235_228 : decode (gb 235) 228 = .ok (.iconst (-1), 1) := by decide +kernel
theorem k235_229 : decode (gb 235) 229 = .ok (.ireturn, 1) := by decide +kernel
/-- CraftHouse.craft(I)I -/
def f235 (p1 : Int32) (μ : Mem) : Option (Mem × Int32) :=
  if p1 = (0 : Int32) then
    some (μ, (μ.1 9 11))
  else if p1 = (1 : Int32) then
    some (μ, (μ.1 9 12))
  else if p1 = (2 : Int32) then
    some (μ, (μ.1 9 13))
  else if p1 = (3 : Int32) then
    some (μ, (μ.1 9 14))
  else if p1 = (4 : Int32) then
    some (μ, (μ.1 9 15))
  else if p1 = (5 : Int32) then
    some (μ, (μ.1 9 16))
  else if p1 = (6 : Int32) then
    some (μ, (μ.1 102 5))
  else if p1 = (7 : Int32) then
    some (μ, (μ.1 75 5))
  else if p1 = (8 : Int32) then
    some (μ, (μ.1 81 5))
  else if p1 = (9 : Int32) then
    some (μ, (μ.1 57 14))
  else if p1 = (10 : Int32) then
    if (μ.1 9 1) = 0 then
      some (μ, (0 : Int32))
    else
      some (μ, (1 : Int32))
  else if p1 = (11 : Int32) then
    some (μ, (μ.1 10 1))
  else if p1 = (12 : Int32) then
    some (μ, (μ.1 9 6))
  else if p1 = (13 : Int32) then
    some (μ, (μ.1 9 7))
  else if p1 = (14 : Int32) then
    some (μ, (μ.1 57 13))
  else if p1 = (15 : Int32) then
    some (μ, (μ.1 9 10))
  else 
    some (μ, (-1 : Int32))
theorem ok235 {L : Nat} (p1 : Int32) (μ : Mem) (res : Mem × Int32) (h : f235 p1 μ = some res) : Mx 235 [.ref 0, .int p1] (mk L μ) (mk L res.1, some (.int res.2)) := by
  refine Mx_of ml_235 (by rw [mx_235]; exact Nat.le_of_ble_eq_true rfl) ?_
  show Sx 235 0 [(0, .ref 0), (1, .int p1)] [] 0 0 (mk L μ) _
  unfold f235 at h
  refine sx_iload_n (i := 1) k235_0 rfl rfl ?_
  by_cases hb1 : p1 = (0 : Int32)
  · rw [if_pos hb1] at h
    refine sx_tableIn (off := 79) (tgt := 80) k235_1 (by rw [hb1]; decide) (by rw [hb1]; decide) (by rw [hb1]; rfl) (by decide) ?_
    refine sx_aload_n (i := 0) k235_80 rfl rfl ?_
    refine cx_getR (k := 4) k235_81 ow_235 fl_11_37 (by decide) sk_0 ft_10_4 sr_0_4 ?_
    refine cx_getI (k := 11) k235_84 ow_235 fl_11_370 (by decide) sk_9 ft_9_11 ?_
    exact cx_reti k235_87 rt_235 h
  · rw [if_neg hb1] at h
    by_cases hb2 : p1 = (1 : Int32)
    · rw [if_pos hb2] at h
      refine sx_tableIn (off := 87) (tgt := 88) k235_1 (by rw [hb2]; decide) (by rw [hb2]; decide) (by rw [hb2]; rfl) (by decide) ?_
      refine sx_aload_n (i := 0) k235_88 rfl rfl ?_
      refine cx_getR (k := 4) k235_89 ow_235 fl_11_37 (by decide) sk_0 ft_10_4 sr_0_4 ?_
      refine cx_getI (k := 12) k235_92 ow_235 fl_11_389 (by decide) sk_9 ft_9_12 ?_
      exact cx_reti k235_95 rt_235 h
    · rw [if_neg hb2] at h
      by_cases hb3 : p1 = (2 : Int32)
      · rw [if_pos hb3] at h
        refine sx_tableIn (off := 95) (tgt := 96) k235_1 (by rw [hb3]; decide) (by rw [hb3]; decide) (by rw [hb3]; rfl) (by decide) ?_
        refine sx_aload_n (i := 0) k235_96 rfl rfl ?_
        refine cx_getR (k := 4) k235_97 ow_235 fl_11_37 (by decide) sk_0 ft_10_4 sr_0_4 ?_
        refine cx_getI (k := 13) k235_100 ow_235 fl_11_392 (by decide) sk_9 ft_9_13 ?_
        exact cx_reti k235_103 rt_235 h
      · rw [if_neg hb3] at h
        by_cases hb4 : p1 = (3 : Int32)
        · rw [if_pos hb4] at h
          refine sx_tableIn (off := 103) (tgt := 104) k235_1 (by rw [hb4]; decide) (by rw [hb4]; decide) (by rw [hb4]; rfl) (by decide) ?_
          refine sx_aload_n (i := 0) k235_104 rfl rfl ?_
          refine cx_getR (k := 4) k235_105 ow_235 fl_11_37 (by decide) sk_0 ft_10_4 sr_0_4 ?_
          refine cx_getI (k := 14) k235_108 ow_235 fl_11_395 (by decide) sk_9 ft_9_14 ?_
          exact cx_reti k235_111 rt_235 h
        · rw [if_neg hb4] at h
          by_cases hb5 : p1 = (4 : Int32)
          · rw [if_pos hb5] at h
            refine sx_tableIn (off := 111) (tgt := 112) k235_1 (by rw [hb5]; decide) (by rw [hb5]; decide) (by rw [hb5]; rfl) (by decide) ?_
            refine sx_aload_n (i := 0) k235_112 rfl rfl ?_
            refine cx_getR (k := 4) k235_113 ow_235 fl_11_37 (by decide) sk_0 ft_10_4 sr_0_4 ?_
            refine cx_getI (k := 15) k235_116 ow_235 fl_11_398 (by decide) sk_9 ft_9_15 ?_
            exact cx_reti k235_119 rt_235 h
          · rw [if_neg hb5] at h
            by_cases hb6 : p1 = (5 : Int32)
            · rw [if_pos hb6] at h
              refine sx_tableIn (off := 119) (tgt := 120) k235_1 (by rw [hb6]; decide) (by rw [hb6]; decide) (by rw [hb6]; rfl) (by decide) ?_
              refine sx_aload_n (i := 0) k235_120 rfl rfl ?_
              refine cx_getR (k := 4) k235_121 ow_235 fl_11_37 (by decide) sk_0 ft_10_4 sr_0_4 ?_
              refine cx_getI (k := 16) k235_124 ow_235 fl_11_271 (by decide) sk_9 ft_9_16 ?_
              exact cx_reti k235_127 rt_235 h
            · rw [if_neg hb6] at h
              by_cases hb7 : p1 = (6 : Int32)
              · rw [if_pos hb7] at h
                refine sx_tableIn (off := 127) (tgt := 128) k235_1 (by rw [hb7]; decide) (by rw [hb7]; decide) (by rw [hb7]; rfl) (by decide) ?_
                refine sx_aload_n (i := 0) k235_128 rfl rfl ?_
                refine cx_getR (k := 9) k235_129 ow_235 fl_11_84 (by decide) sk_0 ft_10_9 sr_0_9 ?_
                refine cx_getR (k := 2) k235_132 ow_235 fl_11_401 (by decide) sk_101 ft_0_2 sr_101_2 ?_
                refine cx_getI (k := 5) k235_135 ow_235 fl_11_404 (by decide) sk_102 ft_7_5 ?_
                exact cx_reti k235_138 rt_235 h
              · rw [if_neg hb7] at h
                by_cases hb8 : p1 = (7 : Int32)
                · rw [if_pos hb8] at h
                  refine sx_tableIn (off := 138) (tgt := 139) k235_1 (by rw [hb8]; decide) (by rw [hb8]; decide) (by rw [hb8]; rfl) (by decide) ?_
                  refine sx_aload_n (i := 0) k235_139 rfl rfl ?_
                  refine cx_getR (k := 8) k235_140 ow_235 fl_11_75 (by decide) sk_0 ft_10_8 sr_0_8 ?_
                  refine cx_getR (k := 3) k235_143 ow_235 fl_11_405 (by decide) sk_57 ft_5_3 sr_57_3 ?_
                  refine cx_getI (k := 5) k235_146 ow_235 fl_11_404 (by decide) sk_75 ft_7_5 ?_
                  exact cx_reti k235_149 rt_235 h
                · rw [if_neg hb8] at h
                  by_cases hb9 : p1 = (8 : Int32)
                  · rw [if_pos hb9] at h
                    refine sx_tableIn (off := 149) (tgt := 150) k235_1 (by rw [hb9]; decide) (by rw [hb9]; decide) (by rw [hb9]; rfl) (by decide) ?_
                    refine sx_aload_n (i := 0) k235_150 rfl rfl ?_
                    refine cx_getR (k := 8) k235_151 ow_235 fl_11_75 (by decide) sk_0 ft_10_8 sr_0_8 ?_
                    refine cx_getR (k := 4) k235_154 ow_235 fl_11_408 (by decide) sk_57 ft_5_4 sr_57_4 ?_
                    refine cx_getI (k := 5) k235_157 ow_235 fl_11_404 (by decide) sk_81 ft_7_5 ?_
                    exact cx_reti k235_160 rt_235 h
                  · rw [if_neg hb9] at h
                    by_cases hb10 : p1 = (9 : Int32)
                    · rw [if_pos hb10] at h
                      refine sx_tableIn (off := 160) (tgt := 161) k235_1 (by rw [hb10]; decide) (by rw [hb10]; decide) (by rw [hb10]; rfl) (by decide) ?_
                      refine sx_aload_n (i := 0) k235_161 rfl rfl ?_
                      refine cx_getR (k := 8) k235_162 ow_235 fl_11_75 (by decide) sk_0 ft_10_8 sr_0_8 ?_
                      refine cx_getI (k := 14) k235_165 ow_235 fl_11_411 (by decide) sk_57 ft_5_14 ?_
                      exact cx_reti k235_168 rt_235 h
                    · rw [if_neg hb10] at h
                      by_cases hb12 : p1 = (10 : Int32)
                      · rw [if_pos hb12] at h
                        refine sx_tableIn (off := 168) (tgt := 169) k235_1 (by rw [hb12]; decide) (by rw [hb12]; decide) (by rw [hb12]; rfl) (by decide) ?_
                        refine sx_aload_n (i := 0) k235_169 rfl rfl ?_
                        refine cx_getR (k := 4) k235_170 ow_235 fl_11_37 (by decide) sk_0 ft_10_4 sr_0_4 ?_
                        refine cx_getI (k := 1) k235_173 ow_235 fl_11_414 (by decide) sk_9 ft_9_1 ?_
                        by_cases hb11 : (μ.1 9 1) = 0
                        · rw [if_pos hb11] at h
                          refine sx_if_eq (tgt := 183) k235_176 (by decide) (fun _ => ?_) (fun q => absurd hb11 q)
                          refine sx_iconst (v := 0) k235_183 (by decide) ?_
                          exact cx_reti k235_184 rt_235 h
                        · rw [if_neg hb11] at h
                          refine sx_if_eq (tgt := 183) k235_176 (by decide) (fun q => absurd q hb11) (fun _ => ?_)
                          refine sx_iconst (v := 1) k235_179 (by decide) ?_
                          refine sx_goto (tgt := 184) k235_180 (by decide) ?_
                          exact cx_reti k235_184 rt_235 h
                      · rw [if_neg hb12] at h
                        by_cases hb13 : p1 = (11 : Int32)
                        · rw [if_pos hb13] at h
                          refine sx_tableIn (off := 184) (tgt := 185) k235_1 (by rw [hb13]; decide) (by rw [hb13]; decide) (by rw [hb13]; rfl) (by decide) ?_
                          refine sx_aload_n (i := 0) k235_185 rfl rfl ?_
                          refine cx_getR (k := 4) k235_186 ow_235 fl_11_37 (by decide) sk_0 ft_10_4 sr_0_4 ?_
                          refine cx_getR (k := 0) k235_189 ow_235 fl_11_417 (by decide) sk_9 ft_9_0 sr_9_0 ?_
                          refine cx_getI (k := 1) k235_192 ow_235 fl_11_88 (by decide) sk_10 ft_1_1 ?_
                          exact cx_reti k235_195 rt_235 h
                        · rw [if_neg hb13] at h
                          by_cases hb14 : p1 = (12 : Int32)
                          · rw [if_pos hb14] at h
                            refine sx_tableIn (off := 195) (tgt := 196) k235_1 (by rw [hb14]; decide) (by rw [hb14]; decide) (by rw [hb14]; rfl) (by decide) ?_
                            refine sx_aload_n (i := 0) k235_196 rfl rfl ?_
                            refine cx_getR (k := 4) k235_197 ow_235 fl_11_37 (by decide) sk_0 ft_10_4 sr_0_4 ?_
                            refine cx_getI (k := 6) k235_200 ow_235 fl_11_420 (by decide) sk_9 ft_9_6 ?_
                            exact cx_reti k235_203 rt_235 h
                          · rw [if_neg hb14] at h
                            by_cases hb15 : p1 = (13 : Int32)
                            · rw [if_pos hb15] at h
                              refine sx_tableIn (off := 203) (tgt := 204) k235_1 (by rw [hb15]; decide) (by rw [hb15]; decide) (by rw [hb15]; rfl) (by decide) ?_
                              refine sx_aload_n (i := 0) k235_204 rfl rfl ?_
                              refine cx_getR (k := 4) k235_205 ow_235 fl_11_37 (by decide) sk_0 ft_10_4 sr_0_4 ?_
                              refine cx_getI (k := 7) k235_208 ow_235 fl_11_423 (by decide) sk_9 ft_9_7 ?_
                              exact cx_reti k235_211 rt_235 h
                            · rw [if_neg hb15] at h
                              by_cases hb16 : p1 = (14 : Int32)
                              · rw [if_pos hb16] at h
                                refine sx_tableIn (off := 211) (tgt := 212) k235_1 (by rw [hb16]; decide) (by rw [hb16]; decide) (by rw [hb16]; rfl) (by decide) ?_
                                refine sx_aload_n (i := 0) k235_212 rfl rfl ?_
                                refine cx_getR (k := 8) k235_213 ow_235 fl_11_75 (by decide) sk_0 ft_10_8 sr_0_8 ?_
                                refine cx_getI (k := 13) k235_216 ow_235 fl_11_426 (by decide) sk_57 ft_5_13 ?_
                                exact cx_reti k235_219 rt_235 h
                              · rw [if_neg hb16] at h
                                by_cases hb17 : p1 = (15 : Int32)
                                · rw [if_pos hb17] at h
                                  refine sx_tableIn (off := 219) (tgt := 220) k235_1 (by rw [hb17]; decide) (by rw [hb17]; decide) (by rw [hb17]; rfl) (by decide) ?_
                                  refine sx_aload_n (i := 0) k235_220 rfl rfl ?_
                                  refine cx_getR (k := 4) k235_221 ow_235 fl_11_37 (by decide) sk_0 ft_10_4 sr_0_4 ?_
                                  refine cx_getI (k := 10) k235_224 ow_235 fl_11_429 (by decide) sk_9 ft_9_10 ?_
                                  exact cx_reti k235_227 rt_235 h
                                · rw [if_neg hb17] at h
                                  refine sx_tableOut (tgt := 228) k235_1 (sw_out (n := 16) (fun j hj => ?_)) (by decide) ?_
                                  · intro hj2
                                    exact sw_no [(0 : Int32), (1 : Int32), (2 : Int32), (3 : Int32), (4 : Int32), (5 : Int32), (6 : Int32), (7 : Int32), (8 : Int32), (9 : Int32), (10 : Int32), (11 : Int32), (12 : Int32), (13 : Int32), (14 : Int32), (15 : Int32)] (by decide) hj hj2 ⟨hb1, hb2, hb3, hb4, hb5, hb6, hb7, hb8, hb9, hb10, hb12, hb13, hb14, hb15, hb16, hb17, trivial⟩
                                  ·
                                    refine sx_iconst (v := -1) k235_228 (by decide) ?_
                                    exact cx_reti k235_229 rt_235 h
theorem k236_0 : decode (gb 236) 0 = .ok (.iload_n 1, 1) := by decide +kernel
theorem k236_1 : decode (gb 236) 1 = .ok (.ifCond .lt 13, 3) := by decide +kernel
theorem k236_4 : decode (gb 236) 4 = .ok (.iload_n 1, 1) := by decide +kernel
theorem k236_5 : decode (gb 236) 5 = .ok (.bipush 6, 2) := by decide +kernel
theorem k236_7 : decode (gb 236) 7 = .ok (.if_icmp .ge 7, 3) := by decide +kernel
theorem k236_10 : decode (gb 236) 10 = .ok (.iload_n 2, 1) := by decide +kernel
theorem k236_11 : decode (gb 236) 11 = .ok (.ifCond .ge 5, 3) := by decide +kernel
theorem k236_14 : decode (gb 236) 14 = .ok (.iconst (-1), 1) := by decide +kernel
theorem k236_15 : decode (gb 236) 15 = .ok (.ireturn, 1) := by decide +kernel
theorem k236_16 : decode (gb 236) 16 = .ok (.iload_n 1, 1) := by decide +kernel
theorem k236_17 : decode (gb 236) 17 = .ok (.bipush 13, 2) := by decide +kernel
theorem k236_19 : decode (gb 236) 19 = .ok (.imul, 1) := by decide +kernel
theorem k236_20 : decode (gb 236) 20 = .ok (.istore_n 3, 1) := by decide +kernel
theorem k236_21 : decode (gb 236) 21 = .ok (.iload_n 2, 1) := by decide +kernel
theorem k236_22 : decode (gb 236) 22 = .ok (.ifCond .ne 13, 3) := by decide +kernel
theorem k236_25 : decode (gb 236) 25 = .ok (.aload_n 0, 1) := by decide +kernel
theorem k236_26 : decode (gb 236) 26 = .ok (.getfield 84, 3) := by decide +kernel
theorem k236_29 : decode (gb 236) 29 = .ok (.getfield 432, 3) := by decide +kernel
theorem k236_32 : decode (gb 236) 32 = .ok (.iload_n 3, 1) := by decide +kernel
theorem k236_33 : decode (gb 236) 33 = .ok (.iaload, 1) := by decide +kernel
theorem k236_34 : decode (gb 236) 34 = .ok (.ireturn, 1) := by decide +kernel
theorem k236_35 : decode (gb 236) 35 = .ok (.aload_n 0, 1) := by decide +kernel
theorem k236_36 : decode (gb 236) 36 = .ok (.getfield 84, 3) := by decide +kernel
theorem k236_39 : decode (gb 236) 39 = .ok (.getfield 432, 3) := by decide +kernel
theorem k236_42 : decode (gb 236) 42 = .ok (.iload_n 3, 1) := by decide +kernel
theorem k236_43 : decode (gb 236) 43 = .ok (.iaload, 1) := by decide +kernel
theorem k236_44 : decode (gb 236) 44 = .ok (.ifCond .eq 20, 3) := by decide +kernel
theorem k236_47 : decode (gb 236) 47 = .ok (.iload_n 2, 1) := by decide +kernel
theorem k236_48 : decode (gb 236) 48 = .ok (.iconst 4, 1) := by decide +kernel
theorem k236_49 : decode (gb 236) 49 = .ok (.aload_n 0, 1) := by decide +kernel
theorem k236_50 : decode (gb 236) 50 = .ok (.getfield 84, 3) := by decide +kernel
theorem k236_53 : decode (gb 236) 53 = .ok (.getfield 432, 3) := by decide +kernel
theorem k236_56 : decode (gb 236) 56 = .ok (.iload_n 3, 1) := by decide +kernel
theorem k236_57 : decode (gb 236) 57 = .ok (.iconst 4, 1) := by decide +kernel
theorem k236_58 : decode (gb 236) 58 = .ok (.iadd, 1) := by decide +kernel
theorem k236_59 : decode (gb 236) 59 = .ok (.iaload, 1) := by decide +kernel
theorem k236_60 : decode (gb 236) 60 = .ok (.iadd, 1) := by decide +kernel
theorem k236_61 : decode (gb 236) 61 = .ok (.if_icmp .le 5, 3) := by decide +kernel
theorem k236_64 : decode (gb 236) 64 = .ok (.iconst (-1), 1) := by decide +kernel
theorem k236_65 : decode (gb 236) 65 = .ok (.ireturn, 1) := by decide +kernel
theorem k236_66 : decode (gb 236) 66 = .ok (.aload_n 0, 1) := by decide +kernel
theorem k236_67 : decode (gb 236) 67 = .ok (.getfield 84, 3) := by decide +kernel
theorem k236_70 : decode (gb 236) 70 = .ok (.getfield 432, 3) := by decide +kernel
theorem k236_73 : decode (gb 236) 73 = .ok (.iload_n 3, 1) := by decide +kernel
theorem k236_74 : decode (gb 236) 74 = .ok (.iload_n 2, 1) := by decide +kernel
theorem k236_75 : decode (gb 236) 75 = .ok (.iadd, 1) := by decide +kernel
theorem k236_76 : decode (gb 236) 76 = .ok (.iaload, 1) := by decide +kernel
theorem k236_77 : decode (gb 236) 77 = .ok (.ireturn, 1) := by decide +kernel
/-- CraftHouse.structur(II)I -/
def f236 (p1 : Int32) (p2 : Int32) (μ : Mem) : Option (Mem × Int32) :=
  if p1 < 0 then
    some (μ, (-1 : Int32))
  else
    if (6 : Int32) ≤ p1 then
      some (μ, (-1 : Int32))
    else
      if 0 ≤ p2 then
        nm (p1 * (13 : Int32)) fun x4 =>
        if p2 = 0 then
          (ldA 125 x4 μ).bind fun x14 =>
          some (μ, x14)
        else
          (ldA 125 x4 μ).bind fun x6 =>
          if x6 = 0 then
            some (μ, (-1 : Int32))
          else
            (ldA 125 (x4 + (4 : Int32)) μ).bind fun x9 =>
            if p2 ≤ ((4 : Int32) + x9) then
              (ldA 125 (x4 + p2) μ).bind fun x12 =>
              some (μ, x12)
            else
              some (μ, (-1 : Int32))
      else
        some (μ, (-1 : Int32))
theorem ok236 {L : Nat} (p1 : Int32) (p2 : Int32) (μ : Mem) (res : Mem × Int32) (h : f236 p1 p2 μ = some res) : Mx 236 [.ref 0, .int p1, .int p2] (mk L μ) (mk L res.1, some (.int res.2)) := by
  refine Mx_of ml_236 (by rw [mx_236]; exact Nat.le_of_ble_eq_true rfl) ?_
  show Sx 236 0 [(0, .ref 0), (1, .int p1), (2, .int p2)] [] 0 0 (mk L μ) _
  unfold f236 at h
  refine sx_iload_n (i := 1) k236_0 rfl rfl ?_
  by_cases hb1 : p1 < 0
  · rw [if_pos hb1] at h
    refine sx_if_lt (tgt := 14) k236_1 (by decide) (fun _ => ?_) (fun q => absurd hb1 q)
    refine sx_iconst (v := -1) k236_14 (by decide) ?_
    exact cx_reti k236_15 rt_236 h
  · rw [if_neg hb1] at h
    refine sx_if_lt (tgt := 14) k236_1 (by decide) (fun q => absurd q hb1) (fun _ => ?_)
    refine sx_iload_n (i := 1) k236_4 rfl rfl ?_
    refine sx_bipush (v := 6) k236_5 (by decide) ?_
    by_cases hb2 : (6 : Int32) ≤ p1
    · rw [if_pos hb2] at h
      refine sx_icmp_ge (tgt := 14) k236_7 (by decide) (fun _ => ?_) (fun q => absurd hb2 q)
      refine sx_iconst (v := -1) k236_14 (by decide) ?_
      exact cx_reti k236_15 rt_236 h
    · rw [if_neg hb2] at h
      refine sx_icmp_ge (tgt := 14) k236_7 (by decide) (fun q => absurd q hb2) (fun _ => ?_)
      refine sx_iload_n (i := 2) k236_10 rfl rfl ?_
      by_cases hb3 : 0 ≤ p2
      · rw [if_pos hb3] at h
        refine sx_if_ge (tgt := 16) k236_11 (by decide) (fun _ => ?_) (fun q => absurd hb3 q)
        refine sx_iload_n (i := 1) k236_16 rfl rfl ?_
        refine sx_bipush (v := 13) k236_17 (by decide) ?_
        refine sx_imul k236_19 ?_
        refine cx_nm h (fun x4 h => ?_)
        refine cx_istore_n (lo2 := [(3, .int x4), (0, .ref 0), (1, .int p1), (2, .int p2)]) k236_20 rfl (by rw [mx_236]; decide) rfl ?_
        refine sx_iload_n (i := 2) k236_21 rfl rfl ?_
        by_cases hb5 : p2 = 0
        · rw [if_pos hb5] at h
          refine sx_if_ne (tgt := 35) k236_22 (by decide) (fun q => absurd hb5 q) (fun _ => ?_)
          refine sx_aload_n (i := 0) k236_25 rfl rfl ?_
          refine cx_getR (k := 9) k236_26 ow_236 fl_11_84 (by decide) sk_0 ft_10_9 sr_0_9 ?_
          refine cx_getR (k := 8) k236_29 ow_236 fl_11_432 (by decide) sk_101 ft_0_8 sr_101_8 ?_
          refine sx_iload_n (i := 3) k236_32 rfl rfl ?_
          obtain ⟨x14, e15, h⟩ := Option.bind_eq_some_iff.mp h
          refine cx_iald k236_33 sk_125 e15 ?_
          exact cx_reti k236_34 rt_236 h
        · rw [if_neg hb5] at h
          refine sx_if_ne (tgt := 35) k236_22 (by decide) (fun _ => ?_) (fun q => absurd q hb5)
          refine sx_aload_n (i := 0) k236_35 rfl rfl ?_
          refine cx_getR (k := 9) k236_36 ow_236 fl_11_84 (by decide) sk_0 ft_10_9 sr_0_9 ?_
          refine cx_getR (k := 8) k236_39 ow_236 fl_11_432 (by decide) sk_101 ft_0_8 sr_101_8 ?_
          refine sx_iload_n (i := 3) k236_42 rfl rfl ?_
          obtain ⟨x6, e7, h⟩ := Option.bind_eq_some_iff.mp h
          refine cx_iald k236_43 sk_125 e7 ?_
          by_cases hb8 : x6 = 0
          · rw [if_pos hb8] at h
            refine sx_if_eq (tgt := 64) k236_44 (by decide) (fun _ => ?_) (fun q => absurd hb8 q)
            refine sx_iconst (v := -1) k236_64 (by decide) ?_
            exact cx_reti k236_65 rt_236 h
          · rw [if_neg hb8] at h
            refine sx_if_eq (tgt := 64) k236_44 (by decide) (fun q => absurd q hb8) (fun _ => ?_)
            refine sx_iload_n (i := 2) k236_47 rfl rfl ?_
            refine sx_iconst (v := 4) k236_48 (by decide) ?_
            refine sx_aload_n (i := 0) k236_49 rfl rfl ?_
            refine cx_getR (k := 9) k236_50 ow_236 fl_11_84 (by decide) sk_0 ft_10_9 sr_0_9 ?_
            refine cx_getR (k := 8) k236_53 ow_236 fl_11_432 (by decide) sk_101 ft_0_8 sr_101_8 ?_
            refine sx_iload_n (i := 3) k236_56 rfl rfl ?_
            refine sx_iconst (v := 4) k236_57 (by decide) ?_
            refine sx_iadd k236_58 ?_
            obtain ⟨x9, e10, h⟩ := Option.bind_eq_some_iff.mp h
            refine cx_iald k236_59 sk_125 e10 ?_
            refine sx_iadd k236_60 ?_
            by_cases hb11 : p2 ≤ ((4 : Int32) + x9)
            · rw [if_pos hb11] at h
              refine sx_icmp_le (tgt := 66) k236_61 (by decide) (fun _ => ?_) (fun q => absurd hb11 q)
              refine sx_aload_n (i := 0) k236_66 rfl rfl ?_
              refine cx_getR (k := 9) k236_67 ow_236 fl_11_84 (by decide) sk_0 ft_10_9 sr_0_9 ?_
              refine cx_getR (k := 8) k236_70 ow_236 fl_11_432 (by decide) sk_101 ft_0_8 sr_101_8 ?_
              refine sx_iload_n (i := 3) k236_73 rfl rfl ?_
              refine sx_iload_n (i := 2) k236_74 rfl rfl ?_
              refine sx_iadd k236_75 ?_
              obtain ⟨x12, e13, h⟩ := Option.bind_eq_some_iff.mp h
              refine cx_iald k236_76 sk_125 e13 ?_
              exact cx_reti k236_77 rt_236 h
            · rw [if_neg hb11] at h
              refine sx_icmp_le (tgt := 66) k236_61 (by decide) (fun q => absurd q hb11) (fun _ => ?_)
              refine sx_iconst (v := -1) k236_64 (by decide) ?_
              exact cx_reti k236_65 rt_236 h
      · rw [if_neg hb3] at h
        refine sx_if_ge (tgt := 16) k236_11 (by decide) (fun q => absurd q hb3) (fun _ => ?_)
        refine sx_iconst (v := -1) k236_14 (by decide) ?_
        exact cx_reti k236_15 rt_236 h
theorem k237_0 : decode (gb 237) 0 = .ok (.iload_n 1, 1) := by decide +kernel
theorem k237_1 : decode (gb 237) 1 = .ok (.ifCond .lt 19, 3) := by decide +kernel
theorem k237_4 : decode (gb 237) 4 = .ok (.iload_n 1, 1) := by decide +kernel
theorem k237_5 : decode (gb 237) 5 = .ok (.bipush 6, 2) := by decide +kernel
theorem k237_7 : decode (gb 237) 7 = .ok (.if_icmp .ge 13, 3) := by decide +kernel
theorem k237_10 : decode (gb 237) 10 = .ok (.iload_n 2, 1) := by decide +kernel
theorem k237_11 : decode (gb 237) 11 = .ok (.ifCond .lt 9, 3) := by decide +kernel
theorem k237_14 : decode (gb 237) 14 = .ok (.iload_n 2, 1) := by decide +kernel
theorem k237_15 : decode (gb 237) 15 = .ok (.bipush 6, 2) := by decide +kernel
theorem k237_17 : decode (gb 237) 17 = .ok (.if_icmp .le 5, 3) := by decide +kernel
theorem k237_20 : decode (gb 237) 20 = .ok (.iconst (-1), 1) := by decide +kernel
theorem k237_21 : decode (gb 237) 21 = .ok (.ireturn, 1) := by decide +kernel
theorem k237_22 : decode (gb 237) 22 = .ok (.iload_n 1, 1) := by decide +kernel
theorem k237_23 : decode (gb 237) 23 = .ok (.bipush 8, 2) := by decide +kernel
theorem k237_25 : decode (gb 237) 25 = .ok (.imul, 1) := by decide +kernel
theorem k237_26 : decode (gb 237) 26 = .ok (.istore_n 3, 1) := by decide +kernel
theorem k237_27 : decode (gb 237) 27 = .ok (.iload_n 2, 1) := by decide +kernel
theorem k237_28 : decode (gb 237) 28 = .ok (.ifCond .le 19, 3) := by decide +kernel
theorem k237_31 : decode (gb 237) 31 = .ok (.aload_n 0, 1) := by decide +kernel
theorem k237_32 : decode (gb 237) 32 = .ok (.getfield 84, 3) := by decide +kernel
theorem k237_35 : decode (gb 237) 35 = .ok (.getfield 435, 3) := by decide +kernel
theorem k237_38 : decode (gb 237) 38 = .ok (.iload_n 3, 1) := by decide +kernel
theorem k237_39 : decode (gb 237) 39 = .ok (.iaload, 1) := by decide +kernel
theorem k237_40 : decode (gb 237) 40 = .ok (.ifCond .ne 7, 3) := by decide +kernel
theorem k237_43 : decode (gb 237) 43 = .ok (.iconst (-1), 1) := by decide +kernel
theorem k237_44 : decode (gb 237) 44 = .ok (.goto 14, 3) := by decide +kernel
theorem k237_47 : decode (gb 237) 47 = .ok (.aload_n 0, 1) := by decide +kernel
theorem k237_48 : decode (gb 237) 48 = .ok (.getfield 84, 3) := by decide +kernel
theorem k237_51 : decode (gb 237) 51 = .ok (.getfield 435, 3) := by decide +kernel
theorem k237_54 : decode (gb 237) 54 = .ok (.iload_n 3, 1) := by decide +kernel
theorem k237_55 : decode (gb 237) 55 = .ok (.iload_n 2, 1) := by decide +kernel
theorem k237_56 : decode (gb 237) 56 = .ok (.iadd, 1) := by decide +kernel
theorem k237_57 : decode (gb 237) 57 = .ok (.iaload, 1) := by decide +kernel
theorem k237_58 : decode (gb 237) 58 = .ok (.ireturn, 1) := by decide +kernel
def c237_47 (v2 : Int32) (v3 : Int32) (μ : Mem) : Option (Mem × Int32) :=
  (ldA 126 (v3 + v2) μ).bind fun x1 =>
  some (μ, x1)
theorem c237_47_ok {L : Nat} (v2 : Int32) (v3 : Int32) (μ : Mem) (res : Mem × Int32) (h : c237_47 v2 v3 μ = some res) : Sx 237 47 [(0, .ref 0), (2, .int v2), (3, .int v3)] [] 0 0 (mk L μ) (mk L res.1, some (.int res.2)) := by
  unfold c237_47 at h
  refine sx_aload_n (i := 0) k237_47 rfl rfl ?_
  refine cx_getR (k := 9) k237_48 ow_237 fl_11_84 (by decide) sk_0 ft_10_9 sr_0_9 ?_
  refine cx_getR (k := 9) k237_51 ow_237 fl_11_435 (by decide) sk_101 ft_0_9 sr_101_9 ?_
  refine sx_iload_n (i := 3) k237_54 rfl rfl ?_
  refine sx_iload_n (i := 2) k237_55 rfl rfl ?_
  refine sx_iadd k237_56 ?_
  obtain ⟨x1, e2, h⟩ := Option.bind_eq_some_iff.mp h
  refine cx_iald k237_57 sk_126 e2 ?_
  exact cx_reti k237_58 rt_237 h
/-- CraftHouse.watch(II)I -/
def f237 (p1 : Int32) (p2 : Int32) (μ : Mem) : Option (Mem × Int32) :=
  if p1 < 0 then
    some (μ, (-1 : Int32))
  else
    if (6 : Int32) ≤ p1 then
      some (μ, (-1 : Int32))
    else
      if p2 < 0 then
        some (μ, (-1 : Int32))
      else
        if p2 ≤ (6 : Int32) then
          nm (p1 * (8 : Int32)) fun x5 =>
          if p2 ≤ 0 then
            c237_47 p2 x5 μ
          else
            (ldA 126 x5 μ).bind fun x7 =>
            if x7 = 0 then
              some (μ, (-1 : Int32))
            else
              c237_47 p2 x5 μ
        else
          some (μ, (-1 : Int32))
theorem ok237 {L : Nat} (p1 : Int32) (p2 : Int32) (μ : Mem) (res : Mem × Int32) (h : f237 p1 p2 μ = some res) : Mx 237 [.ref 0, .int p1, .int p2] (mk L μ) (mk L res.1, some (.int res.2)) := by
  refine Mx_of ml_237 (by rw [mx_237]; exact Nat.le_of_ble_eq_true rfl) ?_
  show Sx 237 0 [(0, .ref 0), (1, .int p1), (2, .int p2)] [] 0 0 (mk L μ) _
  unfold f237 at h
  refine sx_iload_n (i := 1) k237_0 rfl rfl ?_
  by_cases hb1 : p1 < 0
  · rw [if_pos hb1] at h
    refine sx_if_lt (tgt := 20) k237_1 (by decide) (fun _ => ?_) (fun q => absurd hb1 q)
    refine sx_iconst (v := -1) k237_20 (by decide) ?_
    exact cx_reti k237_21 rt_237 h
  · rw [if_neg hb1] at h
    refine sx_if_lt (tgt := 20) k237_1 (by decide) (fun q => absurd q hb1) (fun _ => ?_)
    refine sx_iload_n (i := 1) k237_4 rfl rfl ?_
    refine sx_bipush (v := 6) k237_5 (by decide) ?_
    by_cases hb2 : (6 : Int32) ≤ p1
    · rw [if_pos hb2] at h
      refine sx_icmp_ge (tgt := 20) k237_7 (by decide) (fun _ => ?_) (fun q => absurd hb2 q)
      refine sx_iconst (v := -1) k237_20 (by decide) ?_
      exact cx_reti k237_21 rt_237 h
    · rw [if_neg hb2] at h
      refine sx_icmp_ge (tgt := 20) k237_7 (by decide) (fun q => absurd q hb2) (fun _ => ?_)
      refine sx_iload_n (i := 2) k237_10 rfl rfl ?_
      by_cases hb3 : p2 < 0
      · rw [if_pos hb3] at h
        refine sx_if_lt (tgt := 20) k237_11 (by decide) (fun _ => ?_) (fun q => absurd hb3 q)
        refine sx_iconst (v := -1) k237_20 (by decide) ?_
        exact cx_reti k237_21 rt_237 h
      · rw [if_neg hb3] at h
        refine sx_if_lt (tgt := 20) k237_11 (by decide) (fun q => absurd q hb3) (fun _ => ?_)
        refine sx_iload_n (i := 2) k237_14 rfl rfl ?_
        refine sx_bipush (v := 6) k237_15 (by decide) ?_
        by_cases hb4 : p2 ≤ (6 : Int32)
        · rw [if_pos hb4] at h
          refine sx_icmp_le (tgt := 22) k237_17 (by decide) (fun _ => ?_) (fun q => absurd hb4 q)
          refine sx_iload_n (i := 1) k237_22 rfl rfl ?_
          refine sx_bipush (v := 8) k237_23 (by decide) ?_
          refine sx_imul k237_25 ?_
          refine cx_nm h (fun x5 h => ?_)
          refine cx_istore_n (lo2 := [(3, .int x5), (0, .ref 0), (1, .int p1), (2, .int p2)]) k237_26 rfl (by rw [mx_237]; decide) rfl ?_
          refine sx_iload_n (i := 2) k237_27 rfl rfl ?_
          by_cases hb6 : p2 ≤ 0
          · rw [if_pos hb6] at h
            refine sx_if_le (tgt := 47) k237_28 (by decide) (fun _ => ?_) (fun q => absurd hb6 q)
            refine sx_pick (lo2 := [(0, .ref 0), (2, .int p2), (3, .int x5)]) [1, 3, 0] rfl ?_
            exact c237_47_ok p2 x5 _ _ h
          · rw [if_neg hb6] at h
            refine sx_if_le (tgt := 47) k237_28 (by decide) (fun q => absurd q hb6) (fun _ => ?_)
            refine sx_aload_n (i := 0) k237_31 rfl rfl ?_
            refine cx_getR (k := 9) k237_32 ow_237 fl_11_84 (by decide) sk_0 ft_10_9 sr_0_9 ?_
            refine cx_getR (k := 9) k237_35 ow_237 fl_11_435 (by decide) sk_101 ft_0_9 sr_101_9 ?_
            refine sx_iload_n (i := 3) k237_38 rfl rfl ?_
            obtain ⟨x7, e8, h⟩ := Option.bind_eq_some_iff.mp h
            refine cx_iald k237_39 sk_126 e8 ?_
            by_cases hb9 : x7 = 0
            · rw [if_pos hb9] at h
              refine sx_if_ne (tgt := 47) k237_40 (by decide) (fun q => absurd hb9 q) (fun _ => ?_)
              refine sx_iconst (v := -1) k237_43 (by decide) ?_
              refine sx_goto (tgt := 58) k237_44 (by decide) ?_
              exact cx_reti k237_58 rt_237 h
            · rw [if_neg hb9] at h
              refine sx_if_ne (tgt := 47) k237_40 (by decide) (fun _ => ?_) (fun q => absurd q hb9)
              refine sx_pick (lo2 := [(0, .ref 0), (2, .int p2), (3, .int x5)]) [1, 3, 0] rfl ?_
              exact c237_47_ok p2 x5 _ _ h
        · rw [if_neg hb4] at h
          refine sx_icmp_le (tgt := 22) k237_17 (by decide) (fun q => absurd q hb4) (fun _ => ?_)
          refine sx_iconst (v := -1) k237_20 (by decide) ?_
          exact cx_reti k237_21 rt_237 h
theorem k238_0 : decode (gb 238) 0 = .ok (.iload_n 1, 1) := by decide +kernel
theorem k238_1 : decode (gb 238) 1 = .ok (.ifCond .lt 9, 3) := by decide +kernel
theorem k238_4 : decode (gb 238) 4 = .ok (.iload_n 1, 1) := by decide +kernel
theorem k238_5 : decode (gb 238) 5 = .ok (.bipush 32, 2) := by decide +kernel
theorem k238_7 : decode (gb 238) 7 = .ok (.if_icmp .lt 5, 3) := by decide +kernel
theorem k238_10 : decode (gb 238) 10 = .ok (.iconst (-1), 1) := by decide +kernel
theorem k238_11 : decode (gb 238) 11 = .ok (.ireturn, 1) := by decide +kernel
theorem k238_12 : decode (gb 238) 12 = .ok (.aload_n 0, 1) := by decide +kernel
theorem k238_13 : decode (gb 238) 13 = .ok (.getfield 84, 3) := by decide +kernel
theorem k238_16 : decode (gb 238) 16 = .ok (.getfield 438, 3) := by decide +kernel
theorem k238_19 : decode (gb 238) 19 = .ok (.iload_n 1, 1) := by decide +kernel
theorem k238_20 : decode (gb 238) 20 = .ok (.invokevirtual 441, 3) := by decide +kernel
theorem k238_23 : decode (gb 238) 23 = .ok (.istore_n 3, 1) := by decide +kernel
theorem k238_24 : decode (gb 238) 24 = .ok (.iload_n 2, 1) := by decide +kernel
theorem k238_25 : decode (gb 238) 25 = .ok (.tableswitch 82 0 3 #[31, 48, 58, 70], 31) := by decide +kernel
theorem k238_56 : decode (gb 238) 56 = .ok (.aload_n 0, 1) := by decide +kernel
theorem k238_57 : decode (gb 238) 57 = .ok (.getfield 84, 3) := by decide +kernel
theorem k238_60 : decode (gb 238) 60 = .ok (.iload_n 1, 1) := by decide +kernel
theorem k238_61 : decode (gb 238) 61 = .ok (.invokevirtual 444, 3) := by decide +kernel
theorem k238_64 : decode (gb 238) 64 = .ok (.ifCond .eq 7, 3) := by decide +kernel
theorem k238_67 : decode (gb 238) 67 = .ok (.iconst 1, 1) := by decide +kernel
theorem k238_68 : decode (gb 238) 68 = .ok (.goto 4, 3) := by decide +kernel
theorem k238_71 : decode (gb 238) 71 = .ok (.iconst 0, 1) := by decide +kernel
theorem k238_72 : decode (gb 238) 72 = .ok (.ireturn, 1) := by decide +kernel
theorem k238_73 : decode (gb 238) 73 = .ok (.iload_n 3, 1) := by decide +kernel
theorem k238_74 : decode (gb 238) 74 = .ok (.ifCond .ge 7, 3) := by decide +kernel
theorem k238_77 : decode (gb 238) 77 = .ok (.iconst 0, 1) := by decide +kernel
theorem k238_78 : decode (gb 238) 78 = .ok (.goto 4, 3) := by decide +kernel
theorem k238_81 : decode (gb 238) 81 = .ok (.iconst 1, 1) := by decide +kernel
theorem k238_82 : decode (gb 238) 82 = .ok (.ireturn, 1) := by decide +kernel
theorem k238_83 : decode (gb 238) 83 = .ok (.aload_n 0, 1) := by decide +kernel
theorem k238_84 : decode (gb 238) 84 = .ok (.getfield 84, 3) := by decide +kernel
theorem k238_87 : decode (gb 238) 87 = .ok (.getfield 438, 3) := by decide +kernel
theorem k238_90 : decode (gb 238) 90 = .ok (.iload_n 3, 1) := by decide +kernel
theorem k238_91 : decode (gb 238) 91 = .ok (.invokevirtual 447, 3) := by decide +kernel
theorem k238_94 : decode (gb 238) 94 = .ok (.ireturn, 1) := by decide +kernel
theorem k238_95 : decode (gb 238) 95 = .ok (.aload_n 0, 1) := by decide +kernel
theorem k238_96 : decode (gb 238) 96 = .ok (.getfield 84, 3) := by decide +kernel
theorem k238_99 : decode (gb 238) 99 = .ok (.getfield 438, 3) := by decide +kernel
theorem k238_102 : decode (gb 238) 102 = .ok (.iload_n 3, 1) := by decide +kernel
theorem k238_103 : decode (gb 238) 103 = .ok (.invokevirtual 339, 3) := by decide +kernel
theorem k238_106 : decode (gb 238) 106 = .ok (.ireturn, 1) := by decide +kernel
theorem k238_107 : decode (gb 238) 107 = .ok (.iconst (-1), 1) := by decide +kernel
theorem k238_108 : decode (gb 238) 108 = .ok (.ireturn, 1) := by decide +kernel
/-- CraftHouse.event(II)I -/
def f238 (p1 : Int32) (p2 : Int32) (μ : Mem) : Option (Mem × Int32) :=
  if p1 < 0 then
    some (μ, (-1 : Int32))
  else
    if p1 < (32 : Int32) then
      (f165 114 p1 μ).bind fun r3 =>
      if p2 = (0 : Int32) then
        (f7 p1 r3.1).bind fun r5 =>
        if r5.2 = 0 then
          some (r5.1, (0 : Int32))
        else
          some (r5.1, (1 : Int32))
      else if p2 = (1 : Int32) then
        if 0 ≤ r3.2 then
          some (r3.1, (1 : Int32))
        else
          some (r3.1, (0 : Int32))
      else if p2 = (2 : Int32) then
        (f168 114 r3.2 r3.1).bind fun r11 =>
        some (r11.1, r11.2)
      else if p2 = (3 : Int32) then
        (f166 114 r3.2 r3.1).bind fun r14 =>
        some (r14.1, r14.2)
      else 
        some (r3.1, (-1 : Int32))
    else
      some (μ, (-1 : Int32))
theorem ok238 {L : Nat} (p1 : Int32) (p2 : Int32) (μ : Mem) (res : Mem × Int32) (h : f238 p1 p2 μ = some res) : Mx 238 [.ref 0, .int p1, .int p2] (mk L μ) (mk L res.1, some (.int res.2)) := by
  refine Mx_of ml_238 (by rw [mx_238]; exact Nat.le_of_ble_eq_true rfl) ?_
  show Sx 238 0 [(0, .ref 0), (1, .int p1), (2, .int p2)] [] 0 0 (mk L μ) _
  unfold f238 at h
  refine sx_iload_n (i := 1) k238_0 rfl rfl ?_
  by_cases hb1 : p1 < 0
  · rw [if_pos hb1] at h
    refine sx_if_lt (tgt := 10) k238_1 (by decide) (fun _ => ?_) (fun q => absurd hb1 q)
    refine sx_iconst (v := -1) k238_10 (by decide) ?_
    exact cx_reti k238_11 rt_238 h
  · rw [if_neg hb1] at h
    refine sx_if_lt (tgt := 10) k238_1 (by decide) (fun q => absurd q hb1) (fun _ => ?_)
    refine sx_iload_n (i := 1) k238_4 rfl rfl ?_
    refine sx_bipush (v := 32) k238_5 (by decide) ?_
    by_cases hb2 : p1 < (32 : Int32)
    · rw [if_pos hb2] at h
      refine sx_icmp_lt (tgt := 12) k238_7 (by decide) (fun _ => ?_) (fun q => absurd hb2 q)
      refine sx_aload_n (i := 0) k238_12 rfl rfl ?_
      refine cx_getR (k := 9) k238_13 ow_238 fl_11_84 (by decide) sk_0 ft_10_9 sr_0_9 ?_
      refine cx_getR (k := 4) k238_16 ow_238 fl_11_438 (by decide) sk_101 ft_0_4 sr_101_4 ?_
      refine sx_iload_n (i := 1) k238_19 rfl rfl ?_
      obtain ⟨r3, e4, h⟩ := Option.bind_eq_some_iff.mp h
      refine cx_V (sk := []) (vs := [.int p1]) st_238_165 k238_20 ow_238 cl_11_441 (by decide) rfl (Nat.le_of_ble_eq_true rfl) sk_114 (ok165 114 p1 sk_114 _ _ e4) (sk3 := [.int r3.2]) rfl rfl ?_
      refine cx_istore_n (lo2 := [(3, .int r3.2), (0, .ref 0), (1, .int p1), (2, .int p2)]) k238_23 rfl (by rw [mx_238]; decide) rfl ?_
      refine sx_iload_n (i := 2) k238_24 rfl rfl ?_
      by_cases hb8 : p2 = (0 : Int32)
      · rw [if_pos hb8] at h
        refine sx_tableIn (off := 31) (tgt := 56) k238_25 (by rw [hb8]; decide) (by rw [hb8]; decide) (by rw [hb8]; rfl) (by decide) ?_
        refine sx_aload_n (i := 0) k238_56 rfl rfl ?_
        refine cx_getR (k := 9) k238_57 ow_238 fl_11_84 (by decide) sk_0 ft_10_9 sr_0_9 ?_
        refine sx_iload_n (i := 1) k238_60 rfl rfl ?_
        obtain ⟨r5, e6, h⟩ := Option.bind_eq_some_iff.mp h
        refine cx_V (sk := []) (vs := [.int p1]) st_238_7 k238_61 ow_238 cl_11_444 (by decide) rfl (Nat.le_of_ble_eq_true rfl) sk_101 (ok7 p1 _ _ e6) (sk3 := [.int r5.2]) rfl rfl ?_
        by_cases hb7 : r5.2 = 0
        · rw [if_pos hb7] at h
          refine sx_if_eq (tgt := 71) k238_64 (by decide) (fun _ => ?_) (fun q => absurd hb7 q)
          refine sx_iconst (v := 0) k238_71 (by decide) ?_
          exact cx_reti k238_72 rt_238 h
        · rw [if_neg hb7] at h
          refine sx_if_eq (tgt := 71) k238_64 (by decide) (fun q => absurd q hb7) (fun _ => ?_)
          refine sx_iconst (v := 1) k238_67 (by decide) ?_
          refine sx_goto (tgt := 72) k238_68 (by decide) ?_
          exact cx_reti k238_72 rt_238 h
      · rw [if_neg hb8] at h
        by_cases hb10 : p2 = (1 : Int32)
        · rw [if_pos hb10] at h
          refine sx_tableIn (off := 48) (tgt := 73) k238_25 (by rw [hb10]; decide) (by rw [hb10]; decide) (by rw [hb10]; rfl) (by decide) ?_
          refine sx_iload_n (i := 3) k238_73 rfl rfl ?_
          by_cases hb9 : 0 ≤ r3.2
          · rw [if_pos hb9] at h
            refine sx_if_ge (tgt := 81) k238_74 (by decide) (fun _ => ?_) (fun q => absurd hb9 q)
            refine sx_iconst (v := 1) k238_81 (by decide) ?_
            exact cx_reti k238_82 rt_238 h
          · rw [if_neg hb9] at h
            refine sx_if_ge (tgt := 81) k238_74 (by decide) (fun q => absurd q hb9) (fun _ => ?_)
            refine sx_iconst (v := 0) k238_77 (by decide) ?_
            refine sx_goto (tgt := 82) k238_78 (by decide) ?_
            exact cx_reti k238_82 rt_238 h
        · rw [if_neg hb10] at h
          by_cases hb13 : p2 = (2 : Int32)
          · rw [if_pos hb13] at h
            refine sx_tableIn (off := 58) (tgt := 83) k238_25 (by rw [hb13]; decide) (by rw [hb13]; decide) (by rw [hb13]; rfl) (by decide) ?_
            refine sx_aload_n (i := 0) k238_83 rfl rfl ?_
            refine cx_getR (k := 9) k238_84 ow_238 fl_11_84 (by decide) sk_0 ft_10_9 sr_0_9 ?_
            refine cx_getR (k := 4) k238_87 ow_238 fl_11_438 (by decide) sk_101 ft_0_4 sr_101_4 ?_
            refine sx_iload_n (i := 3) k238_90 rfl rfl ?_
            obtain ⟨r11, e12, h⟩ := Option.bind_eq_some_iff.mp h
            refine cx_V (sk := []) (vs := [.int r3.2]) st_238_168 k238_91 ow_238 cl_11_447 (by decide) rfl (Nat.le_of_ble_eq_true rfl) sk_114 (ok168 114 r3.2 sk_114 _ _ e12) (sk3 := [.int r11.2]) rfl rfl ?_
            exact cx_reti k238_94 rt_238 h
          · rw [if_neg hb13] at h
            by_cases hb16 : p2 = (3 : Int32)
            · rw [if_pos hb16] at h
              refine sx_tableIn (off := 70) (tgt := 95) k238_25 (by rw [hb16]; decide) (by rw [hb16]; decide) (by rw [hb16]; rfl) (by decide) ?_
              refine sx_aload_n (i := 0) k238_95 rfl rfl ?_
              refine cx_getR (k := 9) k238_96 ow_238 fl_11_84 (by decide) sk_0 ft_10_9 sr_0_9 ?_
              refine cx_getR (k := 4) k238_99 ow_238 fl_11_438 (by decide) sk_101 ft_0_4 sr_101_4 ?_
              refine sx_iload_n (i := 3) k238_102 rfl rfl ?_
              obtain ⟨r14, e15, h⟩ := Option.bind_eq_some_iff.mp h
              refine cx_V (sk := []) (vs := [.int r3.2]) st_238_166 k238_103 ow_238 cl_11_339 (by decide) rfl (Nat.le_of_ble_eq_true rfl) sk_114 (ok166 114 r3.2 sk_114 _ _ e15) (sk3 := [.int r14.2]) rfl rfl ?_
              exact cx_reti k238_106 rt_238 h
            · rw [if_neg hb16] at h
              refine sx_tableOut (tgt := 107) k238_25 (sw_out (n := 4) (fun j hj => ?_)) (by decide) ?_
              · intro hj2
                exact sw_no [(0 : Int32), (1 : Int32), (2 : Int32), (3 : Int32)] (by decide) hj hj2 ⟨hb8, hb10, hb13, hb16, trivial⟩
              ·
                refine sx_iconst (v := -1) k238_107 (by decide) ?_
                exact cx_reti k238_108 rt_238 h
    · rw [if_neg hb2] at h
      refine sx_icmp_lt (tgt := 12) k238_7 (by decide) (fun q => absurd q hb2) (fun _ => ?_)
      refine sx_iconst (v := -1) k238_10 (by decide) ?_
      exact cx_reti k238_11 rt_238 h
theorem k239_0 : decode (gb 239) 0 = .ok (.iload_n 1, 1) := by decide +kernel
theorem k239_1 : decode (gb 239) 1 = .ok (.bipush (-2), 2) := by decide +kernel
theorem k239_3 : decode (gb 239) 3 = .ok (.if_icmp .ne 12, 3) := by decide +kernel
theorem k239_6 : decode (gb 239) 6 = .ok (.aload_n 0, 1) := by decide +kernel
theorem k239_7 : decode (gb 239) 7 = .ok (.getfield 84, 3) := by decide +kernel
theorem k239_10 : decode (gb 239) 10 = .ok (.iload_n 2, 1) := by decide +kernel
theorem k239_11 : decode (gb 239) 11 = .ok (.invokevirtual 450, 3) := by decide +kernel
theorem k239_14 : decode (gb 239) 14 = .ok (.ireturn, 1) := by decide +kernel
theorem k239_15 : decode (gb 239) 15 = .ok (.aload_n 0, 1) := by decide +kernel
theorem k239_16 : decode (gb 239) 16 = .ok (.getfield 84, 3) := by decide +kernel
theorem k239_19 : decode (gb 239) 19 = .ok (.iload_n 1, 1) := by decide +kernel
theorem k239_20 : decode (gb 239) 20 = .ok (.invokevirtual 453, 3) := by decide +kernel
theorem k239_23 : decode (gb 239) 23 = .ok (.istore_n 3, 1) := by decide +kernel
theorem k239_24 : decode (gb 239) 24 = .ok (.iload_n 3, 1) := by decide +kernel
theorem k239_25 : decode (gb 239) 25 = .ok (.ifCond .ge 5, 3) := by decide +kernel
theorem k239_28 : decode (gb 239) 28 = .ok (.iconst (-1), 1) := by decide +kernel
theorem k239_29 : decode (gb 239) 29 = .ok (.ireturn, 1) := by decide +kernel
theorem k239_30 : decode (gb 239) 30 = .ok (.iload_n 2, 1) := by decide +kernel
theorem k239_31 : decode (gb 239) 31 = .ok (.tableswitch 61 0 2 #[25, 37, 49], 25) := by decide +kernel
theorem k239_56 : decode (gb 239) 56 = .ok (.aload_n 0, 1) := by decide +kernel
theorem k239_57 : decode (gb 239) 57 = .ok (.getfield 84, 3) := by decide +kernel
theorem k239_60 : decode (gb 239) 60 = .ok (.getfield 456, 3) := by decide +kernel
theorem k239_63 : decode (gb 239) 63 = .ok (.iload_n 3, 1) := by decide +kernel
theorem k239_64 : decode (gb 239) 64 = .ok (.invokevirtual 328, 3) := by decide +kernel
theorem k239_67 : decode (gb 239) 67 = .ok (.ireturn, 1) := by decide +kernel
theorem k239_68 : decode (gb 239) 68 = .ok (.aload_n 0, 1) := by decide +kernel
theorem k239_69 : decode (gb 239) 69 = .ok (.getfield 84, 3) := by decide +kernel
theorem k239_72 : decode (gb 239) 72 = .ok (.getfield 456, 3) := by decide +kernel
theorem k239_75 : decode (gb 239) 75 = .ok (.iload_n 3, 1) := by decide +kernel
theorem k239_76 : decode (gb 239) 76 = .ok (.invokevirtual 447, 3) := by decide +kernel
theorem k239_79 : decode (gb 239) 79 = .ok (.ireturn, 1) := by decide +kernel
theorem k239_80 : decode (gb 239) 80 = .ok (.aload_n 0, 1) := by decide +kernel
theorem k239_81 : decode (gb 239) 81 = .ok (.getfield 84, 3) := by decide +kernel
theorem k239_84 : decode (gb 239) 84 = .ok (.getfield 456, 3) := by decide +kernel
theorem k239_87 : decode (gb 239) 87 = .ok (.iload_n 3, 1) := by decide +kernel
theorem k239_88 : decode (gb 239) 88 = .ok (.invokevirtual 339, 3) := by decide +kernel
theorem k239_91 : decode (gb 239) 91 = .ok (.ireturn, 1) := by decide +kernel
theorem k239_92 : decode (gb 239) 92 = .ok (.iconst (-1), 1) := by decide +kernel
theorem k239_93 : decode (gb 239) 93 = .ok (.ireturn, 1) := by decide +kernel
/-- CraftHouse.entry(II)I -/
def f239 (p1 : Int32) (p2 : Int32) (μ : Mem) : Option (Mem × Int32) :=
  if p1 = (-2 : Int32) then
    (f9 p2 μ).bind fun r14 =>
    some (r14.1, r14.2)
  else
    (f50 p1 μ).bind fun r2 =>
    if 0 ≤ r2.2 then
      if p2 = (0 : Int32) then
        (f167 108 r2.2 r2.1).bind fun r5 =>
        some (r5.1, r5.2)
      else if p2 = (1 : Int32) then
        (f168 108 r2.2 r2.1).bind fun r8 =>
        some (r8.1, r8.2)
      else if p2 = (2 : Int32) then
        (f166 108 r2.2 r2.1).bind fun r11 =>
        some (r11.1, r11.2)
      else 
        some (r2.1, (-1 : Int32))
    else
      some (r2.1, (-1 : Int32))
theorem ok239 {L : Nat} (p1 : Int32) (p2 : Int32) (μ : Mem) (res : Mem × Int32) (h : f239 p1 p2 μ = some res) : Mx 239 [.ref 0, .int p1, .int p2] (mk L μ) (mk L res.1, some (.int res.2)) := by
  refine Mx_of ml_239 (by rw [mx_239]; exact Nat.le_of_ble_eq_true rfl) ?_
  show Sx 239 0 [(0, .ref 0), (1, .int p1), (2, .int p2)] [] 0 0 (mk L μ) _
  unfold f239 at h
  refine sx_iload_n (i := 1) k239_0 rfl rfl ?_
  refine sx_bipush (v := -2) k239_1 (by decide) ?_
  by_cases hb1 : p1 = (-2 : Int32)
  · rw [if_pos hb1] at h
    refine sx_icmp_ne (tgt := 15) k239_3 (by decide) (fun q => absurd hb1 q) (fun _ => ?_)
    refine sx_aload_n (i := 0) k239_6 rfl rfl ?_
    refine cx_getR (k := 9) k239_7 ow_239 fl_11_84 (by decide) sk_0 ft_10_9 sr_0_9 ?_
    refine sx_iload_n (i := 2) k239_10 rfl rfl ?_
    obtain ⟨r14, e15, h⟩ := Option.bind_eq_some_iff.mp h
    refine cx_V (sk := []) (vs := [.int p2]) st_239_9 k239_11 ow_239 cl_11_450 (by decide) rfl (Nat.le_of_ble_eq_true rfl) sk_101 (ok9 p2 _ _ e15) (sk3 := [.int r14.2]) rfl rfl ?_
    exact cx_reti k239_14 rt_239 h
  · rw [if_neg hb1] at h
    refine sx_icmp_ne (tgt := 15) k239_3 (by decide) (fun _ => ?_) (fun q => absurd q hb1)
    refine sx_aload_n (i := 0) k239_15 rfl rfl ?_
    refine cx_getR (k := 9) k239_16 ow_239 fl_11_84 (by decide) sk_0 ft_10_9 sr_0_9 ?_
    refine sx_iload_n (i := 1) k239_19 rfl rfl ?_
    obtain ⟨r2, e3, h⟩ := Option.bind_eq_some_iff.mp h
    refine cx_V (sk := []) (vs := [.int p1]) st_239_50 k239_20 ow_239 cl_11_453 (by decide) rfl (Nat.le_of_ble_eq_true rfl) sk_101 (ok50 p1 _ _ e3) (sk3 := [.int r2.2]) rfl rfl ?_
    refine cx_istore_n (lo2 := [(3, .int r2.2), (0, .ref 0), (1, .int p1), (2, .int p2)]) k239_23 rfl (by rw [mx_239]; decide) rfl ?_
    refine sx_iload_n (i := 3) k239_24 rfl rfl ?_
    by_cases hb4 : 0 ≤ r2.2
    · rw [if_pos hb4] at h
      refine sx_if_ge (tgt := 30) k239_25 (by decide) (fun _ => ?_) (fun q => absurd hb4 q)
      refine sx_iload_n (i := 2) k239_30 rfl rfl ?_
      by_cases hb7 : p2 = (0 : Int32)
      · rw [if_pos hb7] at h
        refine sx_tableIn (off := 25) (tgt := 56) k239_31 (by rw [hb7]; decide) (by rw [hb7]; decide) (by rw [hb7]; rfl) (by decide) ?_
        refine sx_aload_n (i := 0) k239_56 rfl rfl ?_
        refine cx_getR (k := 9) k239_57 ow_239 fl_11_84 (by decide) sk_0 ft_10_9 sr_0_9 ?_
        refine cx_getR (k := 3) k239_60 ow_239 fl_11_456 (by decide) sk_101 ft_0_3 sr_101_3 ?_
        refine sx_iload_n (i := 3) k239_63 rfl rfl ?_
        obtain ⟨r5, e6, h⟩ := Option.bind_eq_some_iff.mp h
        refine cx_V (sk := []) (vs := [.int r2.2]) st_239_167 k239_64 ow_239 cl_11_328 (by decide) rfl (Nat.le_of_ble_eq_true rfl) sk_108 (ok167 108 r2.2 sk_108 _ _ e6) (sk3 := [.int r5.2]) rfl rfl ?_
        exact cx_reti k239_67 rt_239 h
      · rw [if_neg hb7] at h
        by_cases hb10 : p2 = (1 : Int32)
        · rw [if_pos hb10] at h
          refine sx_tableIn (off := 37) (tgt := 68) k239_31 (by rw [hb10]; decide) (by rw [hb10]; decide) (by rw [hb10]; rfl) (by decide) ?_
          refine sx_aload_n (i := 0) k239_68 rfl rfl ?_
          refine cx_getR (k := 9) k239_69 ow_239 fl_11_84 (by decide) sk_0 ft_10_9 sr_0_9 ?_
          refine cx_getR (k := 3) k239_72 ow_239 fl_11_456 (by decide) sk_101 ft_0_3 sr_101_3 ?_
          refine sx_iload_n (i := 3) k239_75 rfl rfl ?_
          obtain ⟨r8, e9, h⟩ := Option.bind_eq_some_iff.mp h
          refine cx_V (sk := []) (vs := [.int r2.2]) st_239_168 k239_76 ow_239 cl_11_447 (by decide) rfl (Nat.le_of_ble_eq_true rfl) sk_108 (ok168 108 r2.2 sk_108 _ _ e9) (sk3 := [.int r8.2]) rfl rfl ?_
          exact cx_reti k239_79 rt_239 h
        · rw [if_neg hb10] at h
          by_cases hb13 : p2 = (2 : Int32)
          · rw [if_pos hb13] at h
            refine sx_tableIn (off := 49) (tgt := 80) k239_31 (by rw [hb13]; decide) (by rw [hb13]; decide) (by rw [hb13]; rfl) (by decide) ?_
            refine sx_aload_n (i := 0) k239_80 rfl rfl ?_
            refine cx_getR (k := 9) k239_81 ow_239 fl_11_84 (by decide) sk_0 ft_10_9 sr_0_9 ?_
            refine cx_getR (k := 3) k239_84 ow_239 fl_11_456 (by decide) sk_101 ft_0_3 sr_101_3 ?_
            refine sx_iload_n (i := 3) k239_87 rfl rfl ?_
            obtain ⟨r11, e12, h⟩ := Option.bind_eq_some_iff.mp h
            refine cx_V (sk := []) (vs := [.int r2.2]) st_239_166 k239_88 ow_239 cl_11_339 (by decide) rfl (Nat.le_of_ble_eq_true rfl) sk_108 (ok166 108 r2.2 sk_108 _ _ e12) (sk3 := [.int r11.2]) rfl rfl ?_
            exact cx_reti k239_91 rt_239 h
          · rw [if_neg hb13] at h
            refine sx_tableOut (tgt := 92) k239_31 (sw_out (n := 3) (fun j hj => ?_)) (by decide) ?_
            · intro hj2
              exact sw_no [(0 : Int32), (1 : Int32), (2 : Int32)] (by decide) hj hj2 ⟨hb7, hb10, hb13, trivial⟩
            ·
              refine sx_iconst (v := -1) k239_92 (by decide) ?_
              exact cx_reti k239_93 rt_239 h
    · rw [if_neg hb4] at h
      refine sx_if_ge (tgt := 30) k239_25 (by decide) (fun q => absurd q hb4) (fun _ => ?_)
      refine sx_iconst (v := -1) k239_28 (by decide) ?_
      exact cx_reti k239_29 rt_239 h
theorem k240_0 : decode (gb 240) 0 = .ok (.iload_n 1, 1) := by decide +kernel
theorem k240_1 : decode (gb 240) 1 = .ok (.ifCond .lt 8, 3) := by decide +kernel
theorem k240_4 : decode (gb 240) 4 = .ok (.iload_n 1, 1) := by decide +kernel
theorem k240_5 : decode (gb 240) 5 = .ok (.iconst 2, 1) := by decide +kernel
theorem k240_6 : decode (gb 240) 6 = .ok (.if_icmp .lt 5, 3) := by decide +kernel
theorem k240_9 : decode (gb 240) 9 = .ok (.iconst (-1), 1) := by decide +kernel
theorem k240_10 : decode (gb 240) 10 = .ok (.ireturn, 1) := by decide +kernel
theorem k240_11 : decode (gb 240) 11 = .ok (.aload_n 0, 1) := by decide +kernel
theorem k240_12 : decode (gb 240) 12 = .ok (.getfield 75, 3) := by decide +kernel
theorem k240_15 : decode (gb 240) 15 = .ok (.getfield 459, 3) := by decide +kernel
theorem k240_18 : decode (gb 240) 18 = .ok (.iload_n 1, 1) := by decide +kernel
theorem k240_19 : decode (gb 240) 19 = .ok (.aaload, 1) := by decide +kernel
theorem k240_20 : decode (gb 240) 20 = .ok (.astore_n 3, 1) := by decide +kernel
theorem k240_21 : decode (gb 240) 21 = .ok (.aload_n 3, 1) := by decide +kernel
theorem k240_22 : decode (gb 240) 22 = .ok (.getfield 463, 3) := by decide +kernel
theorem k240_25 : decode (gb 240) 25 = .ok (.astore 4, 2) := by decide +kernel
theorem k240_27 : decode (gb 240) 27 = .ok (.iload_n 2, 1) := by decide +kernel
theorem k240_28 : decode (gb 240) 28 = .ok (.tableswitch 134 0 7 #[48, 53, 66, 72, 78, 83, 88, 108], 48) := by decide +kernel
theorem k240_76 : decode (gb 240) 76 = .ok (.aload_n 3, 1) := by decide +kernel
theorem k240_77 : decode (gb 240) 77 = .ok (.getfield 468, 3) := by decide +kernel
theorem k240_80 : decode (gb 240) 80 = .ok (.ireturn, 1) := by decide +kernel
theorem k240_81 : decode (gb 240) 81 = .ok (.aload_n 3, 1) := by decide +kernel
theorem k240_82 : decode (gb 240) 82 = .ok (.getfield 471, 3) := by decide +kernel
theorem k240_85 : decode (gb 240) 85 = .ok (.ifCond .eq 7, 3) := by decide +kernel
theorem k240_88 : decode (gb 240) 88 = .ok (.iconst 1, 1) := by decide +kernel
theorem k240_89 : decode (gb 240) 89 = .ok (.goto 4, 3) := by decide +kernel
theorem k240_92 : decode (gb 240) 92 = .ok (.iconst 0, 1) := by decide +kernel
theorem k240_93 : decode (gb 240) 93 = .ok (.ireturn, 1) := by decide +kernel
theorem k240_94 : decode (gb 240) 94 = .ok (.aload 4, 2) := by decide +kernel
theorem k240_96 : decode (gb 240) 96 = .ok (.getfield 404, 3) := by decide +kernel
theorem k240_99 : decode (gb 240) 99 = .ok (.ireturn, 1) := by decide +kernel
theorem k240_100 : decode (gb 240) 100 = .ok (.aload 4, 2) := by decide +kernel
theorem k240_102 : decode (gb 240) 102 = .ok (.getfield 474, 3) := by decide +kernel
theorem k240_105 : decode (gb 240) 105 = .ok (.ireturn, 1) := by decide +kernel
theorem k240_106 : decode (gb 240) 106 = .ok (.aload_n 3, 1) := by decide +kernel
theorem k240_107 : decode (gb 240) 107 = .ok (.getfield 477, 3) := by decide +kernel
theorem k240_110 : decode (gb 240) 110 = .ok (.ireturn, 1) := by decide +kernel
theorem k240_111 : decode (gb 240) 111 = .ok (.aload_n 3, 1) := by decide +kernel
theorem k240_112 : decode (gb 240) 112 = .ok (.getfield 480, 3) := by decide +kernel
theorem k240_115 : decode (gb 240) 115 = .ok (.ireturn, 1) := by decide +kernel
theorem k240_116 : decode (gb 240) 116 = .ok (.aload 4, 2) := by decide +kernel
theorem k240_118 : decode (gb 240) 118 = .ok (.getfield 404, 3) := by decide +kernel
theorem k240_121 : decode (gb 240) 121 = .ok (.ifCond .ne 8, 3) := by decide +kernel
theorem k240_124 : decode (gb 240) 124 = .ok (.bipush (-2), 2) := by decide +kernel
theorem k240_126 : decode (gb 240) 126 = .ok (.goto 9, 3) := by decide +kernel
theorem k240_129 : decode (gb 240) 129 = .ok (.aload 4, 2) := by decide +kernel
theorem k240_131 : decode (gb 240) 131 = .ok (.iconst 0, 1) := by decide +kernel
theorem k240_132 : decode (gb 240) 132 = .ok (.invokevirtual 328, 3) := by decide +kernel
theorem k240_135 : decode (gb 240) 135 = .ok (.ireturn, 1) := by decide +kernel
theorem k240_136 : decode (gb 240) 136 = .ok (.aload 4, 2) := by decide +kernel
theorem k240_138 : decode (gb 240) 138 = .ok (.getfield 404, 3) := by decide +kernel
theorem k240_141 : decode (gb 240) 141 = .ok (.ifCond .ne 8, 3) := by decide +kernel
theorem k240_144 : decode (gb 240) 144 = .ok (.bipush (-2), 2) := by decide +kernel
theorem k240_146 : decode (gb 240) 146 = .ok (.goto 15, 3) := by decide +kernel
theorem k240_149 : decode (gb 240) 149 = .ok (.aload 4, 2) := by decide +kernel
theorem k240_151 : decode (gb 240) 151 = .ok (.aload 4, 2) := by decide +kernel
theorem k240_153 : decode (gb 240) 153 = .ok (.getfield 404, 3) := by decide +kernel
theorem k240_156 : decode (gb 240) 156 = .ok (.iconst 1, 1) := by decide +kernel
theorem k240_157 : decode (gb 240) 157 = .ok (.isub, 1) := by decide +kernel
theorem k240_158 : decode (gb 240) 158 = .ok (.invokevirtual 328, 3) := by decide +kernel
theorem k240_161 : decode (gb 240) 161 = .ok (.ireturn, 1) := by decide +kernel
theorem k240_162 : decode (gb 240) 162 = .ok (.iconst (-1), 1) := by decide +kernel
theorem k240_163 : decode (gb 240) 163 = .ok (.ireturn, 1) := by decide +kernel
/-- CraftHouse.store(II)I -/
def f240 (p1 : Int32) (p2 : Int32) (μ : Mem) : Option (Mem × Int32) :=
  if p1 < 0 then
    some (μ, (-1 : Int32))
  else
    if p1 < (2 : Int32) then
      (ldR 58 p1).bind fun o3 =>
      if p2 = (0 : Int32) then
        some (μ, (μ.1 o3 3))
      else if p2 = (1 : Int32) then
        if (μ.1 o3 4) = 0 then
          some (μ, (0 : Int32))
        else
          some (μ, (1 : Int32))
      else if p2 = (2 : Int32) then
        some (μ, (μ.1 (o3 + 1) 5))
      else if p2 = (3 : Int32) then
        some (μ, (μ.1 (o3 + 1) 6))
      else if p2 = (4 : Int32) then
        some (μ, (μ.1 o3 5))
      else if p2 = (5 : Int32) then
        some (μ, (μ.1 o3 2))
      else if p2 = (6 : Int32) then
        if (μ.1 (o3 + 1) 5) = 0 then
          some (μ, (-2 : Int32))
        else
          (f167 (o3 + 1) (0 : Int32) μ).bind fun r13 =>
          some (r13.1, r13.2)
      else if p2 = (7 : Int32) then
        if (μ.1 (o3 + 1) 5) = 0 then
          some (μ, (-2 : Int32))
        else
          (f167 (o3 + 1) ((μ.1 (o3 + 1) 5) - (1 : Int32)) μ).bind fun r17 =>
          some (r17.1, r17.2)
      else 
        some (μ, (-1 : Int32))
    else
      some (μ, (-1 : Int32))
theorem ok240 {L : Nat} (p1 : Int32) (p2 : Int32) (μ : Mem) (res : Mem × Int32) (h : f240 p1 p2 μ = some res) : Mx 240 [.ref 0, .int p1, .int p2] (mk L μ) (mk L res.1, some (.int res.2)) := by
  refine Mx_of ml_240 (by rw [mx_240]; exact Nat.le_of_ble_eq_true rfl) ?_
  show Sx 240 0 [(0, .ref 0), (1, .int p1), (2, .int p2)] [] 0 0 (mk L μ) _
  unfold f240 at h
  refine sx_iload_n (i := 1) k240_0 rfl rfl ?_
  by_cases hb1 : p1 < 0
  · rw [if_pos hb1] at h
    refine sx_if_lt (tgt := 9) k240_1 (by decide) (fun _ => ?_) (fun q => absurd hb1 q)
    refine sx_iconst (v := -1) k240_9 (by decide) ?_
    exact cx_reti k240_10 rt_240 h
  · rw [if_neg hb1] at h
    refine sx_if_lt (tgt := 9) k240_1 (by decide) (fun q => absurd q hb1) (fun _ => ?_)
    refine sx_iload_n (i := 1) k240_4 rfl rfl ?_
    refine sx_iconst (v := 2) k240_5 (by decide) ?_
    by_cases hb2 : p1 < (2 : Int32)
    · rw [if_pos hb2] at h
      refine sx_icmp_lt (tgt := 11) k240_6 (by decide) (fun _ => ?_) (fun q => absurd hb2 q)
      refine sx_aload_n (i := 0) k240_11 rfl rfl ?_
      refine cx_getR (k := 8) k240_12 ow_240 fl_11_75 (by decide) sk_0 ft_10_8 sr_0_8 ?_
      refine cx_getR (k := 2) k240_15 ow_240 fl_11_459 (by decide) sk_57 ft_5_2 sr_57_2 ?_
      refine sx_iload_n (i := 1) k240_18 rfl rfl ?_
      obtain ⟨o3, e4, h⟩ := Option.bind_eq_some_iff.mp h
      refine cx_aald (t := 1) k240_19 (by decide) sk_58 e4 ?_
      refine cx_astore_n (lo2 := [(3, .ref o3), (0, .ref 0), (1, .int p1), (2, .int p2)]) k240_20 rfl (by rw [mx_240]; decide) rfl ?_
      refine sx_aload_n (i := 3) k240_21 rfl rfl ?_
      refine cx_getR (k := 0) k240_22 ow_240 fl_11_463 (by decide) (lk_58 e4) ft_8_0 (kf_8_0 (lk_58 e4)).1 ?_
      refine cx_astore (lo2 := [(4, .ref (o3 + 1)), (3, .ref o3), (0, .ref 0), (1, .int p1), (2, .int p2)]) k240_25 (by rw [mx_240]; decide) rfl ?_
      refine sx_iload_n (i := 2) k240_27 rfl rfl ?_
      by_cases hb5 : p2 = (0 : Int32)
      · rw [if_pos hb5] at h
        refine sx_tableIn (off := 48) (tgt := 76) k240_28 (by rw [hb5]; decide) (by rw [hb5]; decide) (by rw [hb5]; rfl) (by decide) ?_
        refine sx_aload_n (i := 3) k240_76 rfl rfl ?_
        refine cx_getI (k := 3) k240_77 ow_240 fl_11_468 (by decide) (lk_58 e4) ft_8_3 ?_
        exact cx_reti k240_80 rt_240 h
      · rw [if_neg hb5] at h
        by_cases hb7 : p2 = (1 : Int32)
        · rw [if_pos hb7] at h
          refine sx_tableIn (off := 53) (tgt := 81) k240_28 (by rw [hb7]; decide) (by rw [hb7]; decide) (by rw [hb7]; rfl) (by decide) ?_
          refine sx_aload_n (i := 3) k240_81 rfl rfl ?_
          refine cx_getI (k := 4) k240_82 ow_240 fl_11_471 (by decide) (lk_58 e4) ft_8_4 ?_
          by_cases hb6 : (μ.1 o3 4) = 0
          · rw [if_pos hb6] at h
            refine sx_if_eq (tgt := 92) k240_85 (by decide) (fun _ => ?_) (fun q => absurd hb6 q)
            refine sx_iconst (v := 0) k240_92 (by decide) ?_
            exact cx_reti k240_93 rt_240 h
          · rw [if_neg hb6] at h
            refine sx_if_eq (tgt := 92) k240_85 (by decide) (fun q => absurd q hb6) (fun _ => ?_)
            refine sx_iconst (v := 1) k240_88 (by decide) ?_
            refine sx_goto (tgt := 93) k240_89 (by decide) ?_
            exact cx_reti k240_93 rt_240 h
        · rw [if_neg hb7] at h
          by_cases hb8 : p2 = (2 : Int32)
          · rw [if_pos hb8] at h
            refine sx_tableIn (off := 66) (tgt := 94) k240_28 (by rw [hb8]; decide) (by rw [hb8]; decide) (by rw [hb8]; rfl) (by decide) ?_
            refine sx_aload k240_94 rfl ?_
            refine cx_getI (k := 5) k240_96 ow_240 fl_11_404 (by decide) (kf_8_0 (lk_58 e4)).2 ft_7_5 ?_
            exact cx_reti k240_99 rt_240 h
          · rw [if_neg hb8] at h
            by_cases hb9 : p2 = (3 : Int32)
            · rw [if_pos hb9] at h
              refine sx_tableIn (off := 72) (tgt := 100) k240_28 (by rw [hb9]; decide) (by rw [hb9]; decide) (by rw [hb9]; rfl) (by decide) ?_
              refine sx_aload k240_100 rfl ?_
              refine cx_getI (k := 6) k240_102 ow_240 fl_11_474 (by decide) (kf_8_0 (lk_58 e4)).2 ft_7_6 ?_
              exact cx_reti k240_105 rt_240 h
            · rw [if_neg hb9] at h
              by_cases hb10 : p2 = (4 : Int32)
              · rw [if_pos hb10] at h
                refine sx_tableIn (off := 78) (tgt := 106) k240_28 (by rw [hb10]; decide) (by rw [hb10]; decide) (by rw [hb10]; rfl) (by decide) ?_
                refine sx_aload_n (i := 3) k240_106 rfl rfl ?_
                refine cx_getI (k := 5) k240_107 ow_240 fl_11_477 (by decide) (lk_58 e4) ft_8_5 ?_
                exact cx_reti k240_110 rt_240 h
              · rw [if_neg hb10] at h
                by_cases hb11 : p2 = (5 : Int32)
                · rw [if_pos hb11] at h
                  refine sx_tableIn (off := 83) (tgt := 111) k240_28 (by rw [hb11]; decide) (by rw [hb11]; decide) (by rw [hb11]; rfl) (by decide) ?_
                  refine sx_aload_n (i := 3) k240_111 rfl rfl ?_
                  refine cx_getI (k := 2) k240_112 ow_240 fl_11_480 (by decide) (lk_58 e4) ft_8_2 ?_
                  exact cx_reti k240_115 rt_240 h
                · rw [if_neg hb11] at h
                  by_cases hb15 : p2 = (6 : Int32)
                  · rw [if_pos hb15] at h
                    refine sx_tableIn (off := 88) (tgt := 116) k240_28 (by rw [hb15]; decide) (by rw [hb15]; decide) (by rw [hb15]; rfl) (by decide) ?_
                    refine sx_aload k240_116 rfl ?_
                    refine cx_getI (k := 5) k240_118 ow_240 fl_11_404 (by decide) (kf_8_0 (lk_58 e4)).2 ft_7_5 ?_
                    by_cases hb12 : (μ.1 (o3 + 1) 5) = 0
                    · rw [if_pos hb12] at h
                      refine sx_if_ne (tgt := 129) k240_121 (by decide) (fun q => absurd hb12 q) (fun _ => ?_)
                      refine sx_bipush (v := -2) k240_124 (by decide) ?_
                      refine sx_goto (tgt := 135) k240_126 (by decide) ?_
                      exact cx_reti k240_135 rt_240 h
                    · rw [if_neg hb12] at h
                      refine sx_if_ne (tgt := 129) k240_121 (by decide) (fun _ => ?_) (fun q => absurd q hb12)
                      refine sx_aload k240_129 rfl ?_
                      refine sx_iconst (v := 0) k240_131 (by decide) ?_
                      obtain ⟨r13, e14, h⟩ := Option.bind_eq_some_iff.mp h
                      refine cx_V (sk := []) (vs := [.int (0 : Int32)]) st_240_167 k240_132 ow_240 cl_11_328 (by decide) rfl (Nat.le_of_ble_eq_true rfl) (kf_8_0 (lk_58 e4)).2 (ok167 (o3 + 1) (0 : Int32) (kf_8_0 (lk_58 e4)).2 _ _ e14) (sk3 := [.int r13.2]) rfl rfl ?_
                      exact cx_reti k240_135 rt_240 h
                  · rw [if_neg hb15] at h
                    by_cases hb19 : p2 = (7 : Int32)
                    · rw [if_pos hb19] at h
                      refine sx_tableIn (off := 108) (tgt := 136) k240_28 (by rw [hb19]; decide) (by rw [hb19]; decide) (by rw [hb19]; rfl) (by decide) ?_
                      refine sx_aload k240_136 rfl ?_
                      refine cx_getI (k := 5) k240_138 ow_240 fl_11_404 (by decide) (kf_8_0 (lk_58 e4)).2 ft_7_5 ?_
                      by_cases hb16 : (μ.1 (o3 + 1) 5) = 0
                      · rw [if_pos hb16] at h
                        refine sx_if_ne (tgt := 149) k240_141 (by decide) (fun q => absurd hb16 q) (fun _ => ?_)
                        refine sx_bipush (v := -2) k240_144 (by decide) ?_
                        refine sx_goto (tgt := 161) k240_146 (by decide) ?_
                        exact cx_reti k240_161 rt_240 h
                      · rw [if_neg hb16] at h
                        refine sx_if_ne (tgt := 149) k240_141 (by decide) (fun _ => ?_) (fun q => absurd q hb16)
                        refine sx_aload k240_149 rfl ?_
                        refine sx_aload k240_151 rfl ?_
                        refine cx_getI (k := 5) k240_153 ow_240 fl_11_404 (by decide) (kf_8_0 (lk_58 e4)).2 ft_7_5 ?_
                        refine sx_iconst (v := 1) k240_156 (by decide) ?_
                        refine sx_isub k240_157 ?_
                        obtain ⟨r17, e18, h⟩ := Option.bind_eq_some_iff.mp h
                        refine cx_V (sk := []) (vs := [.int ((μ.1 (o3 + 1) 5) - (1 : Int32))]) st_240_167 k240_158 ow_240 cl_11_328 (by decide) rfl (Nat.le_of_ble_eq_true rfl) (kf_8_0 (lk_58 e4)).2 (ok167 (o3 + 1) ((μ.1 (o3 + 1) 5) - (1 : Int32)) (kf_8_0 (lk_58 e4)).2 _ _ e18) (sk3 := [.int r17.2]) rfl rfl ?_
                        exact cx_reti k240_161 rt_240 h
                    · rw [if_neg hb19] at h
                      refine sx_tableOut (tgt := 162) k240_28 (sw_out (n := 8) (fun j hj => ?_)) (by decide) ?_
                      · intro hj2
                        exact sw_no [(0 : Int32), (1 : Int32), (2 : Int32), (3 : Int32), (4 : Int32), (5 : Int32), (6 : Int32), (7 : Int32)] (by decide) hj hj2 ⟨hb5, hb7, hb8, hb9, hb10, hb11, hb15, hb19, trivial⟩
                      ·
                        refine sx_iconst (v := -1) k240_162 (by decide) ?_
                        exact cx_reti k240_163 rt_240 h
    · rw [if_neg hb2] at h
      refine sx_icmp_lt (tgt := 11) k240_6 (by decide) (fun q => absurd q hb2) (fun _ => ?_)
      refine sx_iconst (v := -1) k240_9 (by decide) ?_
      exact cx_reti k240_10 rt_240 h
