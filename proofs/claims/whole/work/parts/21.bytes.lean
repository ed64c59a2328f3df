theorem k64_0 : decode (gb 64) 0 = .ok (.aload_n 0, 1) := by decide +kernel
theorem k64_1 : decode (gb 64) 1 = .ok (.iconst 0, 1) := by decide +kernel
theorem k64_2 : decode (gb 64) 2 = .ok (.putfield 19, 3) := by decide +kernel
theorem k64_5 : decode (gb 64) 5 = .ok (.return_, 1) := by decide +kernel
/-- Bytes.clear()V -/
def f64 (a0 : Nat) (μ : Mem) : Option (Mem) :=
  (pfI a0 1 (0 : Int32) μ).bind fun m1 =>
  some m1
theorem ok64 {L : Nat} (a0 : Nat) (h0 : SK0 a0 = (0, 1)) (μ : Mem) (res : Mem) (h : f64 a0 μ = some res) : Mx 64 [.ref a0] (mk L μ) (mk L res, none) := by
  refine Mx_of ml_64 (by rw [mx_64]; exact Nat.le_of_ble_eq_true rfl) ?_
  show Sx 64 0 [(0, .ref a0)] [] 0 0 (mk L μ) _
  unfold f64 at h
  refine sx_aload_n (i := 0) k64_0 rfl rfl ?_
  refine sx_iconst (v := 0) k64_1 (by decide) ?_
  obtain ⟨m1, e2, h⟩ := Option.bind_eq_some_iff.mp h
  refine cx_putI (k := 1) k64_2 ow_64 fl_2_19 (by decide) h0 nf_1_1 fu_1_1 e2 ?_
  exact cx_retv k64_5 rt_64 h
theorem k65_0 : decode (gb 65) 0 = .ok (.aload_n 0, 1) := by decide +kernel
theorem k65_1 : decode (gb 65) 1 = .ok (.getfield 19, 3) := by decide +kernel
theorem k65_4 : decode (gb 65) 4 = .ok (.aload_n 0, 1) := by decide +kernel
theorem k65_5 : decode (gb 65) 5 = .ok (.getfield 13, 3) := by decide +kernel
theorem k65_8 : decode (gb 65) 8 = .ok (.arraylength, 1) := by decide +kernel
theorem k65_9 : decode (gb 65) 9 = .ok (.if_icmp .ge 24, 3) := by decide +kernel
theorem k65_12 : decode (gb 65) 12 = .ok (.aload_n 0, 1) := by decide +kernel
theorem k65_13 : decode (gb 65) 13 = .ok (.getfield 13, 3) := by decide +kernel
theorem k65_16 : decode (gb 65) 16 = .ok (.aload_n 0, 1) := by decide +kernel
theorem k65_17 : decode (gb 65) 17 = .ok (.getfield 19, 3) := by decide +kernel
theorem k65_20 : decode (gb 65) 20 = .ok (.iload_n 1, 1) := by decide +kernel
theorem k65_21 : decode (gb 65) 21 = .ok (.i2b, 1) := by decide +kernel
theorem k65_22 : decode (gb 65) 22 = .ok (.bastore, 1) := by decide +kernel
theorem k65_23 : decode (gb 65) 23 = .ok (.aload_n 0, 1) := by decide +kernel
theorem k65_24 : decode (gb 65) 24 = .ok (.dup, 1) := by decide +kernel
theorem k65_25 : decode (gb 65) 25 = .ok (.getfield 19, 3) := by decide +kernel
theorem k65_28 : decode (gb 65) 28 = .ok (.iconst 1, 1) := by decide +kernel
theorem k65_29 : decode (gb 65) 29 = .ok (.iadd, 1) := by decide +kernel
theorem k65_30 : decode (gb 65) 30 = .ok (.putfield 19, 3) := by decide +kernel
theorem k65_33 : decode (gb 65) 33 = .ok (.return_, 1) := by decide +kernel
/-- Bytes.put(I)V -/
def f65 (a0 : Nat) (p1 : Int32) (μ : Mem) : Option (Mem) :=
  if (nI (gln (a0 + 1))) ≤ (μ.1 a0 1) then
    some μ
  else
    (stB (a0 + 1) (μ.1 a0 1) (p1.toInt8.toInt32) μ).bind fun m2 =>
    (pfI a0 1 ((m2.1 a0 1) + (1 : Int32)) m2).bind fun m4 =>
    some m4
theorem ok65 {L : Nat} (a0 : Nat) (p1 : Int32) (h0 : SK0 a0 = (0, 1)) (μ : Mem) (res : Mem) (h : f65 a0 p1 μ = some res) : Mx 65 [.ref a0, .int p1] (mk L μ) (mk L res, none) := by
  refine Mx_of ml_65 (by rw [mx_65]; exact Nat.le_of_ble_eq_true rfl) ?_
  show Sx 65 0 [(0, .ref a0), (1, .int p1)] [] 0 0 (mk L μ) _
  unfold f65 at h
  refine sx_aload_n (i := 0) k65_0 rfl rfl ?_
  refine cx_getI (k := 1) k65_1 ow_65 fl_2_19 (by decide) h0 ft_1_1 ?_
  refine sx_aload_n (i := 0) k65_4 rfl rfl ?_
  refine cx_getR (k := 0) k65_5 ow_65 fl_2_13 (by decide) h0 ft_1_0 (kf_1_0 h0).1 ?_
  refine cx_alen (t := 1) k65_8 (by decide) (kf_1_0 h0).2 ?_
  by_cases hb1 : (nI (gln (a0 + 1))) ≤ (μ.1 a0 1)
  · rw [if_pos hb1] at h
    refine sx_icmp_ge (tgt := 33) k65_9 (by decide) (fun _ => ?_) (fun q => absurd hb1 q)
    exact cx_retv k65_33 rt_65 h
  · rw [if_neg hb1] at h
    refine sx_icmp_ge (tgt := 33) k65_9 (by decide) (fun q => absurd q hb1) (fun _ => ?_)
    refine sx_aload_n (i := 0) k65_12 rfl rfl ?_
    refine cx_getR (k := 0) k65_13 ow_65 fl_2_13 (by decide) h0 ft_1_0 (kf_1_0 h0).1 ?_
    refine sx_aload_n (i := 0) k65_16 rfl rfl ?_
    refine cx_getI (k := 1) k65_17 ow_65 fl_2_19 (by decide) h0 ft_1_1 ?_
    refine sx_iload_n (i := 1) k65_20 rfl rfl ?_
    refine sx_i2b k65_21 ?_
    obtain ⟨m2, e3, h⟩ := Option.bind_eq_some_iff.mp h
    refine cx_bast k65_22 (kf_1_0 h0).2 e3 ?_
    refine sx_aload_n (i := 0) k65_23 rfl rfl ?_
    refine sx_dup k65_24 rfl ?_
    refine cx_getI (k := 1) k65_25 ow_65 fl_2_19 (by decide) h0 ft_1_1 ?_
    refine sx_iconst (v := 1) k65_28 (by decide) ?_
    refine sx_iadd k65_29 ?_
    obtain ⟨m4, e5, h⟩ := Option.bind_eq_some_iff.mp h
    refine cx_putI (k := 1) k65_30 ow_65 fl_2_19 (by decide) h0 nf_1_1 fu_1_1 e5 ?_
    exact cx_retv k65_33 rt_65 h
theorem k66_0 : decode (gb 66) 0 = .ok (.aload_n 0, 1) := by decide +kernel
theorem k66_1 : decode (gb 66) 1 = .ok (.iload_n 1, 1) := by decide +kernel
theorem k66_2 : decode (gb 66) 2 = .ok (.bipush 8, 2) := by decide +kernel
theorem k66_4 : decode (gb 66) 4 = .ok (.ishr, 1) := by decide +kernel
theorem k66_5 : decode (gb 66) 5 = .ok (.invokevirtual 23, 3) := by decide +kernel
theorem k66_8 : decode (gb 66) 8 = .ok (.aload_n 0, 1) := by decide +kernel
theorem k66_9 : decode (gb 66) 9 = .ok (.iload_n 1, 1) := by decide +kernel
theorem k66_10 : decode (gb 66) 10 = .ok (.invokevirtual 23, 3) := by decide +kernel
theorem k66_13 : decode (gb 66) 13 = .ok (.return_, 1) := by decide +kernel
/-- Bytes.putTwo(I)V -/
def f66 (a0 : Nat) (p1 : Int32) (μ : Mem) : Option (Mem) :=
  (f65 a0 (jshr p1 (8 : Int32)) μ).bind fun r1 =>
  (f65 a0 p1 r1).bind fun r3 =>
  some r3
theorem ok66 {L : Nat} (a0 : Nat) (p1 : Int32) (h0 : SK0 a0 = (0, 1)) (μ : Mem) (res : Mem) (h : f66 a0 p1 μ = some res) : Mx 66 [.ref a0, .int p1] (mk L μ) (mk L res, none) := by
  refine Mx_of ml_66 (by rw [mx_66]; exact Nat.le_of_ble_eq_true rfl) ?_
  show Sx 66 0 [(0, .ref a0), (1, .int p1)] [] 0 0 (mk L μ) _
  unfold f66 at h
  refine sx_aload_n (i := 0) k66_0 rfl rfl ?_
  refine sx_iload_n (i := 1) k66_1 rfl rfl ?_
  refine sx_bipush (v := 8) k66_2 (by decide) ?_
  refine sx_ishr k66_4 ?_
  obtain ⟨r1, e2, h⟩ := Option.bind_eq_some_iff.mp h
  refine cx_V (sk := []) (vs := [.int (jshr p1 (8 : Int32))]) st_66_65 k66_5 ow_66 cl_2_23 (by decide) rfl (Nat.le_of_ble_eq_true rfl) h0 (ok65 a0 (jshr p1 (8 : Int32)) h0 _ _ e2) (sk3 := []) rfl rfl ?_
  refine sx_aload_n (i := 0) k66_8 rfl rfl ?_
  refine sx_iload_n (i := 1) k66_9 rfl rfl ?_
  obtain ⟨r3, e4, h⟩ := Option.bind_eq_some_iff.mp h
  refine cx_V (sk := []) (vs := [.int p1]) st_66_65 k66_10 ow_66 cl_2_23 (by decide) rfl (Nat.le_of_ble_eq_true rfl) h0 (ok65 a0 p1 h0 _ _ e4) (sk3 := []) rfl rfl ?_
  exact cx_retv k66_13 rt_66 h
theorem k75_0 : decode (gb 75) 0 = .ok (.iload_n 1, 1) := by decide +kernel
theorem k75_1 : decode (gb 75) 1 = .ok (.ifCond .lt 24, 3) := by decide +kernel
theorem k75_4 : decode (gb 75) 4 = .ok (.iload_n 1, 1) := by decide +kernel
theorem k75_5 : decode (gb 75) 5 = .ok (.aload_n 0, 1) := by decide +kernel
theorem k75_6 : decode (gb 75) 6 = .ok (.getfield 19, 3) := by decide +kernel
theorem k75_9 : decode (gb 75) 9 = .ok (.if_icmp .ge 16, 3) := by decide +kernel
theorem k75_12 : decode (gb 75) 12 = .ok (.aload_n 0, 1) := by decide +kernel
theorem k75_13 : decode (gb 75) 13 = .ok (.getfield 13, 3) := by decide +kernel
theorem k75_16 : decode (gb 75) 16 = .ok (.iload_n 1, 1) := by decide +kernel
theorem k75_17 : decode (gb 75) 17 = .ok (.baload, 1) := by decide +kernel
theorem k75_18 : decode (gb 75) 18 = .ok (.sipush 255, 3) := by decide +kernel
theorem k75_21 : decode (gb 75) 21 = .ok (.iand, 1) := by decide +kernel
theorem k75_22 : decode (gb 75) 22 = .ok (.goto 4, 3) := by decide +kernel
theorem k75_25 : decode (gb 75) 25 = .ok (.iconst 0, 1) := by decide +kernel
theorem k75_26 : decode (gb 75) 26 = .ok (.ireturn, 1) := by decide +kernel
/-- Bytes.at(I)I -/
def f75 (a0 : Nat) (p1 : Int32) (μ : Mem) : Option (Mem × Int32) :=
  if p1 < 0 then
    some (μ, (0 : Int32))
  else
    if (μ.1 a0 1) ≤ p1 then
      some (μ, (0 : Int32))
    else
      (ldA (a0 + 1) p1 μ).bind fun x3 =>
      some (μ, (x3 &&& (255 : Int32)))
theorem ok75 {L : Nat} (a0 : Nat) (p1 : Int32) (h0 : SK0 a0 = (0, 1)) (μ : Mem) (res : Mem × Int32) (h : f75 a0 p1 μ = some res) : Mx 75 [.ref a0, .int p1] (mk L μ) (mk L res.1, some (.int res.2)) := by
  refine Mx_of ml_75 (by rw [mx_75]; exact Nat.le_of_ble_eq_true rfl) ?_
  show Sx 75 0 [(0, .ref a0), (1, .int p1)] [] 0 0 (mk L μ) _
  unfold f75 at h
  refine sx_iload_n (i := 1) k75_0 rfl rfl ?_
  by_cases hb1 : p1 < 0
  · rw [if_pos hb1] at h
    refine sx_if_lt (tgt := 25) k75_1 (by decide) (fun _ => ?_) (fun q => absurd hb1 q)
    refine sx_iconst (v := 0) k75_25 (by decide) ?_
    exact cx_reti k75_26 rt_75 h
  · rw [if_neg hb1] at h
    refine sx_if_lt (tgt := 25) k75_1 (by decide) (fun q => absurd q hb1) (fun _ => ?_)
    refine sx_iload_n (i := 1) k75_4 rfl rfl ?_
    refine sx_aload_n (i := 0) k75_5 rfl rfl ?_
    refine cx_getI (k := 1) k75_6 ow_75 fl_2_19 (by decide) h0 ft_1_1 ?_
    by_cases hb2 : (μ.1 a0 1) ≤ p1
    · rw [if_pos hb2] at h
      refine sx_icmp_ge (tgt := 25) k75_9 (by decide) (fun _ => ?_) (fun q => absurd hb2 q)
      refine sx_iconst (v := 0) k75_25 (by decide) ?_
      exact cx_reti k75_26 rt_75 h
    · rw [if_neg hb2] at h
      refine sx_icmp_ge (tgt := 25) k75_9 (by decide) (fun q => absurd q hb2) (fun _ => ?_)
      refine sx_aload_n (i := 0) k75_12 rfl rfl ?_
      refine cx_getR (k := 0) k75_13 ow_75 fl_2_13 (by decide) h0 ft_1_0 (kf_1_0 h0).1 ?_
      refine sx_iload_n (i := 1) k75_16 rfl rfl ?_
      obtain ⟨x3, e4, h⟩ := Option.bind_eq_some_iff.mp h
      refine cx_bald k75_17 (Or.inl (kf_1_0 h0).2) e4 ?_
      refine sx_sipush (v := 255) k75_18 (by decide) ?_
      refine sx_iand k75_21 ?_
      refine sx_goto (tgt := 26) k75_22 (by decide) ?_
      exact cx_reti k75_26 rt_75 h
theorem k68_0 : decode (gb 68) 0 = .ok (.bipush 56, 2) := by decide +kernel
theorem k68_2 : decode (gb 68) 2 = .ok (.istore_n 3, 1) := by decide +kernel
theorem k68_3 : decode (gb 68) 3 = .ok (.iload_n 3, 1) := by decide +kernel
theorem k68_4 : decode (gb 68) 4 = .ok (.bipush 8, 2) := by decide +kernel
theorem k68_6 : decode (gb 68) 6 = .ok (.if_icmp .lt 17, 3) := by decide +kernel
theorem k68_9 : decode (gb 68) 9 = .ok (.aload_n 0, 1) := by decide +kernel
theorem k68_10 : decode (gb 68) 10 = .ok (.lload_n 1, 1) := by decide +kernel
theorem k68_11 : decode (gb 68) 11 = .ok (.iload_n 3, 1) := by decide +kernel
theorem k68_12 : decode (gb 68) 12 = .ok (.lushr, 1) := by decide +kernel
theorem k68_13 : decode (gb 68) 13 = .ok (.l2i, 1) := by decide +kernel
theorem k68_14 : decode (gb 68) 14 = .ok (.invokevirtual 23, 3) := by decide +kernel
theorem k68_17 : decode (gb 68) 17 = .ok (.iinc 3 (-8), 3) := by decide +kernel
theorem k68_20 : decode (gb 68) 20 = .ok (.goto (-17), 3) := by decide +kernel
theorem k68_23 : decode (gb 68) 23 = .ok (.return_, 1) := by decide +kernel
def b68_3 (a0 : Nat) (kl3 : Int64 → Int32 → Mem → Option (Mem)) (w1 : Int64) (v3 : Int32) (μ : Mem) : Option (Mem) :=
  if v3 < (8 : Int32) then
    some μ
  else
    (f65 a0 (Int64.toInt32 (jlushr w1 v3)) μ).bind fun r2 =>
    nm (v3 + (-8 : Int32)) fun x4 =>
    kl3 w1 x4 r2
theorem b68_3_ok {L : Nat} (a0 : Nat) (h0 : SK0 a0 = (0, 1)) (kl3 : Int64 → Int32 → Mem → Option (Mem)) (hk3 : (∀ (w1 : Int64) (v3 : Int32) (μ : Mem) (res : Mem), kl3 w1 v3 μ = some res → Sx 68 3 [(0, .ref a0), (1, .long w1), (3, .int v3)] [] 0 0 (mk L μ) (mk L res, none))) (w1 : Int64) (v3 : Int32) (μ : Mem) (res : Mem) (h : b68_3 a0 kl3 w1 v3 μ = some res) : Sx 68 3 [(0, .ref a0), (1, .long w1), (3, .int v3)] [] 0 0 (mk L μ) (mk L res, none) := by
  unfold b68_3 at h
  refine sx_iload_n (i := 3) k68_3 rfl rfl ?_
  refine sx_bipush (v := 8) k68_4 (by decide) ?_
  by_cases hb1 : v3 < (8 : Int32)
  · rw [if_pos hb1] at h
    refine sx_icmp_lt (tgt := 23) k68_6 (by decide) (fun _ => ?_) (fun q => absurd hb1 q)
    exact cx_retv k68_23 rt_68 h
  · rw [if_neg hb1] at h
    refine sx_icmp_lt (tgt := 23) k68_6 (by decide) (fun q => absurd q hb1) (fun _ => ?_)
    refine sx_aload_n (i := 0) k68_9 rfl rfl ?_
    refine sx_lload_n (i := 1) k68_10 rfl rfl ?_
    refine sx_iload_n (i := 3) k68_11 rfl rfl ?_
    refine sx_lushr k68_12 ?_
    refine sx_l2i k68_13 ?_
    obtain ⟨r2, e3, h⟩ := Option.bind_eq_some_iff.mp h
    refine cx_V (sk := []) (vs := [.int (Int64.toInt32 (jlushr w1 v3))]) st_68_65 k68_14 ow_68 cl_2_23 (by decide) rfl (Nat.le_of_ble_eq_true rfl) h0 (ok65 a0 (Int64.toInt32 (jlushr w1 v3)) h0 _ _ e3) (sk3 := []) rfl rfl ?_
    refine cx_iinc (c := -8) (lo2 := fun x4 => [(3, .int x4), (0, .ref a0), (1, .long w1)]) k68_17 rfl (by decide) (by rw [mx_68]; decide) (fun _ => rfl) h (fun x4 h => ?_)
    refine sx_goto (tgt := 3) k68_20 (by decide) ?_
    refine sx_pick (lo2 := [(0, .ref a0), (1, .long w1), (3, .int x4)]) [1, 2, 0] rfl ?_
    exact hk3 w1 x4 _ _ h
def l68_3 (a0 : Nat) : Nat → Int64 × Int32 × Mem → Option (Mem) :=
  fixN (fun self x => b68_3 a0 (fun w1 v3 μ => self (w1, v3, μ)) (x.1) (x.2.1) (x.2.2))
theorem l68_3_ok {L : Nat} (a0 : Nat) (h0 : SK0 a0 = (0, 1)) (n : Nat) (w1 : Int64) (v3 : Int32) (μ : Mem) (res : Mem) (h : l68_3 a0 n (w1, v3, μ) = some res) : Sx 68 3 [(0, .ref a0), (1, .long w1), (3, .int v3)] [] 0 0 (mk L μ) (mk L res, none) := by
  have key := fixN_ind (P := fun x res => Sx 68 3 [(0, .ref a0), (1, .long (x.1)), (3, .int (x.2.1))] [] 0 0 (mk L (x.2.2)) (mk L res, none)) (F := fun self x => b68_3 a0 (fun w1 v3 μ => self (w1, v3, μ)) (x.1) (x.2.1) (x.2.2)) (fun self hself x res h => b68_3_ok a0 h0 (fun w1 v3 μ => self (w1, v3, μ)) (fun w1 v3 μ res hh => hself (w1, v3, μ) res hh) (x.1) (x.2.1) (x.2.2) res h) n (w1, v3, μ) res h
  exact key
/-- Bytes.putSeven(J)V -/
def f68 (a0 : Nat) (p1 : Int64) (μ : Mem) : Option (Mem) :=
  l68_3 a0 gF (p1, (56 : Int32), μ)
theorem ok68 {L : Nat} (a0 : Nat) (p1 : Int64) (h0 : SK0 a0 = (0, 1)) (μ : Mem) (res : Mem) (h : f68 a0 p1 μ = some res) : Mx 68 [.ref a0, .long p1] (mk L μ) (mk L res, none) := by
  refine Mx_of ml_68 (by rw [mx_68]; exact Nat.le_of_ble_eq_true rfl) ?_
  show Sx 68 0 [(0, .ref a0), (1, .long p1)] [] 0 0 (mk L μ) _
  unfold f68 at h
  refine sx_bipush (v := 56) k68_0 (by decide) ?_
  refine cx_istore_n (lo2 := [(3, .int (56 : Int32)), (0, .ref a0), (1, .long p1)]) k68_2 rfl (by rw [mx_68]; decide) rfl ?_
  refine sx_pick (lo2 := [(0, .ref a0), (1, .long p1), (3, .int (56 : Int32))]) [1, 2, 0] rfl ?_
  exact l68_3_ok a0 h0 gF p1 (56 : Int32) _ _ h
theorem k69_0 : decode (gb 69) 0 = .ok (.iconst 0, 1) := by decide +kernel
theorem k69_1 : decode (gb 69) 1 = .ok (.istore_n 3, 1) := by decide +kernel
theorem k69_2 : decode (gb 69) 2 = .ok (.iload_n 3, 1) := by decide +kernel
theorem k69_3 : decode (gb 69) 3 = .ok (.iload_n 2, 1) := by decide +kernel
theorem k69_4 : decode (gb 69) 4 = .ok (.if_icmp .ge 14, 3) := by decide +kernel
theorem k69_7 : decode (gb 69) 7 = .ok (.aload_n 0, 1) := by decide +kernel
theorem k69_8 : decode (gb 69) 8 = .ok (.iload_n 1, 1) := by decide +kernel
theorem k69_9 : decode (gb 69) 9 = .ok (.invokevirtual 23, 3) := by decide +kernel
theorem k69_12 : decode (gb 69) 12 = .ok (.iinc 3 1, 3) := by decide +kernel
theorem k69_15 : decode (gb 69) 15 = .ok (.goto (-13), 3) := by decide +kernel
theorem k69_18 : decode (gb 69) 18 = .ok (.return_, 1) := by decide +kernel
def b69_2 (a0 : Nat) (kl2 : Int32 → Int32 → Int32 → Mem → Option (Mem)) (v1 : Int32) (v2 : Int32) (v3 : Int32) (μ : Mem) : Option (Mem) :=
  if v2 ≤ v3 then
    some μ
  else
    (f65 a0 v1 μ).bind fun r2 =>
    nm (v3 + (1 : Int32)) fun x4 =>
    kl2 v1 v2 x4 r2
theorem b69_2_ok {L : Nat} (a0 : Nat) (h0 : SK0 a0 = (0, 1)) (kl2 : Int32 → Int32 → Int32 → Mem → Option (Mem)) (hk2 : (∀ (v1 : Int32) (v2 : Int32) (v3 : Int32) (μ : Mem) (res : Mem), kl2 v1 v2 v3 μ = some res → Sx 69 2 [(0, .ref a0), (1, .int v1), (2, .int v2), (3, .int v3)] [] 0 0 (mk L μ) (mk L res, none))) (v1 : Int32) (v2 : Int32) (v3 : Int32) (μ : Mem) (res : Mem) (h : b69_2 a0 kl2 v1 v2 v3 μ = some res) : Sx 69 2 [(0, .ref a0), (1, .int v1), (2, .int v2), (3, .int v3)] [] 0 0 (mk L μ) (mk L res, none) := by
  unfold b69_2 at h
  refine sx_iload_n (i := 3) k69_2 rfl rfl ?_
  refine sx_iload_n (i := 2) k69_3 rfl rfl ?_
  by_cases hb1 : v2 ≤ v3
  · rw [if_pos hb1] at h
    refine sx_icmp_ge (tgt := 18) k69_4 (by decide) (fun _ => ?_) (fun q => absurd hb1 q)
    exact cx_retv k69_18 rt_69 h
  · rw [if_neg hb1] at h
    refine sx_icmp_ge (tgt := 18) k69_4 (by decide) (fun q => absurd q hb1) (fun _ => ?_)
    refine sx_aload_n (i := 0) k69_7 rfl rfl ?_
    refine sx_iload_n (i := 1) k69_8 rfl rfl ?_
    obtain ⟨r2, e3, h⟩ := Option.bind_eq_some_iff.mp h
    refine cx_V (sk := []) (vs := [.int v1]) st_69_65 k69_9 ow_69 cl_2_23 (by decide) rfl (Nat.le_of_ble_eq_true rfl) h0 (ok65 a0 v1 h0 _ _ e3) (sk3 := []) rfl rfl ?_
    refine cx_iinc (c := 1) (lo2 := fun x4 => [(3, .int x4), (0, .ref a0), (1, .int v1), (2, .int v2)]) k69_12 rfl (by decide) (by rw [mx_69]; decide) (fun _ => rfl) h (fun x4 h => ?_)
    refine sx_goto (tgt := 2) k69_15 (by decide) ?_
    refine sx_pick (lo2 := [(0, .ref a0), (1, .int v1), (2, .int v2), (3, .int x4)]) [1, 2, 3, 0] rfl ?_
    exact hk2 v1 v2 x4 _ _ h
def l69_2 (a0 : Nat) : Nat → Int32 × Int32 × Int32 × Mem → Option (Mem) :=
  fixN (fun self x => b69_2 a0 (fun v1 v2 v3 μ => self (v1, v2, v3, μ)) (x.1) (x.2.1) (x.2.2.1) (x.2.2.2))
theorem l69_2_ok {L : Nat} (a0 : Nat) (h0 : SK0 a0 = (0, 1)) (n : Nat) (v1 : Int32) (v2 : Int32) (v3 : Int32) (μ : Mem) (res : Mem) (h : l69_2 a0 n (v1, v2, v3, μ) = some res) : Sx 69 2 [(0, .ref a0), (1, .int v1), (2, .int v2), (3, .int v3)] [] 0 0 (mk L μ) (mk L res, none) := by
  have key := fixN_ind (P := fun x res => Sx 69 2 [(0, .ref a0), (1, .int (x.1)), (2, .int (x.2.1)), (3, .int (x.2.2.1))] [] 0 0 (mk L (x.2.2.2)) (mk L res, none)) (F := fun self x => b69_2 a0 (fun v1 v2 v3 μ => self (v1, v2, v3, μ)) (x.1) (x.2.1) (x.2.2.1) (x.2.2.2)) (fun self hself x res h => b69_2_ok a0 h0 (fun v1 v2 v3 μ => self (v1, v2, v3, μ)) (fun v1 v2 v3 μ res hh => hself (v1, v2, v3, μ) res hh) (x.1) (x.2.1) (x.2.2.1) (x.2.2.2) res h) n (v1, v2, v3, μ) res h
  exact key
/-- Bytes.putMany(II)V -/
def f69 (a0 : Nat) (p1 : Int32) (p2 : Int32) (μ : Mem) : Option (Mem) :=
  l69_2 a0 gF (p1, p2, (0 : Int32), μ)
theorem ok69 {L : Nat} (a0 : Nat) (p1 : Int32) (p2 : Int32) (h0 : SK0 a0 = (0, 1)) (μ : Mem) (res : Mem) (h : f69 a0 p1 p2 μ = some res) : Mx 69 [.ref a0, .int p1, .int p2] (mk L μ) (mk L res, none) := by
  refine Mx_of ml_69 (by rw [mx_69]; exact Nat.le_of_ble_eq_true rfl) ?_
  show Sx 69 0 [(0, .ref a0), (1, .int p1), (2, .int p2)] [] 0 0 (mk L μ) _
  unfold f69 at h
  refine sx_iconst (v := 0) k69_0 (by decide) ?_
  refine cx_istore_n (lo2 := [(3, .int (0 : Int32)), (0, .ref a0), (1, .int p1), (2, .int p2)]) k69_1 rfl (by rw [mx_69]; decide) rfl ?_
  refine sx_pick (lo2 := [(0, .ref a0), (1, .int p1), (2, .int p2), (3, .int (0 : Int32))]) [1, 2, 3, 0] rfl ?_
  exact l69_2_ok a0 h0 gF p1 p2 (0 : Int32) _ _ h
theorem k76_0 : decode (gb 76) 0 = .ok (.aload_n 0, 1) := by decide +kernel
theorem k76_1 : decode (gb 76) 1 = .ok (.iload_n 1, 1) := by decide +kernel
theorem k76_2 : decode (gb 76) 2 = .ok (.invokevirtual 46, 3) := by decide +kernel
theorem k76_5 : decode (gb 76) 5 = .ok (.bipush 8, 2) := by decide +kernel
theorem k76_7 : decode (gb 76) 7 = .ok (.ishl, 1) := by decide +kernel
theorem k76_8 : decode (gb 76) 8 = .ok (.aload_n 0, 1) := by decide +kernel
theorem k76_9 : decode (gb 76) 9 = .ok (.iload_n 1, 1) := by decide +kernel
theorem k76_10 : decode (gb 76) 10 = .ok (.iconst 1, 1) := by decide +kernel
theorem k76_11 : decode (gb 76) 11 = .ok (.iadd, 1) := by decide +kernel
theorem k76_12 : decode (gb 76) 12 = .ok (.invokevirtual 46, 3) := by decide +kernel
theorem k76_15 : decode (gb 76) 15 = .ok (.ior, 1) := by decide +kernel
theorem k76_16 : decode (gb 76) 16 = .ok (.ireturn, 1) := by decide +kernel
/-- Bytes.two(I)I -/
def f76 (a0 : Nat) (p1 : Int32) (μ : Mem) : Option (Mem × Int32) :=
  (f75 a0 p1 μ).bind fun r1 =>
  (f75 a0 (p1 + (1 : Int32)) r1.1).bind fun r3 =>
  some (r3.1, ((jshl r1.2 (8 : Int32)) ||| r3.2))
theorem ok76 {L : Nat} (a0 : Nat) (p1 : Int32) (h0 : SK0 a0 = (0, 1)) (μ : Mem) (res : Mem × Int32) (h : f76 a0 p1 μ = some res) : Mx 76 [.ref a0, .int p1] (mk L μ) (mk L res.1, some (.int res.2)) := by
  refine Mx_of ml_76 (by rw [mx_76]; exact Nat.le_of_ble_eq_true rfl) ?_
  show Sx 76 0 [(0, .ref a0), (1, .int p1)] [] 0 0 (mk L μ) _
  unfold f76 at h
  refine sx_aload_n (i := 0) k76_0 rfl rfl ?_
  refine sx_iload_n (i := 1) k76_1 rfl rfl ?_
  obtain ⟨r1, e2, h⟩ := Option.bind_eq_some_iff.mp h
  refine cx_V (sk := []) (vs := [.int p1]) st_76_75 k76_2 ow_76 cl_2_46 (by decide) rfl (Nat.le_of_ble_eq_true rfl) h0 (ok75 a0 p1 h0 _ _ e2) (sk3 := [.int r1.2]) rfl rfl ?_
  refine sx_bipush (v := 8) k76_5 (by decide) ?_
  refine sx_ishl k76_7 ?_
  refine sx_aload_n (i := 0) k76_8 rfl rfl ?_
  refine sx_iload_n (i := 1) k76_9 rfl rfl ?_
  refine sx_iconst (v := 1) k76_10 (by decide) ?_
  refine sx_iadd k76_11 ?_
  obtain ⟨r3, e4, h⟩ := Option.bind_eq_some_iff.mp h
  refine cx_V (sk := [.int (jshl r1.2 (8 : Int32))]) (vs := [.int (p1 + (1 : Int32))]) st_76_75 k76_12 ow_76 cl_2_46 (by decide) rfl (Nat.le_of_ble_eq_true rfl) h0 (ok75 a0 (p1 + (1 : Int32)) h0 _ _ e4) (sk3 := [.int r3.2, .int (jshl r1.2 (8 : Int32))]) rfl rfl ?_
  refine sx_ior k76_15 ?_
  exact cx_reti k76_16 rt_76 h
theorem k78_0 : decode (gb 78) 0 = .ok (.ldc 50, 2) := by decide +kernel
theorem k78_2 : decode (gb 78) 2 = .ok (.istore_n 3, 1) := by decide +kernel
theorem k78_3 : decode (gb 78) 3 = .ok (.iload_n 1, 1) := by decide +kernel
theorem k78_4 : decode (gb 78) 4 = .ok (.iconst 0, 1) := by decide +kernel
theorem k78_5 : decode (gb 78) 5 = .ok (.invokestatic 7, 3) := by decide +kernel
theorem k78_8 : decode (gb 78) 8 = .ok (.istore 4, 2) := by decide +kernel
theorem k78_10 : decode (gb 78) 10 = .ok (.iload 4, 2) := by decide +kernel
theorem k78_12 : decode (gb 78) 12 = .ok (.iload_n 2, 1) := by decide +kernel
theorem k78_13 : decode (gb 78) 13 = .ok (.if_icmp .ge 73, 3) := by decide +kernel
theorem k78_16 : decode (gb 78) 16 = .ok (.iload 4, 2) := by decide +kernel
theorem k78_18 : decode (gb 78) 18 = .ok (.aload_n 0, 1) := by decide +kernel
theorem k78_19 : decode (gb 78) 19 = .ok (.getfield 19, 3) := by decide +kernel
theorem k78_22 : decode (gb 78) 22 = .ok (.if_icmp .ge 64, 3) := by decide +kernel
theorem k78_25 : decode (gb 78) 25 = .ok (.aload_n 0, 1) := by decide +kernel
theorem k78_26 : decode (gb 78) 26 = .ok (.getfield 13, 3) := by decide +kernel
theorem k78_29 : decode (gb 78) 29 = .ok (.iload 4, 2) := by decide +kernel
theorem k78_31 : decode (gb 78) 31 = .ok (.baload, 1) := by decide +kernel
theorem k78_32 : decode (gb 78) 32 = .ok (.istore 5, 2) := by decide +kernel
theorem k78_34 : decode (gb 78) 34 = .ok (.iload_n 3, 1) := by decide +kernel
theorem k78_35 : decode (gb 78) 35 = .ok (.iconst 4, 1) := by decide +kernel
theorem k78_36 : decode (gb 78) 36 = .ok (.ishl, 1) := by decide +kernel
theorem k78_37 : decode (gb 78) 37 = .ok (.ldc 50, 2) := by decide +kernel
theorem k78_39 : decode (gb 78) 39 = .ok (.iand, 1) := by decide +kernel
theorem k78_40 : decode (gb 78) 40 = .ok (.getstatic 51, 3) := by decide +kernel
theorem k78_43 : decode (gb 78) 43 = .ok (.iload_n 3, 1) := by decide +kernel
theorem k78_44 : decode (gb 78) 44 = .ok (.bipush 12, 2) := by decide +kernel
theorem k78_46 : decode (gb 78) 46 = .ok (.ishr, 1) := by decide +kernel
theorem k78_47 : decode (gb 78) 47 = .ok (.iload 5, 2) := by decide +kernel
theorem k78_49 : decode (gb 78) 49 = .ok (.iconst 4, 1) := by decide +kernel
theorem k78_50 : decode (gb 78) 50 = .ok (.ishr, 1) := by decide +kernel
theorem k78_51 : decode (gb 78) 51 = .ok (.ixor, 1) := by decide +kernel
theorem k78_52 : decode (gb 78) 52 = .ok (.bipush 15, 2) := by decide +kernel
theorem k78_54 : decode (gb 78) 54 = .ok (.iand, 1) := by decide +kernel
theorem k78_55 : decode (gb 78) 55 = .ok (.iaload, 1) := by decide +kernel
theorem k78_56 : decode (gb 78) 56 = .ok (.ixor, 1) := by decide +kernel
theorem k78_57 : decode (gb 78) 57 = .ok (.istore_n 3, 1) := by decide +kernel
theorem k78_58 : decode (gb 78) 58 = .ok (.iload_n 3, 1) := by decide +kernel
theorem k78_59 : decode (gb 78) 59 = .ok (.iconst 4, 1) := by decide +kernel
theorem k78_60 : decode (gb 78) 60 = .ok (.ishl, 1) := by decide +kernel
theorem k78_61 : decode (gb 78) 61 = .ok (.ldc 50, 2) := by decide +kernel
theorem k78_63 : decode (gb 78) 63 = .ok (.iand, 1) := by decide +kernel
theorem k78_64 : decode (gb 78) 64 = .ok (.getstatic 51, 3) := by decide +kernel
theorem k78_67 : decode (gb 78) 67 = .ok (.iload_n 3, 1) := by decide +kernel
theorem k78_68 : decode (gb 78) 68 = .ok (.bipush 12, 2) := by decide +kernel
theorem k78_70 : decode (gb 78) 70 = .ok (.ishr, 1) := by decide +kernel
theorem k78_71 : decode (gb 78) 71 = .ok (.iload 5, 2) := by decide +kernel
theorem k78_73 : decode (gb 78) 73 = .ok (.ixor, 1) := by decide +kernel
theorem k78_74 : decode (gb 78) 74 = .ok (.bipush 15, 2) := by decide +kernel
theorem k78_76 : decode (gb 78) 76 = .ok (.iand, 1) := by decide +kernel
theorem k78_77 : decode (gb 78) 77 = .ok (.iaload, 1) := by decide +kernel
theorem k78_78 : decode (gb 78) 78 = .ok (.ixor, 1) := by decide +kernel
theorem k78_79 : decode (gb 78) 79 = .ok (.istore_n 3, 1) := by decide +kernel
theorem k78_80 : decode (gb 78) 80 = .ok (.iinc 4 1, 3) := by decide +kernel
theorem k78_83 : decode (gb 78) 83 = .ok (.goto (-73), 3) := by decide +kernel
theorem k78_86 : decode (gb 78) 86 = .ok (.iload_n 3, 1) := by decide +kernel
theorem k78_87 : decode (gb 78) 87 = .ok (.ireturn, 1) := by decide +kernel
def b78_10 (a0 : Nat) (kl10 : Int32 → Int32 → Int32 → Mem → Option (Mem × Int32)) (v2 : Int32) (v3 : Int32) (v4 : Int32) (μ : Mem) : Option (Mem × Int32) :=
  if v2 ≤ v4 then
    some (μ, v3)
  else
    if (μ.1 a0 1) ≤ v4 then
      some (μ, v3)
    else
      (ldA (a0 + 1) v4 μ).bind fun x3 =>
      (ldA 100000 (((jshr v3 (12 : Int32)) ^^^ (jshr x3 (4 : Int32))) &&& (15 : Int32)) μ).bind fun x5 =>
      nm (((jshl v3 (4 : Int32)) &&& (65535 : Int32)) ^^^ x5) fun x7 =>
      (ldA 100000 (((jshr x7 (12 : Int32)) ^^^ x3) &&& (15 : Int32)) μ).bind fun x8 =>
      nm (((jshl x7 (4 : Int32)) &&& (65535 : Int32)) ^^^ x8) fun x10 =>
      nm (v4 + (1 : Int32)) fun x11 =>
      kl10 v2 x10 x11 μ
theorem b78_10_ok {L : Nat} (a0 : Nat) (h0 : SK0 a0 = (0, 1)) (kl10 : Int32 → Int32 → Int32 → Mem → Option (Mem × Int32)) (hk10 : (∀ (v2 : Int32) (v3 : Int32) (v4 : Int32) (μ : Mem) (res : Mem × Int32), kl10 v2 v3 v4 μ = some res → Sx 78 10 [(0, .ref a0), (2, .int v2), (3, .int v3), (4, .int v4)] [] 0 0 (mk L μ) (mk L res.1, some (.int res.2)))) (v2 : Int32) (v3 : Int32) (v4 : Int32) (μ : Mem) (res : Mem × Int32) (h : b78_10 a0 kl10 v2 v3 v4 μ = some res) : Sx 78 10 [(0, .ref a0), (2, .int v2), (3, .int v3), (4, .int v4)] [] 0 0 (mk L μ) (mk L res.1, some (.int res.2)) := by
  unfold b78_10 at h
  refine sx_iload k78_10 rfl ?_
  refine sx_iload_n (i := 2) k78_12 rfl rfl ?_
  by_cases hb1 : v2 ≤ v4
  · rw [if_pos hb1] at h
    refine sx_icmp_ge (tgt := 86) k78_13 (by decide) (fun _ => ?_) (fun q => absurd hb1 q)
    refine sx_iload_n (i := 3) k78_86 rfl rfl ?_
    exact cx_reti k78_87 rt_78 h
  · rw [if_neg hb1] at h
    refine sx_icmp_ge (tgt := 86) k78_13 (by decide) (fun q => absurd q hb1) (fun _ => ?_)
    refine sx_iload k78_16 rfl ?_
    refine sx_aload_n (i := 0) k78_18 rfl rfl ?_
    refine cx_getI (k := 1) k78_19 ow_78 fl_2_19 (by decide) h0 ft_1_1 ?_
    by_cases hb2 : (μ.1 a0 1) ≤ v4
    · rw [if_pos hb2] at h
      refine sx_icmp_ge (tgt := 86) k78_22 (by decide) (fun _ => ?_) (fun q => absurd hb2 q)
      refine sx_iload_n (i := 3) k78_86 rfl rfl ?_
      exact cx_reti k78_87 rt_78 h
    · rw [if_neg hb2] at h
      refine sx_icmp_ge (tgt := 86) k78_22 (by decide) (fun q => absurd q hb2) (fun _ => ?_)
      refine sx_aload_n (i := 0) k78_25 rfl rfl ?_
      refine cx_getR (k := 0) k78_26 ow_78 fl_2_13 (by decide) h0 ft_1_0 (kf_1_0 h0).1 ?_
      refine sx_iload k78_29 rfl ?_
      obtain ⟨x3, e4, h⟩ := Option.bind_eq_some_iff.mp h
      refine cx_bald k78_31 (Or.inl (kf_1_0 h0).2) e4 ?_
      refine cx_istore (lo2 := [(5, .int x3), (0, .ref a0), (2, .int v2), (3, .int v3), (4, .int v4)]) k78_32 (by rw [mx_78]; decide) rfl ?_
      refine sx_iload_n (i := 3) k78_34 rfl rfl ?_
      refine sx_iconst (v := 4) k78_35 (by decide) ?_
      refine sx_ishl k78_36 ?_
      refine cx_ldc (v := 65535) k78_37 ow_78 kl_2_50 (by decide) ?_
      refine sx_iand k78_39 ?_
      refine cx_gets (j := 0) k78_40 ow_78 sl_2_51 (by decide) ?_
      refine sx_iload_n (i := 3) k78_43 rfl rfl ?_
      refine sx_bipush (v := 12) k78_44 (by decide) ?_
      refine sx_ishr k78_46 ?_
      refine sx_iload k78_47 rfl ?_
      refine sx_iconst (v := 4) k78_49 (by decide) ?_
      refine sx_ishr k78_50 ?_
      refine sx_ixor k78_51 ?_
      refine sx_bipush (v := 15) k78_52 (by decide) ?_
      refine sx_iand k78_54 ?_
      obtain ⟨x5, e6, h⟩ := Option.bind_eq_some_iff.mp h
      refine cx_tald k78_55 (by decide) e6 ?_
      refine sx_ixor k78_56 ?_
      refine cx_nm h (fun x7 h => ?_)
      refine cx_istore_n (lo2 := [(3, .int x7), (5, .int x3), (0, .ref a0), (2, .int v2), (4, .int v4)]) k78_57 rfl (by rw [mx_78]; decide) rfl ?_
      refine sx_iload_n (i := 3) k78_58 rfl rfl ?_
      refine sx_iconst (v := 4) k78_59 (by decide) ?_
      refine sx_ishl k78_60 ?_
      refine cx_ldc (v := 65535) k78_61 ow_78 kl_2_50 (by decide) ?_
      refine sx_iand k78_63 ?_
      refine cx_gets (j := 0) k78_64 ow_78 sl_2_51 (by decide) ?_
      refine sx_iload_n (i := 3) k78_67 rfl rfl ?_
      refine sx_bipush (v := 12) k78_68 (by decide) ?_
      refine sx_ishr k78_70 ?_
      refine sx_iload k78_71 rfl ?_
      refine sx_ixor k78_73 ?_
      refine sx_bipush (v := 15) k78_74 (by decide) ?_
      refine sx_iand k78_76 ?_
      obtain ⟨x8, e9, h⟩ := Option.bind_eq_some_iff.mp h
      refine cx_tald k78_77 (by decide) e9 ?_
      refine sx_ixor k78_78 ?_
      refine cx_nm h (fun x10 h => ?_)
      refine cx_istore_n (lo2 := [(3, .int x10), (5, .int x3), (0, .ref a0), (2, .int v2), (4, .int v4)]) k78_79 rfl (by rw [mx_78]; decide) rfl ?_
      refine cx_iinc (c := 1) (lo2 := fun x11 => [(4, .int x11), (3, .int x10), (5, .int x3), (0, .ref a0), (2, .int v2)]) k78_80 rfl (by decide) (by rw [mx_78]; decide) (fun _ => rfl) h (fun x11 h => ?_)
      refine sx_goto (tgt := 10) k78_83 (by decide) ?_
      refine sx_pick (lo2 := [(0, .ref a0), (2, .int v2), (3, .int x10), (4, .int x11)]) [3, 4, 1, 0] rfl ?_
      exact hk10 v2 x10 x11 _ _ h
def l78_10 (a0 : Nat) : Nat → Int32 × Int32 × Int32 × Mem → Option (Mem × Int32) :=
  fixN (fun self x => b78_10 a0 (fun v2 v3 v4 μ => self (v2, v3, v4, μ)) (x.1) (x.2.1) (x.2.2.1) (x.2.2.2))
theorem l78_10_ok {L : Nat} (a0 : Nat) (h0 : SK0 a0 = (0, 1)) (n : Nat) (v2 : Int32) (v3 : Int32) (v4 : Int32) (μ : Mem) (res : Mem × Int32) (h : l78_10 a0 n (v2, v3, v4, μ) = some res) : Sx 78 10 [(0, .ref a0), (2, .int v2), (3, .int v3), (4, .int v4)] [] 0 0 (mk L μ) (mk L res.1, some (.int res.2)) := by
  have key := fixN_ind (P := fun x res => Sx 78 10 [(0, .ref a0), (2, .int (x.1)), (3, .int (x.2.1)), (4, .int (x.2.2.1))] [] 0 0 (mk L (x.2.2.2)) (mk L res.1, some (.int res.2))) (F := fun self x => b78_10 a0 (fun v2 v3 v4 μ => self (v2, v3, v4, μ)) (x.1) (x.2.1) (x.2.2.1) (x.2.2.2)) (fun self hself x res h => b78_10_ok a0 h0 (fun v2 v3 v4 μ => self (v2, v3, v4, μ)) (fun v2 v3 v4 μ res hh => hself (v2, v3, v4, μ) res hh) (x.1) (x.2.1) (x.2.2.1) (x.2.2.2) res h) n (v2, v3, v4, μ) res h
  exact key
/-- Bytes.checkOf(II)I -/
def f78 (a0 : Nat) (p1 : Int32) (p2 : Int32) (μ : Mem) : Option (Mem × Int32) :=
  nm (jmax p1 (0 : Int32)) fun x1 =>
  l78_10 a0 gF (p2, (65535 : Int32), x1, μ)
theorem ok78 {L : Nat} (a0 : Nat) (p1 : Int32) (p2 : Int32) (h0 : SK0 a0 = (0, 1)) (μ : Mem) (res : Mem × Int32) (h : f78 a0 p1 p2 μ = some res) : Mx 78 [.ref a0, .int p1, .int p2] (mk L μ) (mk L res.1, some (.int res.2)) := by
  refine Mx_of ml_78 (by rw [mx_78]; exact Nat.le_of_ble_eq_true rfl) ?_
  show Sx 78 0 [(0, .ref a0), (1, .int p1), (2, .int p2)] [] 0 0 (mk L μ) _
  unfold f78 at h
  refine cx_ldc (v := 65535) k78_0 ow_78 kl_2_50 (by decide) ?_
  refine cx_istore_n (lo2 := [(3, .int (65535 : Int32)), (0, .ref a0), (1, .int p1), (2, .int p2)]) k78_2 rfl (by rw [mx_78]; decide) rfl ?_
  refine sx_iload_n (i := 1) k78_3 rfl rfl ?_
  refine sx_iconst (v := 0) k78_4 (by decide) ?_
  refine cx_max k78_5 ow_78 xl_2_7 (by decide) (by decide +kernel) (Nat.le_of_ble_eq_true rfl) ?_
  refine cx_nm h (fun x1 h => ?_)
  refine cx_istore (lo2 := [(4, .int x1), (3, .int (65535 : Int32)), (0, .ref a0), (1, .int p1), (2, .int p2)]) k78_8 (by rw [mx_78]; decide) rfl ?_
  refine sx_pick (lo2 := [(0, .ref a0), (2, .int p2), (3, .int (65535 : Int32)), (4, .int x1)]) [2, 4, 1, 0] rfl ?_
  exact l78_10_ok a0 h0 gF p2 (65535 : Int32) x1 _ _ h
theorem k67_0 : decode (gb 67) 0 = .ok (.aload_n 0, 1) := by decide +kernel
theorem k67_1 : decode (gb 67) 1 = .ok (.iload_n 1, 1) := by decide +kernel
theorem k67_2 : decode (gb 67) 2 = .ok (.bipush 24, 2) := by decide +kernel
theorem k67_4 : decode (gb 67) 4 = .ok (.ishr, 1) := by decide +kernel
theorem k67_5 : decode (gb 67) 5 = .ok (.invokevirtual 23, 3) := by decide +kernel
theorem k67_8 : decode (gb 67) 8 = .ok (.aload_n 0, 1) := by decide +kernel
theorem k67_9 : decode (gb 67) 9 = .ok (.iload_n 1, 1) := by decide +kernel
theorem k67_10 : decode (gb 67) 10 = .ok (.bipush 16, 2) := by decide +kernel
theorem k67_12 : decode (gb 67) 12 = .ok (.ishr, 1) := by decide +kernel
theorem k67_13 : decode (gb 67) 13 = .ok (.invokevirtual 23, 3) := by decide +kernel
theorem k67_16 : decode (gb 67) 16 = .ok (.aload_n 0, 1) := by decide +kernel
theorem k67_17 : decode (gb 67) 17 = .ok (.iload_n 1, 1) := by decide +kernel
theorem k67_18 : decode (gb 67) 18 = .ok (.bipush 8, 2) := by decide +kernel
theorem k67_20 : decode (gb 67) 20 = .ok (.ishr, 1) := by decide +kernel
theorem k67_21 : decode (gb 67) 21 = .ok (.invokevirtual 23, 3) := by decide +kernel
theorem k67_24 : decode (gb 67) 24 = .ok (.aload_n 0, 1) := by decide +kernel
theorem k67_25 : decode (gb 67) 25 = .ok (.iload_n 1, 1) := by decide +kernel
theorem k67_26 : decode (gb 67) 26 = .ok (.invokevirtual 23, 3) := by decide +kernel
theorem k67_29 : decode (gb 67) 29 = .ok (.return_, 1) := by decide +kernel
/-- Bytes.putFour(I)V -/
def f67 (a0 : Nat) (p1 : Int32) (μ : Mem) : Option (Mem) :=
  (f65 a0 (jshr p1 (24 : Int32)) μ).bind fun r1 =>
  (f65 a0 (jshr p1 (16 : Int32)) r1).bind fun r3 =>
  (f65 a0 (jshr p1 (8 : Int32)) r3).bind fun r5 =>
  (f65 a0 p1 r5).bind fun r7 =>
  some r7
theorem ok67 {L : Nat} (a0 : Nat) (p1 : Int32) (h0 : SK0 a0 = (0, 1)) (μ : Mem) (res : Mem) (h : f67 a0 p1 μ = some res) : Mx 67 [.ref a0, .int p1] (mk L μ) (mk L res, none) := by
  refine Mx_of ml_67 (by rw [mx_67]; exact Nat.le_of_ble_eq_true rfl) ?_
  show Sx 67 0 [(0, .ref a0), (1, .int p1)] [] 0 0 (mk L μ) _
  unfold f67 at h
  refine sx_aload_n (i := 0) k67_0 rfl rfl ?_
  refine sx_iload_n (i := 1) k67_1 rfl rfl ?_
  refine sx_bipush (v := 24) k67_2 (by decide) ?_
  refine sx_ishr k67_4 ?_
  obtain ⟨r1, e2, h⟩ := Option.bind_eq_some_iff.mp h
  refine cx_V (sk := []) (vs := [.int (jshr p1 (24 : Int32))]) st_67_65 k67_5 ow_67 cl_2_23 (by decide) rfl (Nat.le_of_ble_eq_true rfl) h0 (ok65 a0 (jshr p1 (24 : Int32)) h0 _ _ e2) (sk3 := []) rfl rfl ?_
  refine sx_aload_n (i := 0) k67_8 rfl rfl ?_
  refine sx_iload_n (i := 1) k67_9 rfl rfl ?_
  refine sx_bipush (v := 16) k67_10 (by decide) ?_
  refine sx_ishr k67_12 ?_
  obtain ⟨r3, e4, h⟩ := Option.bind_eq_some_iff.mp h
  refine cx_V (sk := []) (vs := [.int (jshr p1 (16 : Int32))]) st_67_65 k67_13 ow_67 cl_2_23 (by decide) rfl (Nat.le_of_ble_eq_true rfl) h0 (ok65 a0 (jshr p1 (16 : Int32)) h0 _ _ e4) (sk3 := []) rfl rfl ?_
  refine sx_aload_n (i := 0) k67_16 rfl rfl ?_
  refine sx_iload_n (i := 1) k67_17 rfl rfl ?_
  refine sx_bipush (v := 8) k67_18 (by decide) ?_
  refine sx_ishr k67_20 ?_
  obtain ⟨r5, e6, h⟩ := Option.bind_eq_some_iff.mp h
  refine cx_V (sk := []) (vs := [.int (jshr p1 (8 : Int32))]) st_67_65 k67_21 ow_67 cl_2_23 (by decide) rfl (Nat.le_of_ble_eq_true rfl) h0 (ok65 a0 (jshr p1 (8 : Int32)) h0 _ _ e6) (sk3 := []) rfl rfl ?_
  refine sx_aload_n (i := 0) k67_24 rfl rfl ?_
  refine sx_iload_n (i := 1) k67_25 rfl rfl ?_
  obtain ⟨r7, e8, h⟩ := Option.bind_eq_some_iff.mp h
  refine cx_V (sk := []) (vs := [.int p1]) st_67_65 k67_26 ow_67 cl_2_23 (by decide) rfl (Nat.le_of_ble_eq_true rfl) h0 (ok65 a0 p1 h0 _ _ e8) (sk3 := []) rfl rfl ?_
  exact cx_retv k67_29 rt_67 h
theorem k73_0 : decode (gb 73) 0 = .ok (.iload_n 1, 1) := by decide +kernel
theorem k73_1 : decode (gb 73) 1 = .ok (.ifCond .lt 19, 3) := by decide +kernel
theorem k73_4 : decode (gb 73) 4 = .ok (.iload_n 1, 1) := by decide +kernel
theorem k73_5 : decode (gb 73) 5 = .ok (.aload_n 0, 1) := by decide +kernel
theorem k73_6 : decode (gb 73) 6 = .ok (.getfield 19, 3) := by decide +kernel
theorem k73_9 : decode (gb 73) 9 = .ok (.if_icmp .ge 11, 3) := by decide +kernel
theorem k73_12 : decode (gb 73) 12 = .ok (.aload_n 0, 1) := by decide +kernel
theorem k73_13 : decode (gb 73) 13 = .ok (.getfield 13, 3) := by decide +kernel
theorem k73_16 : decode (gb 73) 16 = .ok (.iload_n 1, 1) := by decide +kernel
theorem k73_17 : decode (gb 73) 17 = .ok (.iload_n 2, 1) := by decide +kernel
theorem k73_18 : decode (gb 73) 18 = .ok (.i2b, 1) := by decide +kernel
theorem k73_19 : decode (gb 73) 19 = .ok (.bastore, 1) := by decide +kernel
theorem k73_20 : decode (gb 73) 20 = .ok (.return_, 1) := by decide +kernel
/-- Bytes.set(II)V -/
def f73 (a0 : Nat) (p1 : Int32) (p2 : Int32) (μ : Mem) : Option (Mem) :=
  if p1 < 0 then
    some μ
  else
    if (μ.1 a0 1) ≤ p1 then
      some μ
    else
      (stB (a0 + 1) p1 (p2.toInt8.toInt32) μ).bind fun m3 =>
      some m3
theorem ok73 {L : Nat} (a0 : Nat) (p1 : Int32) (p2 : Int32) (h0 : SK0 a0 = (0, 1)) (μ : Mem) (res : Mem) (h : f73 a0 p1 p2 μ = some res) : Mx 73 [.ref a0, .int p1, .int p2] (mk L μ) (mk L res, none) := by
  refine Mx_of ml_73 (by rw [mx_73]; exact Nat.le_of_ble_eq_true rfl) ?_
  show Sx 73 0 [(0, .ref a0), (1, .int p1), (2, .int p2)] [] 0 0 (mk L μ) _
  unfold f73 at h
  refine sx_iload_n (i := 1) k73_0 rfl rfl ?_
  by_cases hb1 : p1 < 0
  · rw [if_pos hb1] at h
    refine sx_if_lt (tgt := 20) k73_1 (by decide) (fun _ => ?_) (fun q => absurd hb1 q)
    exact cx_retv k73_20 rt_73 h
  · rw [if_neg hb1] at h
    refine sx_if_lt (tgt := 20) k73_1 (by decide) (fun q => absurd q hb1) (fun _ => ?_)
    refine sx_iload_n (i := 1) k73_4 rfl rfl ?_
    refine sx_aload_n (i := 0) k73_5 rfl rfl ?_
    refine cx_getI (k := 1) k73_6 ow_73 fl_2_19 (by decide) h0 ft_1_1 ?_
    by_cases hb2 : (μ.1 a0 1) ≤ p1
    · rw [if_pos hb2] at h
      refine sx_icmp_ge (tgt := 20) k73_9 (by decide) (fun _ => ?_) (fun q => absurd hb2 q)
      exact cx_retv k73_20 rt_73 h
    · rw [if_neg hb2] at h
      refine sx_icmp_ge (tgt := 20) k73_9 (by decide) (fun q => absurd q hb2) (fun _ => ?_)
      refine sx_aload_n (i := 0) k73_12 rfl rfl ?_
      refine cx_getR (k := 0) k73_13 ow_73 fl_2_13 (by decide) h0 ft_1_0 (kf_1_0 h0).1 ?_
      refine sx_iload_n (i := 1) k73_16 rfl rfl ?_
      refine sx_iload_n (i := 2) k73_17 rfl rfl ?_
      refine sx_i2b k73_18 ?_
      obtain ⟨m3, e4, h⟩ := Option.bind_eq_some_iff.mp h
      refine cx_bast k73_19 (kf_1_0 h0).2 e4 ?_
      exact cx_retv k73_20 rt_73 h
theorem k72_0 : decode (gb 72) 0 = .ok (.aload_n 0, 1) := by decide +kernel
theorem k72_1 : decode (gb 72) 1 = .ok (.aload_n 0, 1) := by decide +kernel
theorem k72_2 : decode (gb 72) 2 = .ok (.iconst 0, 1) := by decide +kernel
theorem k72_3 : decode (gb 72) 3 = .ok (.aload_n 0, 1) := by decide +kernel
theorem k72_4 : decode (gb 72) 4 = .ok (.getfield 19, 3) := by decide +kernel
theorem k72_7 : decode (gb 72) 7 = .ok (.invokevirtual 37, 3) := by decide +kernel
theorem k72_10 : decode (gb 72) 10 = .ok (.invokevirtual 40, 3) := by decide +kernel
theorem k72_13 : decode (gb 72) 13 = .ok (.return_, 1) := by decide +kernel
/-- Bytes.putCheck()V -/
def f72 (a0 : Nat) (μ : Mem) : Option (Mem) :=
  (f78 a0 (0 : Int32) (μ.1 a0 1) μ).bind fun r1 =>
  (f66 a0 r1.2 r1.1).bind fun r3 =>
  some r3
theorem ok72 {L : Nat} (a0 : Nat) (h0 : SK0 a0 = (0, 1)) (μ : Mem) (res : Mem) (h : f72 a0 μ = some res) : Mx 72 [.ref a0] (mk L μ) (mk L res, none) := by
  refine Mx_of ml_72 (by rw [mx_72]; exact Nat.le_of_ble_eq_true rfl) ?_
  show Sx 72 0 [(0, .ref a0)] [] 0 0 (mk L μ) _
  unfold f72 at h
  refine sx_aload_n (i := 0) k72_0 rfl rfl ?_
  refine sx_aload_n (i := 0) k72_1 rfl rfl ?_
  refine sx_iconst (v := 0) k72_2 (by decide) ?_
  refine sx_aload_n (i := 0) k72_3 rfl rfl ?_
  refine cx_getI (k := 1) k72_4 ow_72 fl_2_19 (by decide) h0 ft_1_1 ?_
  obtain ⟨r1, e2, h⟩ := Option.bind_eq_some_iff.mp h
  refine cx_V (sk := [.ref a0]) (vs := [.int (0 : Int32), .int (μ.1 a0 1)]) st_72_78 k72_7 ow_72 cl_2_37 (by decide) rfl (Nat.le_of_ble_eq_true rfl) h0 (ok78 a0 (0 : Int32) (μ.1 a0 1) h0 _ _ e2) (sk3 := [.int r1.2, .ref a0]) rfl rfl ?_
  obtain ⟨r3, e4, h⟩ := Option.bind_eq_some_iff.mp h
  refine cx_V (sk := []) (vs := [.int r1.2]) st_72_66 k72_10 ow_72 cl_2_40 (by decide) rfl (Nat.le_of_ble_eq_true rfl) h0 (ok66 a0 r1.2 h0 _ _ e4) (sk3 := []) rfl rfl ?_
  exact cx_retv k72_13 rt_72 h
theorem k70_0 : decode (gb 70) 0 = .ok (.iload_n 2, 1) := by decide +kernel
theorem k70_1 : decode (gb 70) 1 = .ok (.ifCond .lt 53, 3) := by decide +kernel
theorem k70_4 : decode (gb 70) 4 = .ok (.iload_n 3, 1) := by decide +kernel
theorem k70_5 : decode (gb 70) 5 = .ok (.ifCond .lt 49, 3) := by decide +kernel
theorem k70_8 : decode (gb 70) 8 = .ok (.iload_n 2, 1) := by decide +kernel
theorem k70_9 : decode (gb 70) 9 = .ok (.aload_n 1, 1) := by decide +kernel
theorem k70_10 : decode (gb 70) 10 = .ok (.arraylength, 1) := by decide +kernel
theorem k70_11 : decode (gb 70) 11 = .ok (.iload_n 3, 1) := by decide +kernel
theorem k70_12 : decode (gb 70) 12 = .ok (.isub, 1) := by decide +kernel
theorem k70_13 : decode (gb 70) 13 = .ok (.if_icmp .gt 41, 3) := by decide +kernel
theorem k70_16 : decode (gb 70) 16 = .ok (.iload_n 3, 1) := by decide +kernel
theorem k70_17 : decode (gb 70) 17 = .ok (.aload_n 0, 1) := by decide +kernel
theorem k70_18 : decode (gb 70) 18 = .ok (.getfield 13, 3) := by decide +kernel
theorem k70_21 : decode (gb 70) 21 = .ok (.arraylength, 1) := by decide +kernel
theorem k70_22 : decode (gb 70) 22 = .ok (.aload_n 0, 1) := by decide +kernel
theorem k70_23 : decode (gb 70) 23 = .ok (.getfield 19, 3) := by decide +kernel
theorem k70_26 : decode (gb 70) 26 = .ok (.isub, 1) := by decide +kernel
theorem k70_27 : decode (gb 70) 27 = .ok (.if_icmp .gt 27, 3) := by decide +kernel
theorem k70_30 : decode (gb 70) 30 = .ok (.aload_n 1, 1) := by decide +kernel
theorem k70_31 : decode (gb 70) 31 = .ok (.iload_n 2, 1) := by decide +kernel
theorem k70_32 : decode (gb 70) 32 = .ok (.aload_n 0, 1) := by decide +kernel
theorem k70_33 : decode (gb 70) 33 = .ok (.getfield 13, 3) := by decide +kernel
theorem k70_36 : decode (gb 70) 36 = .ok (.aload_n 0, 1) := by decide +kernel
theorem k70_37 : decode (gb 70) 37 = .ok (.getfield 19, 3) := by decide +kernel
theorem k70_40 : decode (gb 70) 40 = .ok (.iload_n 3, 1) := by decide +kernel
theorem k70_41 : decode (gb 70) 41 = .ok (.invokestatic 27, 3) := by decide +kernel
theorem k70_44 : decode (gb 70) 44 = .ok (.aload_n 0, 1) := by decide +kernel
theorem k70_45 : decode (gb 70) 45 = .ok (.dup, 1) := by decide +kernel
theorem k70_46 : decode (gb 70) 46 = .ok (.getfield 19, 3) := by decide +kernel
theorem k70_49 : decode (gb 70) 49 = .ok (.iload_n 3, 1) := by decide +kernel
theorem k70_50 : decode (gb 70) 50 = .ok (.iadd, 1) := by decide +kernel
theorem k70_51 : decode (gb 70) 51 = .ok (.putfield 19, 3) := by decide +kernel
theorem k70_54 : decode (gb 70) 54 = .ok (.return_, 1) := by decide +kernel
/-- Bytes.putRow([BII)V -/
def f70 (a0 : Nat) (p1 : Nat) (p2 : Int32) (p3 : Int32) (μ : Mem) : Option (Mem) :=
  if p2 < 0 then
    some μ
  else
    if p3 < 0 then
      some μ
    else
      if ((nI (gln p1)) - p3) < p2 then
        some μ
      else
        if ((nI (gln (a0 + 1))) - (μ.1 a0 1)) < p3 then
          some μ
        else
          (acp p1 p2 (a0 + 1) (μ.1 a0 1) p3 μ).bind fun m5 =>
          (pfI a0 1 ((m5.1 a0 1) + p3) m5).bind fun m7 =>
          some m7
theorem ok70 {L : Nat} (a0 : Nat) (p1 : Nat) (p2 : Int32) (p3 : Int32) (h0 : SK0 a0 = (0, 1)) (h1 : SK0 p1 = (2, gln p1)) (μ : Mem) (res : Mem) (h : f70 a0 p1 p2 p3 μ = some res) : Mx 70 [.ref a0, .ref p1, .int p2, .int p3] (mk L μ) (mk L res, none) := by
  refine Mx_of ml_70 (by rw [mx_70]; exact Nat.le_of_ble_eq_true rfl) ?_
  show Sx 70 0 [(0, .ref a0), (1, .ref p1), (2, .int p2), (3, .int p3)] [] 0 0 (mk L μ) _
  unfold f70 at h
  refine sx_iload_n (i := 2) k70_0 rfl rfl ?_
  by_cases hb1 : p2 < 0
  · rw [if_pos hb1] at h
    refine sx_if_lt (tgt := 54) k70_1 (by decide) (fun _ => ?_) (fun q => absurd hb1 q)
    exact cx_retv k70_54 rt_70 h
  · rw [if_neg hb1] at h
    refine sx_if_lt (tgt := 54) k70_1 (by decide) (fun q => absurd q hb1) (fun _ => ?_)
    refine sx_iload_n (i := 3) k70_4 rfl rfl ?_
    by_cases hb2 : p3 < 0
    · rw [if_pos hb2] at h
      refine sx_if_lt (tgt := 54) k70_5 (by decide) (fun _ => ?_) (fun q => absurd hb2 q)
      exact cx_retv k70_54 rt_70 h
    · rw [if_neg hb2] at h
      refine sx_if_lt (tgt := 54) k70_5 (by decide) (fun q => absurd q hb2) (fun _ => ?_)
      refine sx_iload_n (i := 2) k70_8 rfl rfl ?_
      refine sx_aload_n (i := 1) k70_9 rfl rfl ?_
      refine cx_alen (t := 1) k70_10 (by decide) h1 ?_
      refine sx_iload_n (i := 3) k70_11 rfl rfl ?_
      refine sx_isub k70_12 ?_
      by_cases hb3 : ((nI (gln p1)) - p3) < p2
      · rw [if_pos hb3] at h
        refine sx_icmp_gt (tgt := 54) k70_13 (by decide) (fun _ => ?_) (fun q => absurd hb3 q)
        exact cx_retv k70_54 rt_70 h
      · rw [if_neg hb3] at h
        refine sx_icmp_gt (tgt := 54) k70_13 (by decide) (fun q => absurd q hb3) (fun _ => ?_)
        refine sx_iload_n (i := 3) k70_16 rfl rfl ?_
        refine sx_aload_n (i := 0) k70_17 rfl rfl ?_
        refine cx_getR (k := 0) k70_18 ow_70 fl_2_13 (by decide) h0 ft_1_0 (kf_1_0 h0).1 ?_
        refine cx_alen (t := 1) k70_21 (by decide) (kf_1_0 h0).2 ?_
        refine sx_aload_n (i := 0) k70_22 rfl rfl ?_
        refine cx_getI (k := 1) k70_23 ow_70 fl_2_19 (by decide) h0 ft_1_1 ?_
        refine sx_isub k70_26 ?_
        by_cases hb4 : ((nI (gln (a0 + 1))) - (μ.1 a0 1)) < p3
        · rw [if_pos hb4] at h
          refine sx_icmp_gt (tgt := 54) k70_27 (by decide) (fun _ => ?_) (fun q => absurd hb4 q)
          exact cx_retv k70_54 rt_70 h
        · rw [if_neg hb4] at h
          refine sx_icmp_gt (tgt := 54) k70_27 (by decide) (fun q => absurd q hb4) (fun _ => ?_)
          refine sx_aload_n (i := 1) k70_30 rfl rfl ?_
          refine sx_iload_n (i := 2) k70_31 rfl rfl ?_
          refine sx_aload_n (i := 0) k70_32 rfl rfl ?_
          refine cx_getR (k := 0) k70_33 ow_70 fl_2_13 (by decide) h0 ft_1_0 (kf_1_0 h0).1 ?_
          refine sx_aload_n (i := 0) k70_36 rfl rfl ?_
          refine cx_getI (k := 1) k70_37 ow_70 fl_2_19 (by decide) h0 ft_1_1 ?_
          refine sx_iload_n (i := 3) k70_40 rfl rfl ?_
          obtain ⟨m5, e6, h⟩ := Option.bind_eq_some_iff.mp h
          refine cx_acopy k70_41 ow_70 pl_2_27 (by decide) h1 (kf_1_0 h0).2 e6 (by decide +kernel) (Nat.le_of_ble_eq_true rfl) ?_
          refine sx_aload_n (i := 0) k70_44 rfl rfl ?_
          refine sx_dup k70_45 rfl ?_
          refine cx_getI (k := 1) k70_46 ow_70 fl_2_19 (by decide) h0 ft_1_1 ?_
          refine sx_iload_n (i := 3) k70_49 rfl rfl ?_
          refine sx_iadd k70_50 ?_
          obtain ⟨m7, e8, h⟩ := Option.bind_eq_some_iff.mp h
          refine cx_putI (k := 1) k70_51 ow_70 fl_2_19 (by decide) h0 nf_1_1 fu_1_1 e8 ?_
          exact cx_retv k70_54 rt_70 h
theorem k77_0 : decode (gb 77) 0 = .ok (.aload_n 0, 1) := by decide +kernel
theorem k77_1 : decode (gb 77) 1 = .ok (.iload_n 1, 1) := by decide +kernel
theorem k77_2 : decode (gb 77) 2 = .ok (.invokevirtual 46, 3) := by decide +kernel
theorem k77_5 : decode (gb 77) 5 = .ok (.bipush 24, 2) := by decide +kernel
theorem k77_7 : decode (gb 77) 7 = .ok (.ishl, 1) := by decide +kernel
theorem k77_8 : decode (gb 77) 8 = .ok (.aload_n 0, 1) := by decide +kernel
theorem k77_9 : decode (gb 77) 9 = .ok (.iload_n 1, 1) := by decide +kernel
theorem k77_10 : decode (gb 77) 10 = .ok (.iconst 1, 1) := by decide +kernel
theorem k77_11 : decode (gb 77) 11 = .ok (.iadd, 1) := by decide +kernel
theorem k77_12 : decode (gb 77) 12 = .ok (.invokevirtual 46, 3) := by decide +kernel
theorem k77_15 : decode (gb 77) 15 = .ok (.bipush 16, 2) := by decide +kernel
theorem k77_17 : decode (gb 77) 17 = .ok (.ishl, 1) := by decide +kernel
theorem k77_18 : decode (gb 77) 18 = .ok (.ior, 1) := by decide +kernel
theorem k77_19 : decode (gb 77) 19 = .ok (.aload_n 0, 1) := by decide +kernel
theorem k77_20 : decode (gb 77) 20 = .ok (.iload_n 1, 1) := by decide +kernel
theorem k77_21 : decode (gb 77) 21 = .ok (.iconst 2, 1) := by decide +kernel
theorem k77_22 : decode (gb 77) 22 = .ok (.iadd, 1) := by decide +kernel
theorem k77_23 : decode (gb 77) 23 = .ok (.invokevirtual 46, 3) := by decide +kernel
theorem k77_26 : decode (gb 77) 26 = .ok (.bipush 8, 2) := by decide +kernel
theorem k77_28 : decode (gb 77) 28 = .ok (.ishl, 1) := by decide +kernel
theorem k77_29 : decode (gb 77) 29 = .ok (.ior, 1) := by decide +kernel
theorem k77_30 : decode (gb 77) 30 = .ok (.aload_n 0, 1) := by decide +kernel
theorem k77_31 : decode (gb 77) 31 = .ok (.iload_n 1, 1) := by decide +kernel
theorem k77_32 : decode (gb 77) 32 = .ok (.iconst 3, 1) := by decide +kernel
theorem k77_33 : decode (gb 77) 33 = .ok (.iadd, 1) := by decide +kernel
theorem k77_34 : decode (gb 77) 34 = .ok (.invokevirtual 46, 3) := by decide +kernel
theorem k77_37 : decode (gb 77) 37 = .ok (.ior, 1) := by decide +kernel
theorem k77_38 : decode (gb 77) 38 = .ok (.ireturn, 1) := by decide +kernel
/-- Bytes.four(I)I -/
def f77 (a0 : Nat) (p1 : Int32) (μ : Mem) : Option (Mem × Int32) :=
  (f75 a0 p1 μ).bind fun r1 =>
  (f75 a0 (p1 + (1 : Int32)) r1.1).bind fun r3 =>
  (f75 a0 (p1 + (2 : Int32)) r3.1).bind fun r5 =>
  (f75 a0 (p1 + (3 : Int32)) r5.1).bind fun r7 =>
  some (r7.1, ((((jshl r1.2 (24 : Int32)) ||| (jshl r3.2 (16 : Int32))) ||| (jshl r5.2 (8 : Int32))) ||| r7.2))
theorem ok77 {L : Nat} (a0 : Nat) (p1 : Int32) (h0 : SK0 a0 = (0, 1)) (μ : Mem) (res : Mem × Int32) (h : f77 a0 p1 μ = some res) : Mx 77 [.ref a0, .int p1] (mk L μ) (mk L res.1, some (.int res.2)) := by
  refine Mx_of ml_77 (by rw [mx_77]; exact Nat.le_of_ble_eq_true rfl) ?_
  show Sx 77 0 [(0, .ref a0), (1, .int p1)] [] 0 0 (mk L μ) _
  unfold f77 at h
  refine sx_aload_n (i := 0) k77_0 rfl rfl ?_
  refine sx_iload_n (i := 1) k77_1 rfl rfl ?_
  obtain ⟨r1, e2, h⟩ := Option.bind_eq_some_iff.mp h
  refine cx_V (sk := []) (vs := [.int p1]) st_77_75 k77_2 ow_77 cl_2_46 (by decide) rfl (Nat.le_of_ble_eq_true rfl) h0 (ok75 a0 p1 h0 _ _ e2) (sk3 := [.int r1.2]) rfl rfl ?_
  refine sx_bipush (v := 24) k77_5 (by decide) ?_
  refine sx_ishl k77_7 ?_
  refine sx_aload_n (i := 0) k77_8 rfl rfl ?_
  refine sx_iload_n (i := 1) k77_9 rfl rfl ?_
  refine sx_iconst (v := 1) k77_10 (by decide) ?_
  refine sx_iadd k77_11 ?_
  obtain ⟨r3, e4, h⟩ := Option.bind_eq_some_iff.mp h
  refine cx_V (sk := [.int (jshl r1.2 (24 : Int32))]) (vs := [.int (p1 + (1 : Int32))]) st_77_75 k77_12 ow_77 cl_2_46 (by decide) rfl (Nat.le_of_ble_eq_true rfl) h0 (ok75 a0 (p1 + (1 : Int32)) h0 _ _ e4) (sk3 := [.int r3.2, .int (jshl r1.2 (24 : Int32))]) rfl rfl ?_
  refine sx_bipush (v := 16) k77_15 (by decide) ?_
  refine sx_ishl k77_17 ?_
  refine sx_ior k77_18 ?_
  refine sx_aload_n (i := 0) k77_19 rfl rfl ?_
  refine sx_iload_n (i := 1) k77_20 rfl rfl ?_
  refine sx_iconst (v := 2) k77_21 (by decide) ?_
  refine sx_iadd k77_22 ?_
  obtain ⟨r5, e6, h⟩ := Option.bind_eq_some_iff.mp h
  refine cx_V (sk := [.int ((jshl r1.2 (24 : Int32)) ||| (jshl r3.2 (16 : Int32)))]) (vs := [.int (p1 + (2 : Int32))]) st_77_75 k77_23 ow_77 cl_2_46 (by decide) rfl (Nat.le_of_ble_eq_true rfl) h0 (ok75 a0 (p1 + (2 : Int32)) h0 _ _ e6) (sk3 := [.int r5.2, .int ((jshl r1.2 (24 : Int32)) ||| (jshl r3.2 (16 : Int32)))]) rfl rfl ?_
  refine sx_bipush (v := 8) k77_26 (by decide) ?_
  refine sx_ishl k77_28 ?_
  refine sx_ior k77_29 ?_
  refine sx_aload_n (i := 0) k77_30 rfl rfl ?_
  refine sx_iload_n (i := 1) k77_31 rfl rfl ?_
  refine sx_iconst (v := 3) k77_32 (by decide) ?_
  refine sx_iadd k77_33 ?_
  obtain ⟨r7, e8, h⟩ := Option.bind_eq_some_iff.mp h
  refine cx_V (sk := [.int (((jshl r1.2 (24 : Int32)) ||| (jshl r3.2 (16 : Int32))) ||| (jshl r5.2 (8 : Int32)))]) (vs := [.int (p1 + (3 : Int32))]) st_77_75 k77_34 ow_77 cl_2_46 (by decide) rfl (Nat.le_of_ble_eq_true rfl) h0 (ok75 a0 (p1 + (3 : Int32)) h0 _ _ e8) (sk3 := [.int r7.2, .int (((jshl r1.2 (24 : Int32)) ||| (jshl r3.2 (16 : Int32))) ||| (jshl r5.2 (8 : Int32)))]) rfl rfl ?_
  refine sx_ior k77_37 ?_
  exact cx_reti k77_38 rt_77 h
theorem k71_0 : decode (gb 71) 0 = .ok (.aload_n 0, 1) := by decide +kernel
theorem k71_1 : decode (gb 71) 1 = .ok (.aload_n 1, 1) := by decide +kernel
theorem k71_2 : decode (gb 71) 2 = .ok (.getfield 13, 3) := by decide +kernel
theorem k71_5 : decode (gb 71) 5 = .ok (.iconst 0, 1) := by decide +kernel
theorem k71_6 : decode (gb 71) 6 = .ok (.aload_n 1, 1) := by decide +kernel
theorem k71_7 : decode (gb 71) 7 = .ok (.getfield 19, 3) := by decide +kernel
theorem k71_10 : decode (gb 71) 10 = .ok (.invokevirtual 33, 3) := by decide +kernel
theorem k71_13 : decode (gb 71) 13 = .ok (.return_, 1) := by decide +kernel
/-- Bytes.putAll(LCraftHouse$Bytes;)V -/
def f71 (a0 : Nat) (p1 : Nat) (μ : Mem) : Option (Mem) :=
  (f70 a0 (p1 + 1) (0 : Int32) (μ.1 p1 1) μ).bind fun r1 =>
  some r1
theorem ok71 {L : Nat} (a0 : Nat) (p1 : Nat) (h0 : SK0 a0 = (0, 1)) (h1 : SK0 p1 = (0, 1)) (μ : Mem) (res : Mem) (h : f71 a0 p1 μ = some res) : Mx 71 [.ref a0, .ref p1] (mk L μ) (mk L res, none) := by
  refine Mx_of ml_71 (by rw [mx_71]; exact Nat.le_of_ble_eq_true rfl) ?_
  show Sx 71 0 [(0, .ref a0), (1, .ref p1)] [] 0 0 (mk L μ) _
  unfold f71 at h
  refine sx_aload_n (i := 0) k71_0 rfl rfl ?_
  refine sx_aload_n (i := 1) k71_1 rfl rfl ?_
  refine cx_getR (k := 0) k71_2 ow_71 fl_2_13 (by decide) h1 ft_1_0 (kf_1_0 h1).1 ?_
  refine sx_iconst (v := 0) k71_5 (by decide) ?_
  refine sx_aload_n (i := 1) k71_6 rfl rfl ?_
  refine cx_getI (k := 1) k71_7 ow_71 fl_2_19 (by decide) h1 ft_1_1 ?_
  obtain ⟨r1, e2, h⟩ := Option.bind_eq_some_iff.mp h
  refine cx_V (sk := []) (vs := [.ref (p1 + 1), .int (0 : Int32), .int (μ.1 p1 1)]) st_71_70 k71_10 ow_71 cl_2_33 (by decide) rfl (Nat.le_of_ble_eq_true rfl) h0 (ok70 a0 (p1 + 1) (0 : Int32) (μ.1 p1 1) h0 (kf_1_0 h1).2 _ _ e2) (sk3 := []) rfl rfl ?_
  exact cx_retv k71_13 rt_71 h
theorem k74_0 : decode (gb 74) 0 = .ok (.aload_n 0, 1) := by decide +kernel
theorem k74_1 : decode (gb 74) 1 = .ok (.getfield 19, 3) := by decide +kernel
theorem k74_4 : decode (gb 74) 4 = .ok (.aload_n 1, 1) := by decide +kernel
theorem k74_5 : decode (gb 74) 5 = .ok (.arraylength, 1) := by decide +kernel
theorem k74_6 : decode (gb 74) 6 = .ok (.invokestatic 43, 3) := by decide +kernel
theorem k74_9 : decode (gb 74) 9 = .ok (.istore_n 2, 1) := by decide +kernel
theorem k74_10 : decode (gb 74) 10 = .ok (.iconst 0, 1) := by decide +kernel
theorem k74_11 : decode (gb 74) 11 = .ok (.istore_n 3, 1) := by decide +kernel
theorem k74_12 : decode (gb 74) 12 = .ok (.iload_n 3, 1) := by decide +kernel
theorem k74_13 : decode (gb 74) 13 = .ok (.iload_n 2, 1) := by decide +kernel
theorem k74_14 : decode (gb 74) 14 = .ok (.if_icmp .ge 22, 3) := by decide +kernel
theorem k74_17 : decode (gb 74) 17 = .ok (.aload_n 0, 1) := by decide +kernel
theorem k74_18 : decode (gb 74) 18 = .ok (.getfield 13, 3) := by decide +kernel
theorem k74_21 : decode (gb 74) 21 = .ok (.iload_n 3, 1) := by decide +kernel
theorem k74_22 : decode (gb 74) 22 = .ok (.dup2, 1) := by decide +kernel
theorem k74_23 : decode (gb 74) 23 = .ok (.baload, 1) := by decide +kernel
theorem k74_24 : decode (gb 74) 24 = .ok (.aload_n 1, 1) := by decide +kernel
theorem k74_25 : decode (gb 74) 25 = .ok (.iload_n 3, 1) := by decide +kernel
theorem k74_26 : decode (gb 74) 26 = .ok (.baload, 1) := by decide +kernel
theorem k74_27 : decode (gb 74) 27 = .ok (.ixor, 1) := by decide +kernel
theorem k74_28 : decode (gb 74) 28 = .ok (.i2b, 1) := by decide +kernel
theorem k74_29 : decode (gb 74) 29 = .ok (.bastore, 1) := by decide +kernel
theorem k74_30 : decode (gb 74) 30 = .ok (.iinc 3 1, 3) := by decide +kernel
theorem k74_33 : decode (gb 74) 33 = .ok (.goto (-21), 3) := by decide +kernel
theorem k74_36 : decode (gb 74) 36 = .ok (.return_, 1) := by decide +kernel
def b74_12 (a0 : Nat) (p1 : Nat) (kl12 : Int32 → Int32 → Mem → Option (Mem)) (v2 : Int32) (v3 : Int32) (μ : Mem) : Option (Mem) :=
  if v2 ≤ v3 then
    some μ
  else
    (ldA (a0 + 1) v3 μ).bind fun x2 =>
    (ldA p1 v3 μ).bind fun x4 =>
    (stB (a0 + 1) v3 ((x2 ^^^ x4).toInt8.toInt32) μ).bind fun m6 =>
    nm (v3 + (1 : Int32)) fun x8 =>
    kl12 v2 x8 m6
theorem b74_12_ok {L : Nat} (a0 : Nat) (p1 : Nat) (h0 : SK0 a0 = (0, 1)) (h1 : SK0 p1 = (2, gln p1)) (kl12 : Int32 → Int32 → Mem → Option (Mem)) (hk12 : (∀ (v2 : Int32) (v3 : Int32) (μ : Mem) (res : Mem), kl12 v2 v3 μ = some res → Sx 74 12 [(0, .ref a0), (1, .ref p1), (2, .int v2), (3, .int v3)] [] 0 0 (mk L μ) (mk L res, none))) (v2 : Int32) (v3 : Int32) (μ : Mem) (res : Mem) (h : b74_12 a0 p1 kl12 v2 v3 μ = some res) : Sx 74 12 [(0, .ref a0), (1, .ref p1), (2, .int v2), (3, .int v3)] [] 0 0 (mk L μ) (mk L res, none) := by
  unfold b74_12 at h
  refine sx_iload_n (i := 3) k74_12 rfl rfl ?_
  refine sx_iload_n (i := 2) k74_13 rfl rfl ?_
  by_cases hb1 : v2 ≤ v3
  · rw [if_pos hb1] at h
    refine sx_icmp_ge (tgt := 36) k74_14 (by decide) (fun _ => ?_) (fun q => absurd hb1 q)
    exact cx_retv k74_36 rt_74 h
  · rw [if_neg hb1] at h
    refine sx_icmp_ge (tgt := 36) k74_14 (by decide) (fun q => absurd q hb1) (fun _ => ?_)
    refine sx_aload_n (i := 0) k74_17 rfl rfl ?_
    refine cx_getR (k := 0) k74_18 ow_74 fl_2_13 (by decide) h0 ft_1_0 (kf_1_0 h0).1 ?_
    refine sx_iload_n (i := 3) k74_21 rfl rfl ?_
    refine sx_dup2 k74_22 rfl rfl ?_
    obtain ⟨x2, e3, h⟩ := Option.bind_eq_some_iff.mp h
    refine cx_bald k74_23 (Or.inl (kf_1_0 h0).2) e3 ?_
    refine sx_aload_n (i := 1) k74_24 rfl rfl ?_
    refine sx_iload_n (i := 3) k74_25 rfl rfl ?_
    obtain ⟨x4, e5, h⟩ := Option.bind_eq_some_iff.mp h
    refine cx_bald k74_26 (Or.inl h1) e5 ?_
    refine sx_ixor k74_27 ?_
    refine sx_i2b k74_28 ?_
    obtain ⟨m6, e7, h⟩ := Option.bind_eq_some_iff.mp h
    refine cx_bast k74_29 (kf_1_0 h0).2 e7 ?_
    refine cx_iinc (c := 1) (lo2 := fun x8 => [(3, .int x8), (0, .ref a0), (1, .ref p1), (2, .int v2)]) k74_30 rfl (by decide) (by rw [mx_74]; decide) (fun _ => rfl) h (fun x8 h => ?_)
    refine sx_goto (tgt := 12) k74_33 (by decide) ?_
    refine sx_pick (lo2 := [(0, .ref a0), (1, .ref p1), (2, .int v2), (3, .int x8)]) [1, 2, 3, 0] rfl ?_
    exact hk12 v2 x8 _ _ h
def l74_12 (a0 : Nat) (p1 : Nat) : Nat → Int32 × Int32 × Mem → Option (Mem) :=
  fixN (fun self x => b74_12 a0 p1 (fun v2 v3 μ => self (v2, v3, μ)) (x.1) (x.2.1) (x.2.2))
theorem l74_12_ok {L : Nat} (a0 : Nat) (p1 : Nat) (h0 : SK0 a0 = (0, 1)) (h1 : SK0 p1 = (2, gln p1)) (n : Nat) (v2 : Int32) (v3 : Int32) (μ : Mem) (res : Mem) (h : l74_12 a0 p1 n (v2, v3, μ) = some res) : Sx 74 12 [(0, .ref a0), (1, .ref p1), (2, .int v2), (3, .int v3)] [] 0 0 (mk L μ) (mk L res, none) := by
  have key := fixN_ind (P := fun x res => Sx 74 12 [(0, .ref a0), (1, .ref p1), (2, .int (x.1)), (3, .int (x.2.1))] [] 0 0 (mk L (x.2.2)) (mk L res, none)) (F := fun self x => b74_12 a0 p1 (fun v2 v3 μ => self (v2, v3, μ)) (x.1) (x.2.1) (x.2.2)) (fun self hself x res h => b74_12_ok a0 p1 h0 h1 (fun v2 v3 μ => self (v2, v3, μ)) (fun v2 v3 μ res hh => hself (v2, v3, μ) res hh) (x.1) (x.2.1) (x.2.2) res h) n (v2, v3, μ) res h
  exact key
/-- Bytes.mix([B)V -/
def f74 (a0 : Nat) (p1 : Nat) (μ : Mem) : Option (Mem) :=
  nm (jmin (μ.1 a0 1) (nI (gln p1))) fun x1 =>
  l74_12 a0 p1 gF (x1, (0 : Int32), μ)
theorem ok74 {L : Nat} (a0 : Nat) (p1 : Nat) (h0 : SK0 a0 = (0, 1)) (h1 : SK0 p1 = (2, gln p1)) (μ : Mem) (res : Mem) (h : f74 a0 p1 μ = some res) : Mx 74 [.ref a0, .ref p1] (mk L μ) (mk L res, none) := by
  refine Mx_of ml_74 (by rw [mx_74]; exact Nat.le_of_ble_eq_true rfl) ?_
  show Sx 74 0 [(0, .ref a0), (1, .ref p1)] [] 0 0 (mk L μ) _
  unfold f74 at h
  refine sx_aload_n (i := 0) k74_0 rfl rfl ?_
  refine cx_getI (k := 1) k74_1 ow_74 fl_2_19 (by decide) h0 ft_1_1 ?_
  refine sx_aload_n (i := 1) k74_4 rfl rfl ?_
  refine cx_alen (t := 1) k74_5 (by decide) h1 ?_
  refine cx_min k74_6 ow_74 yl_2_43 (by decide) (by decide +kernel) (Nat.le_of_ble_eq_true rfl) ?_
  refine cx_nm h (fun x1 h => ?_)
  refine cx_istore_n (lo2 := [(2, .int x1), (0, .ref a0), (1, .ref p1)]) k74_9 rfl (by rw [mx_74]; decide) rfl ?_
  refine sx_iconst (v := 0) k74_10 (by decide) ?_
  refine cx_istore_n (lo2 := [(3, .int (0 : Int32)), (2, .int x1), (0, .ref a0), (1, .ref p1)]) k74_11 rfl (by rw [mx_74]; decide) rfl ?_
  refine sx_pick (lo2 := [(0, .ref a0), (1, .ref p1), (2, .int x1), (3, .int (0 : Int32))]) [2, 3, 1, 0] rfl ?_
  exact l74_12_ok a0 p1 h0 h1 gF x1 (0 : Int32) _ _ h
