theorem k175_0 : decode (gb 175) 0 = .ok (.iconst 0, 1) := by decide +kernel
theorem k175_1 : decode (gb 175) 1 = .ok (.istore_n 2, 1) := by decide +kernel
theorem k175_2 : decode (gb 175) 2 = .ok (.iload_n 2, 1) := by decide +kernel
theorem k175_3 : decode (gb 175) 3 = .ok (.aload_n 0, 1) := by decide +kernel
theorem k175_4 : decode (gb 175) 4 = .ok (.getfield 33, 3) := by decide +kernel
theorem k175_7 : decode (gb 175) 7 = .ok (.if_icmp .ge 21, 3) := by decide +kernel
theorem k175_10 : decode (gb 175) 10 = .ok (.aload_n 0, 1) := by decide +kernel
theorem k175_11 : decode (gb 175) 11 = .ok (.getfield 18, 3) := by decide +kernel
theorem k175_14 : decode (gb 175) 14 = .ok (.iload_n 2, 1) := by decide +kernel
theorem k175_15 : decode (gb 175) 15 = .ok (.iaload, 1) := by decide +kernel
theorem k175_16 : decode (gb 175) 16 = .ok (.iload_n 1, 1) := by decide +kernel
theorem k175_17 : decode (gb 175) 17 = .ok (.if_icmp .ne 5, 3) := by decide +kernel
theorem k175_20 : decode (gb 175) 20 = .ok (.iconst 1, 1) := by decide +kernel
theorem k175_21 : decode (gb 175) 21 = .ok (.ireturn, 1) := by decide +kernel
theorem k175_22 : decode (gb 175) 22 = .ok (.iinc 2 1, 3) := by decide +kernel
theorem k175_25 : decode (gb 175) 25 = .ok (.goto (-23), 3) := by decide +kernel
theorem k175_28 : decode (gb 175) 28 = .ok (.iconst 0, 1) := by decide +kernel
theorem k175_29 : decode (gb 175) 29 = .ok (.ireturn, 1) := by decide +kernel
def b175_2 (a0 : Nat) (kl2 : Int32 → Int32 → Mem → Option (Mem × Int32)) (v1 : Int32) (v2 : Int32) (μ : Mem) : Option (Mem × Int32) :=
  if (μ.1 a0 2) ≤ v2 then
    rtZ (0 : Int32) μ
  else
    (ldA (a0 + 7) v2 μ).bind fun x2 =>
    if x2 = v1 then
      rtZ (1 : Int32) μ
    else
      nm (v2 + (1 : Int32)) fun x5 =>
      kl2 v1 x5 μ
theorem b175_2_ok {L : Nat} (a0 : Nat) (h0 : SK0 a0 = (0, 8)) (kl2 : Int32 → Int32 → Mem → Option (Mem × Int32)) (hk2 : (∀ (v1 : Int32) (v2 : Int32) (μ : Mem) (res : Mem × Int32), kl2 v1 v2 μ = some res → Sx 175 2 [(0, .ref a0), (1, .int v1), (2, .int v2)] [] 0 0 (mk L μ) (mk L res.1, some (.int res.2)))) (v1 : Int32) (v2 : Int32) (μ : Mem) (res : Mem × Int32) (h : b175_2 a0 kl2 v1 v2 μ = some res) : Sx 175 2 [(0, .ref a0), (1, .int v1), (2, .int v2)] [] 0 0 (mk L μ) (mk L res.1, some (.int res.2)) := by
  unfold b175_2 at h
  refine sx_iload_n (i := 2) k175_2 rfl rfl ?_
  refine sx_aload_n (i := 0) k175_3 rfl rfl ?_
  refine cx_getI (k := 2) k175_4 ow_175 fl_9_33 (by decide) h0 ft_8_2 ?_
  by_cases hb1 : (μ.1 a0 2) ≤ v2
  · rw [if_pos hb1] at h
    refine sx_icmp_ge (tgt := 28) k175_7 (by decide) (fun _ => ?_) (fun q => absurd hb1 q)
    refine sx_iconst (v := 0) k175_28 (by decide) ?_
    exact cx_retz k175_29 rt_175 h
  · rw [if_neg hb1] at h
    refine sx_icmp_ge (tgt := 28) k175_7 (by decide) (fun q => absurd q hb1) (fun _ => ?_)
    refine sx_aload_n (i := 0) k175_10 rfl rfl ?_
    refine cx_getR (k := 1) k175_11 ow_175 fl_9_18 (by decide) h0 ft_8_1 (kf_8_1 h0).1 ?_
    refine sx_iload_n (i := 2) k175_14 rfl rfl ?_
    obtain ⟨x2, e3, h⟩ := Option.bind_eq_some_iff.mp h
    refine cx_iald k175_15 (kf_8_1 h0).2 e3 ?_
    refine sx_iload_n (i := 1) k175_16 rfl rfl ?_
    by_cases hb4 : x2 = v1
    · rw [if_pos hb4] at h
      refine sx_icmp_ne (tgt := 22) k175_17 (by decide) (fun q => absurd hb4 q) (fun _ => ?_)
      refine sx_iconst (v := 1) k175_20 (by decide) ?_
      exact cx_retz k175_21 rt_175 h
    · rw [if_neg hb4] at h
      refine sx_icmp_ne (tgt := 22) k175_17 (by decide) (fun _ => ?_) (fun q => absurd q hb4)
      refine cx_iinc (c := 1) (lo2 := fun x5 => [(2, .int x5), (0, .ref a0), (1, .int v1)]) k175_22 rfl (by decide) (by rw [mx_175]; decide) (fun _ => rfl) h (fun x5 h => ?_)
      refine sx_goto (tgt := 2) k175_25 (by decide) ?_
      refine sx_pick (lo2 := [(0, .ref a0), (1, .int v1), (2, .int x5)]) [1, 2, 0] rfl ?_
      exact hk2 v1 x5 _ _ h
def l175_2 (a0 : Nat) : Nat → Int32 × Int32 × Mem → Option (Mem × Int32) :=
  fixN (fun self x => b175_2 a0 (fun v1 v2 μ => self (v1, v2, μ)) (x.1) (x.2.1) (x.2.2))
theorem l175_2_ok {L : Nat} (a0 : Nat) (h0 : SK0 a0 = (0, 8)) (n : Nat) (v1 : Int32) (v2 : Int32) (μ : Mem) (res : Mem × Int32) (h : l175_2 a0 n (v1, v2, μ) = some res) : Sx 175 2 [(0, .ref a0), (1, .int v1), (2, .int v2)] [] 0 0 (mk L μ) (mk L res.1, some (.int res.2)) := by
  have key := fixN_ind (P := fun x res => Sx 175 2 [(0, .ref a0), (1, .int (x.1)), (2, .int (x.2.1))] [] 0 0 (mk L (x.2.2)) (mk L res.1, some (.int res.2))) (F := fun self x => b175_2 a0 (fun v1 v2 μ => self (v1, v2, μ)) (x.1) (x.2.1) (x.2.2)) (fun self hself x res h => b175_2_ok a0 h0 (fun v1 v2 μ => self (v1, v2, μ)) (fun v1 v2 μ res hh => hself (v1, v2, μ) res hh) (x.1) (x.2.1) (x.2.2) res h) n (v1, v2, μ) res h
  exact key
/-- Store.isChosen(I)Z -/
def f175 (a0 : Nat) (p1 : Int32) (μ : Mem) : Option (Mem × Int32) :=
  l175_2 a0 gF (p1, (0 : Int32), μ)
theorem ok175 {L : Nat} (a0 : Nat) (p1 : Int32) (h0 : SK0 a0 = (0, 8)) (μ : Mem) (res : Mem × Int32) (h : f175 a0 p1 μ = some res) : Mx 175 [.ref a0, .int p1] (mk L μ) (mk L res.1, some (.int res.2)) := by
  refine Mx_of ml_175 (by rw [mx_175]; exact Nat.le_of_ble_eq_true rfl) ?_
  show Sx 175 0 [(0, .ref a0), (1, .int p1)] [] 0 0 (mk L μ) _
  unfold f175 at h
  refine sx_iconst (v := 0) k175_0 (by decide) ?_
  refine cx_istore_n (lo2 := [(2, .int (0 : Int32)), (0, .ref a0), (1, .int p1)]) k175_1 rfl (by rw [mx_175]; decide) rfl ?_
  refine sx_pick (lo2 := [(0, .ref a0), (1, .int p1), (2, .int (0 : Int32))]) [1, 2, 0] rfl ?_
  exact l175_2_ok a0 h0 gF p1 (0 : Int32) _ _ h
theorem k178_0 : decode (gb 178) 0 = .ok (.aload_n 0, 1) := by decide +kernel
theorem k178_1 : decode (gb 178) 1 = .ok (.getfield 29, 3) := by decide +kernel
theorem k178_4 : decode (gb 178) 4 = .ok (.ifCond .eq 11, 3) := by decide +kernel
theorem k178_7 : decode (gb 178) 7 = .ok (.aload_n 0, 1) := by decide +kernel
theorem k178_8 : decode (gb 178) 8 = .ok (.iload_n 2, 1) := by decide +kernel
theorem k178_9 : decode (gb 178) 9 = .ok (.invokevirtual 39, 3) := by decide +kernel
theorem k178_12 : decode (gb 178) 12 = .ok (.ifCond .ne 4, 3) := by decide +kernel
theorem k178_15 : decode (gb 178) 15 = .ok (.return_, 1) := by decide +kernel
theorem k178_16 : decode (gb 178) 16 = .ok (.aload_n 0, 1) := by decide +kernel
theorem k178_17 : decode (gb 178) 17 = .ok (.getfield 25, 3) := by decide +kernel
theorem k178_20 : decode (gb 178) 20 = .ok (.ifCond .eq 45, 3) := by decide +kernel
theorem k178_23 : decode (gb 178) 23 = .ok (.aload_n 0, 1) := by decide +kernel
theorem k178_24 : decode (gb 178) 24 = .ok (.getfield 14, 3) := by decide +kernel
theorem k178_27 : decode (gb 178) 27 = .ok (.getfield 43, 3) := by decide +kernel
theorem k178_30 : decode (gb 178) 30 = .ok (.istore 4, 2) := by decide +kernel
theorem k178_32 : decode (gb 178) 32 = .ok (.iload 4, 2) := by decide +kernel
theorem k178_34 : decode (gb 178) 34 = .ok (.ifCond .le 31, 3) := by decide +kernel
theorem k178_37 : decode (gb 178) 37 = .ok (.aload_n 0, 1) := by decide +kernel
theorem k178_38 : decode (gb 178) 38 = .ok (.getfield 14, 3) := by decide +kernel
theorem k178_41 : decode (gb 178) 41 = .ok (.aload_n 1, 1) := by decide +kernel
theorem k178_42 : decode (gb 178) 42 = .ok (.getfield 46, 3) := by decide +kernel
theorem k178_45 : decode (gb 178) 45 = .ok (.invokevirtual 51, 3) := by decide +kernel
theorem k178_48 : decode (gb 178) 48 = .ok (.ifCond .ne 17, 3) := by decide +kernel
theorem k178_51 : decode (gb 178) 51 = .ok (.aload_n 0, 1) := by decide +kernel
theorem k178_52 : decode (gb 178) 52 = .ok (.getfield 14, 3) := by decide +kernel
theorem k178_55 : decode (gb 178) 55 = .ok (.iconst 0, 1) := by decide +kernel
theorem k178_56 : decode (gb 178) 56 = .ok (.invokevirtual 54, 3) := by decide +kernel
theorem k178_59 : decode (gb 178) 59 = .ok (.iinc 4 (-1), 3) := by decide +kernel
theorem k178_62 : decode (gb 178) 62 = .ok (.goto (-30), 3) := by decide +kernel
theorem k178_65 : decode (gb 178) 65 = .ok (.aload_n 0, 1) := by decide +kernel
theorem k178_66 : decode (gb 178) 66 = .ok (.getfield 14, 3) := by decide +kernel
theorem k178_69 : decode (gb 178) 69 = .ok (.aload_n 1, 1) := by decide +kernel
theorem k178_70 : decode (gb 178) 70 = .ok (.iconst 0, 1) := by decide +kernel
theorem k178_71 : decode (gb 178) 71 = .ok (.aload_n 1, 1) := by decide +kernel
theorem k178_72 : decode (gb 178) 72 = .ok (.getfield 46, 3) := by decide +kernel
theorem k178_75 : decode (gb 178) 75 = .ok (.iload_n 3, 1) := by decide +kernel
theorem k178_76 : decode (gb 178) 76 = .ok (.iconst 0, 1) := by decide +kernel
theorem k178_77 : decode (gb 178) 77 = .ok (.invokevirtual 58, 3) := by decide +kernel
theorem k178_80 : decode (gb 178) 80 = .ok (.ifCond .ne 13, 3) := by decide +kernel
theorem k178_83 : decode (gb 178) 83 = .ok (.aload_n 0, 1) := by decide +kernel
theorem k178_84 : decode (gb 178) 84 = .ok (.dup, 1) := by decide +kernel
theorem k178_85 : decode (gb 178) 85 = .ok (.getfield 36, 3) := by decide +kernel
theorem k178_88 : decode (gb 178) 88 = .ok (.iconst 1, 1) := by decide +kernel
theorem k178_89 : decode (gb 178) 89 = .ok (.iadd, 1) := by decide +kernel
theorem k178_90 : decode (gb 178) 90 = .ok (.putfield 36, 3) := by decide +kernel
theorem k178_93 : decode (gb 178) 93 = .ok (.return_, 1) := by decide +kernel
def c178_65 (a0 : Nat) (p1 : Nat) (v3 : Int32) (μ : Mem) : Option (Mem) :=
  (f161 (a0 + 1) p1 (0 : Int32) (μ.1 p1 1) v3 (0 : Int32) μ).bind fun r1 =>
  if r1.2 = 0 then
    (pfI a0 5 ((r1.1.1 a0 5) + (1 : Int32)) r1.1).bind fun m4 =>
    some m4
  else
    some r1.1
theorem c178_65_ok {L : Nat} (a0 : Nat) (p1 : Nat) (h0 : SK0 a0 = (0, 8)) (h1 : SK0 p1 = (0, 1)) (v3 : Int32) (μ : Mem) (res : Mem) (h : c178_65 a0 p1 v3 μ = some res) : Sx 178 65 [(0, .ref a0), (1, .ref p1), (3, .int v3)] [] 0 0 (mk L μ) (mk L res, none) := by
  unfold c178_65 at h
  refine sx_aload_n (i := 0) k178_65 rfl rfl ?_
  refine cx_getR (k := 0) k178_66 ow_178 fl_9_14 (by decide) h0 ft_8_0 (kf_8_0 h0).1 ?_
  refine sx_aload_n (i := 1) k178_69 rfl rfl ?_
  refine sx_iconst (v := 0) k178_70 (by decide) ?_
  refine sx_aload_n (i := 1) k178_71 rfl rfl ?_
  refine cx_getI (k := 1) k178_72 ow_178 fl_9_46 (by decide) h1 ft_1_1 ?_
  refine sx_iload_n (i := 3) k178_75 rfl rfl ?_
  refine sx_iconst (v := 0) k178_76 (by decide) ?_
  obtain ⟨r1, e2, h⟩ := Option.bind_eq_some_iff.mp h
  refine cx_V (sk := []) (vs := [.ref p1, .int (0 : Int32), .int (μ.1 p1 1), .int v3, .int (0 : Int32)]) st_178_161 k178_77 ow_178 cl_9_58 (by decide) rfl (Nat.le_of_ble_eq_true rfl) (kf_8_0 h0).2 (ok161 (a0 + 1) p1 (0 : Int32) (μ.1 p1 1) v3 (0 : Int32) (kf_8_0 h0).2 h1 _ _ e2) (sk3 := [.int r1.2]) rfl rfl ?_
  by_cases hb3 : r1.2 = 0
  · rw [if_pos hb3] at h
    refine sx_if_ne (tgt := 93) k178_80 (by decide) (fun q => absurd hb3 q) (fun _ => ?_)
    refine sx_aload_n (i := 0) k178_83 rfl rfl ?_
    refine sx_dup k178_84 rfl ?_
    refine cx_getI (k := 5) k178_85 ow_178 fl_9_36 (by decide) h0 ft_8_5 ?_
    refine sx_iconst (v := 1) k178_88 (by decide) ?_
    refine sx_iadd k178_89 ?_
    obtain ⟨m4, e5, h⟩ := Option.bind_eq_some_iff.mp h
    refine cx_putI (k := 5) k178_90 ow_178 fl_9_36 (by decide) h0 nf_8_5 fu_8_5 e5 ?_
    exact cx_retv k178_93 rt_178 h
  · rw [if_neg hb3] at h
    refine sx_if_ne (tgt := 93) k178_80 (by decide) (fun _ => ?_) (fun q => absurd q hb3)
    exact cx_retv k178_93 rt_178 h
def b178_32 (a0 : Nat) (p1 : Nat) (kl32 : Int32 → Int32 → Mem → Option (Mem)) (v3 : Int32) (v4 : Int32) (μ : Mem) : Option (Mem) :=
  if v4 ≤ 0 then
    c178_65 a0 p1 v3 μ
  else
    (f160 (a0 + 1) (μ.1 p1 1) μ).bind fun r2 =>
    if r2.2 = 0 then
      (f162 (a0 + 1) (0 : Int32) r2.1).bind fun r5 =>
      nm (v4 + (-1 : Int32)) fun x7 =>
      kl32 v3 x7 r5
    else
      c178_65 a0 p1 v3 r2.1
theorem b178_32_ok {L : Nat} (a0 : Nat) (p1 : Nat) (h0 : SK0 a0 = (0, 8)) (h1 : SK0 p1 = (0, 1)) (kl32 : Int32 → Int32 → Mem → Option (Mem)) (hk32 : (∀ (v3 : Int32) (v4 : Int32) (μ : Mem) (res : Mem), kl32 v3 v4 μ = some res → Sx 178 32 [(0, .ref a0), (1, .ref p1), (3, .int v3), (4, .int v4)] [] 0 0 (mk L μ) (mk L res, none))) (v3 : Int32) (v4 : Int32) (μ : Mem) (res : Mem) (h : b178_32 a0 p1 kl32 v3 v4 μ = some res) : Sx 178 32 [(0, .ref a0), (1, .ref p1), (3, .int v3), (4, .int v4)] [] 0 0 (mk L μ) (mk L res, none) := by
  unfold b178_32 at h
  refine sx_iload k178_32 rfl ?_
  by_cases hb1 : v4 ≤ 0
  · rw [if_pos hb1] at h
    refine sx_if_le (tgt := 65) k178_34 (by decide) (fun _ => ?_) (fun q => absurd hb1 q)
    refine sx_pick (lo2 := [(0, .ref a0), (1, .ref p1), (3, .int v3)]) [0, 1, 2] rfl ?_
    exact c178_65_ok a0 p1 h0 h1 v3 _ _ h
  · rw [if_neg hb1] at h
    refine sx_if_le (tgt := 65) k178_34 (by decide) (fun q => absurd q hb1) (fun _ => ?_)
    refine sx_aload_n (i := 0) k178_37 rfl rfl ?_
    refine cx_getR (k := 0) k178_38 ow_178 fl_9_14 (by decide) h0 ft_8_0 (kf_8_0 h0).1 ?_
    refine sx_aload_n (i := 1) k178_41 rfl rfl ?_
    refine cx_getI (k := 1) k178_42 ow_178 fl_9_46 (by decide) h1 ft_1_1 ?_
    obtain ⟨r2, e3, h⟩ := Option.bind_eq_some_iff.mp h
    refine cx_V (sk := []) (vs := [.int (μ.1 p1 1)]) st_178_160 k178_45 ow_178 cl_9_51 (by decide) rfl (Nat.le_of_ble_eq_true rfl) (kf_8_0 h0).2 (ok160 (a0 + 1) (μ.1 p1 1) (kf_8_0 h0).2 _ _ e3) (sk3 := [.int r2.2]) rfl rfl ?_
    by_cases hb4 : r2.2 = 0
    · rw [if_pos hb4] at h
      refine sx_if_ne (tgt := 65) k178_48 (by decide) (fun q => absurd hb4 q) (fun _ => ?_)
      refine sx_aload_n (i := 0) k178_51 rfl rfl ?_
      refine cx_getR (k := 0) k178_52 ow_178 fl_9_14 (by decide) h0 ft_8_0 (kf_8_0 h0).1 ?_
      refine sx_iconst (v := 0) k178_55 (by decide) ?_
      obtain ⟨r5, e6, h⟩ := Option.bind_eq_some_iff.mp h
      refine cx_V (sk := []) (vs := [.int (0 : Int32)]) st_178_162 k178_56 ow_178 cl_9_54 (by decide) rfl (Nat.le_of_ble_eq_true rfl) (kf_8_0 h0).2 (ok162 (a0 + 1) (0 : Int32) (kf_8_0 h0).2 _ _ e6) (sk3 := []) rfl rfl ?_
      refine cx_iinc (c := -1) (lo2 := fun x7 => [(4, .int x7), (0, .ref a0), (1, .ref p1), (3, .int v3)]) k178_59 rfl (by decide) (by rw [mx_178]; decide) (fun _ => rfl) h (fun x7 h => ?_)
      refine sx_goto (tgt := 32) k178_62 (by decide) ?_
      refine sx_pick (lo2 := [(0, .ref a0), (1, .ref p1), (3, .int v3), (4, .int x7)]) [1, 2, 3, 0] rfl ?_
      exact hk32 v3 x7 _ _ h
    · rw [if_neg hb4] at h
      refine sx_if_ne (tgt := 65) k178_48 (by decide) (fun _ => ?_) (fun q => absurd q hb4)
      refine sx_pick (lo2 := [(0, .ref a0), (1, .ref p1), (3, .int v3)]) [0, 1, 2] rfl ?_
      exact c178_65_ok a0 p1 h0 h1 v3 _ _ h
def l178_32 (a0 : Nat) (p1 : Nat) : Nat → Int32 × Int32 × Mem → Option (Mem) :=
  fixN (fun self x => b178_32 a0 p1 (fun v3 v4 μ => self (v3, v4, μ)) (x.1) (x.2.1) (x.2.2))
theorem l178_32_ok {L : Nat} (a0 : Nat) (p1 : Nat) (h0 : SK0 a0 = (0, 8)) (h1 : SK0 p1 = (0, 1)) (n : Nat) (v3 : Int32) (v4 : Int32) (μ : Mem) (res : Mem) (h : l178_32 a0 p1 n (v3, v4, μ) = some res) : Sx 178 32 [(0, .ref a0), (1, .ref p1), (3, .int v3), (4, .int v4)] [] 0 0 (mk L μ) (mk L res, none) := by
  have key := fixN_ind (P := fun x res => Sx 178 32 [(0, .ref a0), (1, .ref p1), (3, .int (x.1)), (4, .int (x.2.1))] [] 0 0 (mk L (x.2.2)) (mk L res, none)) (F := fun self x => b178_32 a0 p1 (fun v3 v4 μ => self (v3, v4, μ)) (x.1) (x.2.1) (x.2.2)) (fun self hself x res h => b178_32_ok a0 p1 h0 h1 (fun v3 v4 μ => self (v3, v4, μ)) (fun v3 v4 μ res hh => hself (v3, v4, μ) res hh) (x.1) (x.2.1) (x.2.2) res h) n (v3, v4, μ) res h
  exact key
/-- Store.offer(LCraftHouse$Bytes;II)V -/
def f178 (a0 : Nat) (p1 : Nat) (p2 : Int32) (p3 : Int32) (μ : Mem) : Option (Mem) :=
  if (μ.1 a0 4) = 0 then
    some μ
  else
    (f175 a0 p2 μ).bind fun r2 =>
    if r2.2 = 0 then
      some r2.1
    else
      if (r2.1.1 a0 3) = 0 then
        c178_65 a0 p1 p3 r2.1
      else
        nm (r2.1.1 (a0 + 1) 5) fun x6 =>
        l178_32 a0 p1 gF (p3, x6, r2.1)
theorem ok178 {L : Nat} (a0 : Nat) (p1 : Nat) (p2 : Int32) (p3 : Int32) (h0 : SK0 a0 = (0, 8)) (h1 : SK0 p1 = (0, 1)) (μ : Mem) (res : Mem) (h : f178 a0 p1 p2 p3 μ = some res) : Mx 178 [.ref a0, .ref p1, .int p2, .int p3] (mk L μ) (mk L res, none) := by
  refine Mx_of ml_178 (by rw [mx_178]; exact Nat.le_of_ble_eq_true rfl) ?_
  show Sx 178 0 [(0, .ref a0), (1, .ref p1), (2, .int p2), (3, .int p3)] [] 0 0 (mk L μ) _
  unfold f178 at h
  refine sx_aload_n (i := 0) k178_0 rfl rfl ?_
  refine cx_getI (k := 4) k178_1 ow_178 fl_9_29 (by decide) h0 ft_8_4 ?_
  by_cases hb1 : (μ.1 a0 4) = 0
  · rw [if_pos hb1] at h
    refine sx_if_eq (tgt := 15) k178_4 (by decide) (fun _ => ?_) (fun q => absurd hb1 q)
    exact cx_retv k178_15 rt_178 h
  · rw [if_neg hb1] at h
    refine sx_if_eq (tgt := 15) k178_4 (by decide) (fun q => absurd q hb1) (fun _ => ?_)
    refine sx_aload_n (i := 0) k178_7 rfl rfl ?_
    refine sx_iload_n (i := 2) k178_8 rfl rfl ?_
    obtain ⟨r2, e3, h⟩ := Option.bind_eq_some_iff.mp h
    refine cx_V (sk := []) (vs := [.int p2]) st_178_175 k178_9 ow_178 cl_9_39 (by decide) rfl (Nat.le_of_ble_eq_true rfl) h0 (ok175 a0 p2 h0 _ _ e3) (sk3 := [.int r2.2]) rfl rfl ?_
    by_cases hb4 : r2.2 = 0
    · rw [if_pos hb4] at h
      refine sx_if_ne (tgt := 16) k178_12 (by decide) (fun q => absurd hb4 q) (fun _ => ?_)
      exact cx_retv k178_15 rt_178 h
    · rw [if_neg hb4] at h
      refine sx_if_ne (tgt := 16) k178_12 (by decide) (fun _ => ?_) (fun q => absurd q hb4)
      refine sx_aload_n (i := 0) k178_16 rfl rfl ?_
      refine cx_getI (k := 3) k178_17 ow_178 fl_9_25 (by decide) h0 ft_8_3 ?_
      by_cases hb5 : (r2.1.1 a0 3) = 0
      · rw [if_pos hb5] at h
        refine sx_if_eq (tgt := 65) k178_20 (by decide) (fun _ => ?_) (fun q => absurd hb5 q)
        refine sx_pick (lo2 := [(0, .ref a0), (1, .ref p1), (3, .int p3)]) [0, 1, 3] rfl ?_
        exact c178_65_ok a0 p1 h0 h1 p3 _ _ h
      · rw [if_neg hb5] at h
        refine sx_if_eq (tgt := 65) k178_20 (by decide) (fun q => absurd q hb5) (fun _ => ?_)
        refine sx_aload_n (i := 0) k178_23 rfl rfl ?_
        refine cx_getR (k := 0) k178_24 ow_178 fl_9_14 (by decide) h0 ft_8_0 (kf_8_0 h0).1 ?_
        refine cx_getI (k := 5) k178_27 ow_178 fl_9_43 (by decide) (kf_8_0 h0).2 ft_7_5 ?_
        refine cx_nm h (fun x6 h => ?_)
        refine cx_istore (lo2 := [(4, .int x6), (0, .ref a0), (1, .ref p1), (2, .int p2), (3, .int p3)]) k178_30 (by rw [mx_178]; decide) rfl ?_
        refine sx_pick (lo2 := [(0, .ref a0), (1, .ref p1), (3, .int p3), (4, .int x6)]) [1, 2, 4, 0] rfl ?_
        exact l178_32_ok a0 p1 h0 h1 gF p3 x6 _ _ h
theorem k176_0 : decode (gb 176) 0 = .ok (.aload_n 0, 1) := by decide +kernel
theorem k176_1 : decode (gb 176) 1 = .ok (.getfield 33, 3) := by decide +kernel
theorem k176_4 : decode (gb 176) 4 = .ok (.bipush 6, 2) := by decide +kernel
theorem k176_6 : decode (gb 176) 6 = .ok (.if_icmp .lt 11, 3) := by decide +kernel
theorem k176_9 : decode (gb 176) 9 = .ok (.aload_n 0, 1) := by decide +kernel
theorem k176_10 : decode (gb 176) 10 = .ok (.iload_n 1, 1) := by decide +kernel
theorem k176_11 : decode (gb 176) 11 = .ok (.invokevirtual 39, 3) := by decide +kernel
theorem k176_14 : decode (gb 176) 14 = .ok (.ifCond .eq 7, 3) := by decide +kernel
theorem k176_17 : decode (gb 176) 17 = .ok (.iconst 1, 1) := by decide +kernel
theorem k176_18 : decode (gb 176) 18 = .ok (.goto 4, 3) := by decide +kernel
theorem k176_21 : decode (gb 176) 21 = .ok (.iconst 0, 1) := by decide +kernel
theorem k176_22 : decode (gb 176) 22 = .ok (.ireturn, 1) := by decide +kernel
def c176_17 (a0 : Nat) (μ : Mem) : Option (Mem × Int32) :=
  rtZ (1 : Int32) μ
theorem c176_17_ok {L : Nat} (a0 : Nat) (h0 : SK0 a0 = (0, 8)) (μ : Mem) (res : Mem × Int32) (h : c176_17 a0 μ = some res) : Sx 176 17 [] [] 0 0 (mk L μ) (mk L res.1, some (.int res.2)) := by
  unfold c176_17 at h
  refine sx_iconst (v := 1) k176_17 (by decide) ?_
  refine sx_goto (tgt := 22) k176_18 (by decide) ?_
  exact cx_retz k176_22 rt_176 h
/-- Store.mayChoose(I)Z -/
def f176 (a0 : Nat) (p1 : Int32) (μ : Mem) : Option (Mem × Int32) :=
  if (μ.1 a0 2) < (6 : Int32) then
    c176_17 a0 μ
  else
    (f175 a0 p1 μ).bind fun r2 =>
    if r2.2 = 0 then
      rtZ (0 : Int32) r2.1
    else
      c176_17 a0 r2.1
theorem ok176 {L : Nat} (a0 : Nat) (p1 : Int32) (h0 : SK0 a0 = (0, 8)) (μ : Mem) (res : Mem × Int32) (h : f176 a0 p1 μ = some res) : Mx 176 [.ref a0, .int p1] (mk L μ) (mk L res.1, some (.int res.2)) := by
  refine Mx_of ml_176 (by rw [mx_176]; exact Nat.le_of_ble_eq_true rfl) ?_
  show Sx 176 0 [(0, .ref a0), (1, .int p1)] [] 0 0 (mk L μ) _
  unfold f176 at h
  refine sx_aload_n (i := 0) k176_0 rfl rfl ?_
  refine cx_getI (k := 2) k176_1 ow_176 fl_9_33 (by decide) h0 ft_8_2 ?_
  refine sx_bipush (v := 6) k176_4 (by decide) ?_
  by_cases hb1 : (μ.1 a0 2) < (6 : Int32)
  · rw [if_pos hb1] at h
    refine sx_icmp_lt (tgt := 17) k176_6 (by decide) (fun _ => ?_) (fun q => absurd hb1 q)
    refine sx_pick (lo2 := []) [] rfl ?_
    exact c176_17_ok a0 h0 _ _ h
  · rw [if_neg hb1] at h
    refine sx_icmp_lt (tgt := 17) k176_6 (by decide) (fun q => absurd q hb1) (fun _ => ?_)
    refine sx_aload_n (i := 0) k176_9 rfl rfl ?_
    refine sx_iload_n (i := 1) k176_10 rfl rfl ?_
    obtain ⟨r2, e3, h⟩ := Option.bind_eq_some_iff.mp h
    refine cx_V (sk := []) (vs := [.int p1]) st_176_175 k176_11 ow_176 cl_9_39 (by decide) rfl (Nat.le_of_ble_eq_true rfl) h0 (ok175 a0 p1 h0 _ _ e3) (sk3 := [.int r2.2]) rfl rfl ?_
    by_cases hb4 : r2.2 = 0
    · rw [if_pos hb4] at h
      refine sx_if_eq (tgt := 21) k176_14 (by decide) (fun _ => ?_) (fun q => absurd hb4 q)
      refine sx_iconst (v := 0) k176_21 (by decide) ?_
      exact cx_retz k176_22 rt_176 h
    · rw [if_neg hb4] at h
      refine sx_if_eq (tgt := 21) k176_14 (by decide) (fun q => absurd q hb4) (fun _ => ?_)
      refine sx_pick (lo2 := []) [] rfl ?_
      exact c176_17_ok a0 h0 _ _ h
theorem k177_0 : decode (gb 177) 0 = .ok (.aload_n 0, 1) := by decide +kernel
theorem k177_1 : decode (gb 177) 1 = .ok (.getfield 33, 3) := by decide +kernel
theorem k177_4 : decode (gb 177) 4 = .ok (.bipush 6, 2) := by decide +kernel
theorem k177_6 : decode (gb 177) 6 = .ok (.if_icmp .ge 31, 3) := by decide +kernel
theorem k177_9 : decode (gb 177) 9 = .ok (.aload_n 0, 1) := by decide +kernel
theorem k177_10 : decode (gb 177) 10 = .ok (.iload_n 1, 1) := by decide +kernel
theorem k177_11 : decode (gb 177) 11 = .ok (.invokevirtual 39, 3) := by decide +kernel
theorem k177_14 : decode (gb 177) 14 = .ok (.ifCond .ne 23, 3) := by decide +kernel
theorem k177_17 : decode (gb 177) 17 = .ok (.aload_n 0, 1) := by decide +kernel
theorem k177_18 : decode (gb 177) 18 = .ok (.getfield 18, 3) := by decide +kernel
theorem k177_21 : decode (gb 177) 21 = .ok (.aload_n 0, 1) := by decide +kernel
theorem k177_22 : decode (gb 177) 22 = .ok (.getfield 33, 3) := by decide +kernel
theorem k177_25 : decode (gb 177) 25 = .ok (.iload_n 1, 1) := by decide +kernel
theorem k177_26 : decode (gb 177) 26 = .ok (.iastore, 1) := by decide +kernel
theorem k177_27 : decode (gb 177) 27 = .ok (.aload_n 0, 1) := by decide +kernel
theorem k177_28 : decode (gb 177) 28 = .ok (.dup, 1) := by decide +kernel
theorem k177_29 : decode (gb 177) 29 = .ok (.getfield 33, 3) := by decide +kernel
theorem k177_32 : decode (gb 177) 32 = .ok (.iconst 1, 1) := by decide +kernel
theorem k177_33 : decode (gb 177) 33 = .ok (.iadd, 1) := by decide +kernel
theorem k177_34 : decode (gb 177) 34 = .ok (.putfield 33, 3) := by decide +kernel
theorem k177_37 : decode (gb 177) 37 = .ok (.return_, 1) := by decide +kernel
/-- Store.choose(I)V -/
def f177 (a0 : Nat) (p1 : Int32) (μ : Mem) : Option (Mem) :=
  if (6 : Int32) ≤ (μ.1 a0 2) then
    some μ
  else
    (f175 a0 p1 μ).bind fun r2 =>
    if r2.2 = 0 then
      (stA (a0 + 7) (r2.1.1 a0 2) p1 r2.1).bind fun m5 =>
      (pfI a0 2 ((m5.1 a0 2) + (1 : Int32)) m5).bind fun m7 =>
      some m7
    else
      some r2.1
theorem ok177 {L : Nat} (a0 : Nat) (p1 : Int32) (h0 : SK0 a0 = (0, 8)) (μ : Mem) (res : Mem) (h : f177 a0 p1 μ = some res) : Mx 177 [.ref a0, .int p1] (mk L μ) (mk L res, none) := by
  refine Mx_of ml_177 (by rw [mx_177]; exact Nat.le_of_ble_eq_true rfl) ?_
  show Sx 177 0 [(0, .ref a0), (1, .int p1)] [] 0 0 (mk L μ) _
  unfold f177 at h
  refine sx_aload_n (i := 0) k177_0 rfl rfl ?_
  refine cx_getI (k := 2) k177_1 ow_177 fl_9_33 (by decide) h0 ft_8_2 ?_
  refine sx_bipush (v := 6) k177_4 (by decide) ?_
  by_cases hb1 : (6 : Int32) ≤ (μ.1 a0 2)
  · rw [if_pos hb1] at h
    refine sx_icmp_ge (tgt := 37) k177_6 (by decide) (fun _ => ?_) (fun q => absurd hb1 q)
    exact cx_retv k177_37 rt_177 h
  · rw [if_neg hb1] at h
    refine sx_icmp_ge (tgt := 37) k177_6 (by decide) (fun q => absurd q hb1) (fun _ => ?_)
    refine sx_aload_n (i := 0) k177_9 rfl rfl ?_
    refine sx_iload_n (i := 1) k177_10 rfl rfl ?_
    obtain ⟨r2, e3, h⟩ := Option.bind_eq_some_iff.mp h
    refine cx_V (sk := []) (vs := [.int p1]) st_177_175 k177_11 ow_177 cl_9_39 (by decide) rfl (Nat.le_of_ble_eq_true rfl) h0 (ok175 a0 p1 h0 _ _ e3) (sk3 := [.int r2.2]) rfl rfl ?_
    by_cases hb4 : r2.2 = 0
    · rw [if_pos hb4] at h
      refine sx_if_ne (tgt := 37) k177_14 (by decide) (fun q => absurd hb4 q) (fun _ => ?_)
      refine sx_aload_n (i := 0) k177_17 rfl rfl ?_
      refine cx_getR (k := 1) k177_18 ow_177 fl_9_18 (by decide) h0 ft_8_1 (kf_8_1 h0).1 ?_
      refine sx_aload_n (i := 0) k177_21 rfl rfl ?_
      refine cx_getI (k := 2) k177_22 ow_177 fl_9_33 (by decide) h0 ft_8_2 ?_
      refine sx_iload_n (i := 1) k177_25 rfl rfl ?_
      obtain ⟨m5, e6, h⟩ := Option.bind_eq_some_iff.mp h
      refine cx_iast k177_26 (kf_8_1 h0).2 e6 ?_
      refine sx_aload_n (i := 0) k177_27 rfl rfl ?_
      refine sx_dup k177_28 rfl ?_
      refine cx_getI (k := 2) k177_29 ow_177 fl_9_33 (by decide) h0 ft_8_2 ?_
      refine sx_iconst (v := 1) k177_32 (by decide) ?_
      refine sx_iadd k177_33 ?_
      obtain ⟨m7, e8, h⟩ := Option.bind_eq_some_iff.mp h
      refine cx_putI (k := 2) k177_34 ow_177 fl_9_33 (by decide) h0 nf_8_2 fu_8_2 e8 ?_
      exact cx_retv k177_37 rt_177 h
    · rw [if_neg hb4] at h
      refine sx_if_ne (tgt := 37) k177_14 (by decide) (fun _ => ?_) (fun q => absurd q hb4)
      exact cx_retv k177_37 rt_177 h
theorem k179_0 : decode (gb 179) 0 = .ok (.aload_n 0, 1) := by decide +kernel
theorem k179_1 : decode (gb 179) 1 = .ok (.getfield 14, 3) := by decide +kernel
theorem k179_4 : decode (gb 179) 4 = .ok (.getfield 43, 3) := by decide +kernel
theorem k179_7 : decode (gb 179) 7 = .ok (.iconst 1, 1) := by decide +kernel
theorem k179_8 : decode (gb 179) 8 = .ok (.isub, 1) := by decide +kernel
theorem k179_9 : decode (gb 179) 9 = .ok (.istore_n 2, 1) := by decide +kernel
theorem k179_10 : decode (gb 179) 10 = .ok (.iload_n 2, 1) := by decide +kernel
theorem k179_11 : decode (gb 179) 11 = .ok (.ifCond .lt 29, 3) := by decide +kernel
theorem k179_14 : decode (gb 179) 14 = .ok (.aload_n 0, 1) := by decide +kernel
theorem k179_15 : decode (gb 179) 15 = .ok (.getfield 14, 3) := by decide +kernel
theorem k179_18 : decode (gb 179) 18 = .ok (.iload_n 2, 1) := by decide +kernel
theorem k179_19 : decode (gb 179) 19 = .ok (.invokevirtual 62, 3) := by decide +kernel
theorem k179_22 : decode (gb 179) 22 = .ok (.iload_n 1, 1) := by decide +kernel
theorem k179_23 : decode (gb 179) 23 = .ok (.if_icmp .gt 11, 3) := by decide +kernel
theorem k179_26 : decode (gb 179) 26 = .ok (.aload_n 0, 1) := by decide +kernel
theorem k179_27 : decode (gb 179) 27 = .ok (.getfield 14, 3) := by decide +kernel
theorem k179_30 : decode (gb 179) 30 = .ok (.iload_n 2, 1) := by decide +kernel
theorem k179_31 : decode (gb 179) 31 = .ok (.invokevirtual 54, 3) := by decide +kernel
theorem k179_34 : decode (gb 179) 34 = .ok (.iinc 2 (-1), 3) := by decide +kernel
theorem k179_37 : decode (gb 179) 37 = .ok (.goto (-27), 3) := by decide +kernel
theorem k179_40 : decode (gb 179) 40 = .ok (.return_, 1) := by decide +kernel
def c179_34 (a0 : Nat) (kl10 : Int32 → Int32 → Mem → Option (Mem)) (v1 : Int32) (v2 : Int32) (μ : Mem) : Option (Mem) :=
  nm (v2 + (-1 : Int32)) fun x1 =>
  kl10 v1 x1 μ
theorem c179_34_ok {L : Nat} (a0 : Nat) (h0 : SK0 a0 = (0, 8)) (kl10 : Int32 → Int32 → Mem → Option (Mem)) (hk10 : (∀ (v1 : Int32) (v2 : Int32) (μ : Mem) (res : Mem), kl10 v1 v2 μ = some res → Sx 179 10 [(0, .ref a0), (1, .int v1), (2, .int v2)] [] 0 0 (mk L μ) (mk L res, none))) (v1 : Int32) (v2 : Int32) (μ : Mem) (res : Mem) (h : c179_34 a0 kl10 v1 v2 μ = some res) : Sx 179 34 [(0, .ref a0), (1, .int v1), (2, .int v2)] [] 0 0 (mk L μ) (mk L res, none) := by
  unfold c179_34 at h
  refine cx_iinc (c := -1) (lo2 := fun x1 => [(2, .int x1), (0, .ref a0), (1, .int v1)]) k179_34 rfl (by decide) (by rw [mx_179]; decide) (fun _ => rfl) h (fun x1 h => ?_)
  refine sx_goto (tgt := 10) k179_37 (by decide) ?_
  refine sx_pick (lo2 := [(0, .ref a0), (1, .int v1), (2, .int x1)]) [1, 2, 0] rfl ?_
  exact hk10 v1 x1 _ _ h
def b179_10 (a0 : Nat) (kl10 : Int32 → Int32 → Mem → Option (Mem)) (v1 : Int32) (v2 : Int32) (μ : Mem) : Option (Mem) :=
  if v2 < 0 then
    some μ
  else
    (f167 (a0 + 1) v2 μ).bind fun r2 =>
    if v1 < r2.2 then
      c179_34 a0 kl10 v1 v2 r2.1
    else
      (f162 (a0 + 1) v2 r2.1).bind fun r5 =>
      c179_34 a0 kl10 v1 v2 r5
theorem b179_10_ok {L : Nat} (a0 : Nat) (h0 : SK0 a0 = (0, 8)) (kl10 : Int32 → Int32 → Mem → Option (Mem)) (hk10 : (∀ (v1 : Int32) (v2 : Int32) (μ : Mem) (res : Mem), kl10 v1 v2 μ = some res → Sx 179 10 [(0, .ref a0), (1, .int v1), (2, .int v2)] [] 0 0 (mk L μ) (mk L res, none))) (v1 : Int32) (v2 : Int32) (μ : Mem) (res : Mem) (h : b179_10 a0 kl10 v1 v2 μ = some res) : Sx 179 10 [(0, .ref a0), (1, .int v1), (2, .int v2)] [] 0 0 (mk L μ) (mk L res, none) := by
  unfold b179_10 at h
  refine sx_iload_n (i := 2) k179_10 rfl rfl ?_
  by_cases hb1 : v2 < 0
  · rw [if_pos hb1] at h
    refine sx_if_lt (tgt := 40) k179_11 (by decide) (fun _ => ?_) (fun q => absurd hb1 q)
    exact cx_retv k179_40 rt_179 h
  · rw [if_neg hb1] at h
    refine sx_if_lt (tgt := 40) k179_11 (by decide) (fun q => absurd q hb1) (fun _ => ?_)
    refine sx_aload_n (i := 0) k179_14 rfl rfl ?_
    refine cx_getR (k := 0) k179_15 ow_179 fl_9_14 (by decide) h0 ft_8_0 (kf_8_0 h0).1 ?_
    refine sx_iload_n (i := 2) k179_18 rfl rfl ?_
    obtain ⟨r2, e3, h⟩ := Option.bind_eq_some_iff.mp h
    refine cx_V (sk := []) (vs := [.int v2]) st_179_167 k179_19 ow_179 cl_9_62 (by decide) rfl (Nat.le_of_ble_eq_true rfl) (kf_8_0 h0).2 (ok167 (a0 + 1) v2 (kf_8_0 h0).2 _ _ e3) (sk3 := [.int r2.2]) rfl rfl ?_
    refine sx_iload_n (i := 1) k179_22 rfl rfl ?_
    by_cases hb4 : v1 < r2.2
    · rw [if_pos hb4] at h
      refine sx_icmp_gt (tgt := 34) k179_23 (by decide) (fun _ => ?_) (fun q => absurd hb4 q)
      refine sx_pick (lo2 := [(0, .ref a0), (1, .int v1), (2, .int v2)]) [0, 1, 2] rfl ?_
      exact c179_34_ok a0 h0 kl10 hk10 v1 v2 _ _ h
    · rw [if_neg hb4] at h
      refine sx_icmp_gt (tgt := 34) k179_23 (by decide) (fun q => absurd q hb4) (fun _ => ?_)
      refine sx_aload_n (i := 0) k179_26 rfl rfl ?_
      refine cx_getR (k := 0) k179_27 ow_179 fl_9_14 (by decide) h0 ft_8_0 (kf_8_0 h0).1 ?_
      refine sx_iload_n (i := 2) k179_30 rfl rfl ?_
      obtain ⟨r5, e6, h⟩ := Option.bind_eq_some_iff.mp h
      refine cx_V (sk := []) (vs := [.int v2]) st_179_162 k179_31 ow_179 cl_9_54 (by decide) rfl (Nat.le_of_ble_eq_true rfl) (kf_8_0 h0).2 (ok162 (a0 + 1) v2 (kf_8_0 h0).2 _ _ e6) (sk3 := []) rfl rfl ?_
      refine sx_pick (lo2 := [(0, .ref a0), (1, .int v1), (2, .int v2)]) [0, 1, 2] rfl ?_
      exact c179_34_ok a0 h0 kl10 hk10 v1 v2 _ _ h
def l179_10 (a0 : Nat) : Nat → Int32 × Int32 × Mem → Option (Mem) :=
  fixN (fun self x => b179_10 a0 (fun v1 v2 μ => self (v1, v2, μ)) (x.1) (x.2.1) (x.2.2))
theorem l179_10_ok {L : Nat} (a0 : Nat) (h0 : SK0 a0 = (0, 8)) (n : Nat) (v1 : Int32) (v2 : Int32) (μ : Mem) (res : Mem) (h : l179_10 a0 n (v1, v2, μ) = some res) : Sx 179 10 [(0, .ref a0), (1, .int v1), (2, .int v2)] [] 0 0 (mk L μ) (mk L res, none) := by
  have key := fixN_ind (P := fun x res => Sx 179 10 [(0, .ref a0), (1, .int (x.1)), (2, .int (x.2.1))] [] 0 0 (mk L (x.2.2)) (mk L res, none)) (F := fun self x => b179_10 a0 (fun v1 v2 μ => self (v1, v2, μ)) (x.1) (x.2.1) (x.2.2)) (fun self hself x res h => b179_10_ok a0 h0 (fun v1 v2 μ => self (v1, v2, μ)) (fun v1 v2 μ res hh => hself (v1, v2, μ) res hh) (x.1) (x.2.1) (x.2.2) res h) n (v1, v2, μ) res h
  exact key
/-- Store.dropUpTo(I)V -/
def f179 (a0 : Nat) (p1 : Int32) (μ : Mem) : Option (Mem) :=
  nm ((μ.1 (a0 + 1) 5) - (1 : Int32)) fun x1 =>
  l179_10 a0 gF (p1, x1, μ)
theorem ok179 {L : Nat} (a0 : Nat) (p1 : Int32) (h0 : SK0 a0 = (0, 8)) (μ : Mem) (res : Mem) (h : f179 a0 p1 μ = some res) : Mx 179 [.ref a0, .int p1] (mk L μ) (mk L res, none) := by
  refine Mx_of ml_179 (by rw [mx_179]; exact Nat.le_of_ble_eq_true rfl) ?_
  show Sx 179 0 [(0, .ref a0), (1, .int p1)] [] 0 0 (mk L μ) _
  unfold f179 at h
  refine sx_aload_n (i := 0) k179_0 rfl rfl ?_
  refine cx_getR (k := 0) k179_1 ow_179 fl_9_14 (by decide) h0 ft_8_0 (kf_8_0 h0).1 ?_
  refine cx_getI (k := 5) k179_4 ow_179 fl_9_43 (by decide) (kf_8_0 h0).2 ft_7_5 ?_
  refine sx_iconst (v := 1) k179_7 (by decide) ?_
  refine sx_isub k179_8 ?_
  refine cx_nm h (fun x1 h => ?_)
  refine cx_istore_n (lo2 := [(2, .int x1), (0, .ref a0), (1, .int p1)]) k179_9 rfl (by rw [mx_179]; decide) rfl ?_
  refine sx_pick (lo2 := [(0, .ref a0), (1, .int p1), (2, .int x1)]) [1, 2, 0] rfl ?_
  exact l179_10_ok a0 h0 gF p1 x1 _ _ h
theorem k174_0 : decode (gb 174) 0 = .ok (.aload_n 0, 1) := by decide +kernel
theorem k174_1 : decode (gb 174) 1 = .ok (.getfield 14, 3) := by decide +kernel
theorem k174_4 : decode (gb 174) 4 = .ok (.invokevirtual 22, 3) := by decide +kernel
theorem k174_7 : decode (gb 174) 7 = .ok (.aload_n 0, 1) := by decide +kernel
theorem k174_8 : decode (gb 174) 8 = .ok (.iload_n 1, 1) := by decide +kernel
theorem k174_9 : decode (gb 174) 9 = .ok (.putfield 25, 3) := by decide +kernel
theorem k174_12 : decode (gb 174) 12 = .ok (.aload_n 0, 1) := by decide +kernel
theorem k174_13 : decode (gb 174) 13 = .ok (.iconst 0, 1) := by decide +kernel
theorem k174_14 : decode (gb 174) 14 = .ok (.putfield 29, 3) := by decide +kernel
theorem k174_17 : decode (gb 174) 17 = .ok (.aload_n 0, 1) := by decide +kernel
theorem k174_18 : decode (gb 174) 18 = .ok (.iconst 0, 1) := by decide +kernel
theorem k174_19 : decode (gb 174) 19 = .ok (.putfield 33, 3) := by decide +kernel
theorem k174_22 : decode (gb 174) 22 = .ok (.aload_n 0, 1) := by decide +kernel
theorem k174_23 : decode (gb 174) 23 = .ok (.iconst 0, 1) := by decide +kernel
theorem k174_24 : decode (gb 174) 24 = .ok (.putfield 36, 3) := by decide +kernel
theorem k174_27 : decode (gb 174) 27 = .ok (.return_, 1) := by decide +kernel
/-- Store.reset(I)V -/
def f174 (a0 : Nat) (p1 : Int32) (μ : Mem) : Option (Mem) :=
  (f163 (a0 + 1) μ).bind fun r1 =>
  (pfI a0 3 p1 r1).bind fun m3 =>
  (pfZ a0 4 (0 : Int32) m3).bind fun m5 =>
  (pfI a0 2 (0 : Int32) m5).bind fun m7 =>
  (pfI a0 5 (0 : Int32) m7).bind fun m9 =>
  some m9
theorem ok174 {L : Nat} (a0 : Nat) (p1 : Int32) (h0 : SK0 a0 = (0, 8)) (μ : Mem) (res : Mem) (h : f174 a0 p1 μ = some res) : Mx 174 [.ref a0, .int p1] (mk L μ) (mk L res, none) := by
  refine Mx_of ml_174 (by rw [mx_174]; exact Nat.le_of_ble_eq_true rfl) ?_
  show Sx 174 0 [(0, .ref a0), (1, .int p1)] [] 0 0 (mk L μ) _
  unfold f174 at h
  refine sx_aload_n (i := 0) k174_0 rfl rfl ?_
  refine cx_getR (k := 0) k174_1 ow_174 fl_9_14 (by decide) h0 ft_8_0 (kf_8_0 h0).1 ?_
  obtain ⟨r1, e2, h⟩ := Option.bind_eq_some_iff.mp h
  refine cx_V (sk := []) (vs := []) st_174_163 k174_4 ow_174 cl_9_22 (by decide) rfl (Nat.le_of_ble_eq_true rfl) (kf_8_0 h0).2 (ok163 (a0 + 1) (kf_8_0 h0).2 _ _ e2) (sk3 := []) rfl rfl ?_
  refine sx_aload_n (i := 0) k174_7 rfl rfl ?_
  refine sx_iload_n (i := 1) k174_8 rfl rfl ?_
  obtain ⟨m3, e4, h⟩ := Option.bind_eq_some_iff.mp h
  refine cx_putI (k := 3) k174_9 ow_174 fl_9_25 (by decide) h0 nf_8_3 fu_8_3 e4 ?_
  refine sx_aload_n (i := 0) k174_12 rfl rfl ?_
  refine sx_iconst (v := 0) k174_13 (by decide) ?_
  obtain ⟨m5, e6, h⟩ := Option.bind_eq_some_iff.mp h
  refine cx_putZ (k := 4) k174_14 ow_174 fl_9_29 (by decide) h0 nf_8_4 fu_8_4 e6 ?_
  refine sx_aload_n (i := 0) k174_17 rfl rfl ?_
  refine sx_iconst (v := 0) k174_18 (by decide) ?_
  obtain ⟨m7, e8, h⟩ := Option.bind_eq_some_iff.mp h
  refine cx_putI (k := 2) k174_19 ow_174 fl_9_33 (by decide) h0 nf_8_2 fu_8_2 e8 ?_
  refine sx_aload_n (i := 0) k174_22 rfl rfl ?_
  refine sx_iconst (v := 0) k174_23 (by decide) ?_
  obtain ⟨m9, e10, h⟩ := Option.bind_eq_some_iff.mp h
  refine cx_putI (k := 5) k174_24 ow_174 fl_9_36 (by decide) h0 nf_8_5 fu_8_5 e10 ?_
  exact cx_retv k174_27 rt_174 h
