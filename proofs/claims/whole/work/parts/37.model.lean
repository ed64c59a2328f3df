theorem k326_0 : decode (gb 326) 0 = .ok (.iload_n 1, 1) := by decide +kernel
theorem k326_1 : decode (gb 326) 1 = .ok (.iconst 3, 1) := by decide +kernel
theorem k326_2 : decode (gb 326) 2 = .ok (.if_icmp .ne 46, 3) := by decide +kernel
theorem k326_5 : decode (gb 326) 5 = .ok (.iconst 0, 1) := by decide +kernel
theorem k326_6 : decode (gb 326) 6 = .ok (.istore_n 3, 1) := by decide +kernel
theorem k326_7 : decode (gb 326) 7 = .ok (.iload_n 3, 1) := by decide +kernel
theorem k326_8 : decode (gb 326) 8 = .ok (.iload_n 2, 1) := by decide +kernel
theorem k326_9 : decode (gb 326) 9 = .ok (.if_icmp .ge 38, 3) := by decide +kernel
theorem k326_12 : decode (gb 326) 12 = .ok (.aload_n 0, 1) := by decide +kernel
theorem k326_13 : decode (gb 326) 13 = .ok (.getfield 126, 3) := by decide +kernel
theorem k326_16 : decode (gb 326) 16 = .ok (.aload_n 0, 1) := by decide +kernel
theorem k326_17 : decode (gb 326) 17 = .ok (.getfield 513, 3) := by decide +kernel
theorem k326_20 : decode (gb 326) 20 = .ok (.bipush 12, 2) := by decide +kernel
theorem k326_22 : decode (gb 326) 22 = .ok (.iconst 5, 1) := by decide +kernel
theorem k326_23 : decode (gb 326) 23 = .ok (.iload_n 3, 1) := by decide +kernel
theorem k326_24 : decode (gb 326) 24 = .ok (.imul, 1) := by decide +kernel
theorem k326_25 : decode (gb 326) 25 = .ok (.iadd, 1) := by decide +kernel
theorem k326_26 : decode (gb 326) 26 = .ok (.iaload, 1) := by decide +kernel
theorem k326_27 : decode (gb 326) 27 = .ok (.aload_n 0, 1) := by decide +kernel
theorem k326_28 : decode (gb 326) 28 = .ok (.getfield 513, 3) := by decide +kernel
theorem k326_31 : decode (gb 326) 31 = .ok (.bipush 13, 2) := by decide +kernel
theorem k326_33 : decode (gb 326) 33 = .ok (.iconst 5, 1) := by decide +kernel
theorem k326_34 : decode (gb 326) 34 = .ok (.iload_n 3, 1) := by decide +kernel
theorem k326_35 : decode (gb 326) 35 = .ok (.imul, 1) := by decide +kernel
theorem k326_36 : decode (gb 326) 36 = .ok (.iadd, 1) := by decide +kernel
theorem k326_37 : decode (gb 326) 37 = .ok (.invokestatic 545, 3) := by decide +kernel
theorem k326_40 : decode (gb 326) 40 = .ok (.iastore, 1) := by decide +kernel
theorem k326_41 : decode (gb 326) 41 = .ok (.iinc 3 1, 3) := by decide +kernel
theorem k326_44 : decode (gb 326) 44 = .ok (.goto (-37), 3) := by decide +kernel
theorem k326_47 : decode (gb 326) 47 = .ok (.return_, 1) := by decide +kernel
theorem k326_48 : decode (gb 326) 48 = .ok (.aload_n 0, 1) := by decide +kernel
theorem k326_49 : decode (gb 326) 49 = .ok (.iload_n 2, 1) := by decide +kernel
theorem k326_50 : decode (gb 326) 50 = .ok (.iconst 1, 1) := by decide +kernel
theorem k326_51 : decode (gb 326) 51 = .ok (.invokevirtual 501, 3) := by decide +kernel
theorem k326_54 : decode (gb 326) 54 = .ok (.iconst 0, 1) := by decide +kernel
theorem k326_55 : decode (gb 326) 55 = .ok (.istore_n 3, 1) := by decide +kernel
theorem k326_56 : decode (gb 326) 56 = .ok (.iload_n 3, 1) := by decide +kernel
theorem k326_57 : decode (gb 326) 57 = .ok (.iload_n 2, 1) := by decide +kernel
theorem k326_58 : decode (gb 326) 58 = .ok (.if_icmp .ge 41, 3) := by decide +kernel
theorem k326_61 : decode (gb 326) 61 = .ok (.aload_n 0, 1) := by decide +kernel
theorem k326_62 : decode (gb 326) 62 = .ok (.aload_n 0, 1) := by decide +kernel
theorem k326_63 : decode (gb 326) 63 = .ok (.getfield 513, 3) := by decide +kernel
theorem k326_66 : decode (gb 326) 66 = .ok (.bipush 12, 2) := by decide +kernel
theorem k326_68 : decode (gb 326) 68 = .ok (.iload_n 3, 1) := by decide +kernel
theorem k326_69 : decode (gb 326) 69 = .ok (.iadd, 1) := by decide +kernel
theorem k326_70 : decode (gb 326) 70 = .ok (.iaload, 1) := by decide +kernel
theorem k326_71 : decode (gb 326) 71 = .ok (.iconst 1, 1) := by decide +kernel
theorem k326_72 : decode (gb 326) 72 = .ok (.invokevirtual 501, 3) := by decide +kernel
theorem k326_75 : decode (gb 326) 75 = .ok (.aload_n 0, 1) := by decide +kernel
theorem k326_76 : decode (gb 326) 76 = .ok (.aload_n 0, 1) := by decide +kernel
theorem k326_77 : decode (gb 326) 77 = .ok (.aload_n 0, 1) := by decide +kernel
theorem k326_78 : decode (gb 326) 78 = .ok (.getfield 513, 3) := by decide +kernel
theorem k326_81 : decode (gb 326) 81 = .ok (.bipush 12, 2) := by decide +kernel
theorem k326_83 : decode (gb 326) 83 = .ok (.iload_n 3, 1) := by decide +kernel
theorem k326_84 : decode (gb 326) 84 = .ok (.iadd, 1) := by decide +kernel
theorem k326_85 : decode (gb 326) 85 = .ok (.iaload, 1) := by decide +kernel
theorem k326_86 : decode (gb 326) 86 = .ok (.invokevirtual 589, 3) := by decide +kernel
theorem k326_89 : decode (gb 326) 89 = .ok (.iconst 4, 1) := by decide +kernel
theorem k326_90 : decode (gb 326) 90 = .ok (.invokevirtual 501, 3) := by decide +kernel
theorem k326_93 : decode (gb 326) 93 = .ok (.iinc 3 1, 3) := by decide +kernel
theorem k326_96 : decode (gb 326) 96 = .ok (.goto (-40), 3) := by decide +kernel
theorem k326_99 : decode (gb 326) 99 = .ok (.aload_n 0, 1) := by decide +kernel
theorem k326_100 : decode (gb 326) 100 = .ok (.bipush 20, 2) := by decide +kernel
theorem k326_102 : decode (gb 326) 102 = .ok (.iconst 2, 1) := by decide +kernel
theorem k326_103 : decode (gb 326) 103 = .ok (.invokevirtual 504, 3) := by decide +kernel
theorem k326_106 : decode (gb 326) 106 = .ok (.return_, 1) := by decide +kernel
def b326_7 (kl7 : Int32 → Int32 → Mem → Option (Mem)) (v2 : Int32) (v3 : Int32) (μ : Mem) : Option (Mem) :=
  if v2 ≤ v3 then
    some μ
  else
    (ldA 182 ((12 : Int32) + ((5 : Int32) * v3)) μ).bind fun x2 =>
    (f314 182 ((13 : Int32) + ((5 : Int32) * v3)) μ).bind fun r4 =>
    (stA 162 x2 r4.2 r4.1).bind fun m6 =>
    nm (v3 + (1 : Int32)) fun x8 =>
    kl7 v2 x8 m6
theorem b326_7_ok {L : Nat} (kl7 : Int32 → Int32 → Mem → Option (Mem)) (hk7 : (∀ (v2 : Int32) (v3 : Int32) (μ : Mem) (res : Mem), kl7 v2 v3 μ = some res → Sx 326 7 [(0, .ref 129), (2, .int v2), (3, .int v3)] [] 0 0 (mk L μ) (mk L res, none))) (v2 : Int32) (v3 : Int32) (μ : Mem) (res : Mem) (h : b326_7 kl7 v2 v3 μ = some res) : Sx 326 7 [(0, .ref 129), (2, .int v2), (3, .int v3)] [] 0 0 (mk L μ) (mk L res, none) := by
  unfold b326_7 at h
  refine sx_iload_n (i := 3) k326_7 rfl rfl ?_
  refine sx_iload_n (i := 2) k326_8 rfl rfl ?_
  by_cases hb1 : v2 ≤ v3
  · rw [if_pos hb1] at h
    refine sx_icmp_ge (tgt := 47) k326_9 (by decide) (fun _ => ?_) (fun q => absurd hb1 q)
    exact cx_retv k326_47 rt_326 h
  · rw [if_neg hb1] at h
    refine sx_icmp_ge (tgt := 47) k326_9 (by decide) (fun q => absurd q hb1) (fun _ => ?_)
    refine sx_aload_n (i := 0) k326_12 rfl rfl ?_
    refine cx_getR (k := 78) k326_13 ow_326 fl_12_126 (by decide) sk_129 ft_11_78 sr_129_78 ?_
    refine sx_aload_n (i := 0) k326_16 rfl rfl ?_
    refine cx_getR (k := 105) k326_17 ow_326 fl_12_513 (by decide) sk_129 ft_11_105 sr_129_105 ?_
    refine sx_bipush (v := 12) k326_20 (by decide) ?_
    refine sx_iconst (v := 5) k326_22 (by decide) ?_
    refine sx_iload_n (i := 3) k326_23 rfl rfl ?_
    refine sx_imul k326_24 ?_
    refine sx_iadd k326_25 ?_
    obtain ⟨x2, e3, h⟩ := Option.bind_eq_some_iff.mp h
    refine cx_iald k326_26 sk_182 e3 ?_
    refine sx_aload_n (i := 0) k326_27 rfl rfl ?_
    refine cx_getR (k := 105) k326_28 ow_326 fl_12_513 (by decide) sk_129 ft_11_105 sr_129_105 ?_
    refine sx_bipush (v := 13) k326_31 (by decide) ?_
    refine sx_iconst (v := 5) k326_33 (by decide) ?_
    refine sx_iload_n (i := 3) k326_34 rfl rfl ?_
    refine sx_imul k326_35 ?_
    refine sx_iadd k326_36 ?_
    obtain ⟨r4, e5, h⟩ := Option.bind_eq_some_iff.mp h
    refine cx_S (sk := [.int x2, .ref 162]) (vs := [.ref 182, .int ((13 : Int32) + ((5 : Int32) * v3))]) st_326_314 k326_37 ow_326 cl_12_545 (by decide) rfl (Nat.le_of_ble_eq_true rfl) (ok314 182 ((13 : Int32) + ((5 : Int32) * v3)) sk_182 _ _ e5) (sk3 := [.int r4.2, .int x2, .ref 162]) rfl rfl ?_
    obtain ⟨m6, e7, h⟩ := Option.bind_eq_some_iff.mp h
    refine cx_iast k326_40 sk_162 e7 ?_
    refine cx_iinc (c := 1) (lo2 := fun x8 => [(3, .int x8), (0, .ref 129), (2, .int v2)]) k326_41 rfl (by decide) (by rw [mx_326]; decide) (fun _ => rfl) h (fun x8 h => ?_)
    refine sx_goto (tgt := 7) k326_44 (by decide) ?_
    refine sx_pick (lo2 := [(0, .ref 129), (2, .int v2), (3, .int x8)]) [1, 2, 0] rfl ?_
    exact hk7 v2 x8 _ _ h
def l326_7 : Nat → Int32 × Int32 × Mem → Option (Mem) :=
  fixN (fun self x => b326_7 (fun v2 v3 μ => self (v2, v3, μ)) (x.1) (x.2.1) (x.2.2))
theorem l326_7_ok {L : Nat} (n : Nat) (v2 : Int32) (v3 : Int32) (μ : Mem) (res : Mem) (h : l326_7 n (v2, v3, μ) = some res) : Sx 326 7 [(0, .ref 129), (2, .int v2), (3, .int v3)] [] 0 0 (mk L μ) (mk L res, none) := by
  have key := fixN_ind (P := fun x res => Sx 326 7 [(0, .ref 129), (2, .int (x.1)), (3, .int (x.2.1))] [] 0 0 (mk L (x.2.2)) (mk L res, none)) (F := fun self x => b326_7 (fun v2 v3 μ => self (v2, v3, μ)) (x.1) (x.2.1) (x.2.2)) (fun self hself x res h => b326_7_ok (fun v2 v3 μ => self (v2, v3, μ)) (fun v2 v3 μ res hh => hself (v2, v3, μ) res hh) (x.1) (x.2.1) (x.2.2) res h) n (v2, v3, μ) res h
  exact key
def b326_56 (kl56 : Int32 → Int32 → Mem → Option (Mem)) (v2 : Int32) (v3 : Int32) (μ : Mem) : Option (Mem) :=
  if v2 ≤ v3 then
    (f305 (20 : Int32) (2 : Int32) μ).bind fun r2 =>
    some r2
  else
    (ldA 182 ((12 : Int32) + v3) μ).bind fun x4 =>
    (f303 x4 (1 : Int32) μ).bind fun r6 =>
    (ldA 182 ((12 : Int32) + v3) r6).bind fun x8 =>
    (f304 x8 r6).bind fun r10 =>
    (f303 r10.2 (4 : Int32) r10.1).bind fun r12 =>
    nm (v3 + (1 : Int32)) fun x14 =>
    kl56 v2 x14 r12
theorem b326_56_ok {L : Nat} (kl56 : Int32 → Int32 → Mem → Option (Mem)) (hk56 : (∀ (v2 : Int32) (v3 : Int32) (μ : Mem) (res : Mem), kl56 v2 v3 μ = some res → Sx 326 56 [(0, .ref 129), (2, .int v2), (3, .int v3)] [] 0 0 (mk L μ) (mk L res, none))) (v2 : Int32) (v3 : Int32) (μ : Mem) (res : Mem) (h : b326_56 kl56 v2 v3 μ = some res) : Sx 326 56 [(0, .ref 129), (2, .int v2), (3, .int v3)] [] 0 0 (mk L μ) (mk L res, none) := by
  unfold b326_56 at h
  refine sx_iload_n (i := 3) k326_56 rfl rfl ?_
  refine sx_iload_n (i := 2) k326_57 rfl rfl ?_
  by_cases hb1 : v2 ≤ v3
  · rw [if_pos hb1] at h
    refine sx_icmp_ge (tgt := 99) k326_58 (by decide) (fun _ => ?_) (fun q => absurd hb1 q)
    refine sx_aload_n (i := 0) k326_99 rfl rfl ?_
    refine sx_bipush (v := 20) k326_100 (by decide) ?_
    refine sx_iconst (v := 2) k326_102 (by decide) ?_
    obtain ⟨r2, e3, h⟩ := Option.bind_eq_some_iff.mp h
    refine cx_V (sk := []) (vs := [.int (20 : Int32), .int (2 : Int32)]) st_326_305 k326_103 ow_326 cl_12_504 (by decide) rfl (Nat.le_of_ble_eq_true rfl) sk_129 (ok305 (20 : Int32) (2 : Int32) _ _ e3) (sk3 := []) rfl rfl ?_
    exact cx_retv k326_106 rt_326 h
  · rw [if_neg hb1] at h
    refine sx_icmp_ge (tgt := 99) k326_58 (by decide) (fun q => absurd q hb1) (fun _ => ?_)
    refine sx_aload_n (i := 0) k326_61 rfl rfl ?_
    refine sx_aload_n (i := 0) k326_62 rfl rfl ?_
    refine cx_getR (k := 105) k326_63 ow_326 fl_12_513 (by decide) sk_129 ft_11_105 sr_129_105 ?_
    refine sx_bipush (v := 12) k326_66 (by decide) ?_
    refine sx_iload_n (i := 3) k326_68 rfl rfl ?_
    refine sx_iadd k326_69 ?_
    obtain ⟨x4, e5, h⟩ := Option.bind_eq_some_iff.mp h
    refine cx_iald k326_70 sk_182 e5 ?_
    refine sx_iconst (v := 1) k326_71 (by decide) ?_
    obtain ⟨r6, e7, h⟩ := Option.bind_eq_some_iff.mp h
    refine cx_V (sk := []) (vs := [.int x4, .int (1 : Int32)]) st_326_303 k326_72 ow_326 cl_12_501 (by decide) rfl (Nat.le_of_ble_eq_true rfl) sk_129 (ok303 x4 (1 : Int32) _ _ e7) (sk3 := []) rfl rfl ?_
    refine sx_aload_n (i := 0) k326_75 rfl rfl ?_
    refine sx_aload_n (i := 0) k326_76 rfl rfl ?_
    refine sx_aload_n (i := 0) k326_77 rfl rfl ?_
    refine cx_getR (k := 105) k326_78 ow_326 fl_12_513 (by decide) sk_129 ft_11_105 sr_129_105 ?_
    refine sx_bipush (v := 12) k326_81 (by decide) ?_
    refine sx_iload_n (i := 3) k326_83 rfl rfl ?_
    refine sx_iadd k326_84 ?_
    obtain ⟨x8, e9, h⟩ := Option.bind_eq_some_iff.mp h
    refine cx_iald k326_85 sk_182 e9 ?_
    obtain ⟨r10, e11, h⟩ := Option.bind_eq_some_iff.mp h
    refine cx_V (sk := [.ref 129]) (vs := [.int x8]) st_326_304 k326_86 ow_326 cl_12_589 (by decide) rfl (Nat.le_of_ble_eq_true rfl) sk_129 (ok304 x8 _ _ e11) (sk3 := [.int r10.2, .ref 129]) rfl rfl ?_
    refine sx_iconst (v := 4) k326_89 (by decide) ?_
    obtain ⟨r12, e13, h⟩ := Option.bind_eq_some_iff.mp h
    refine cx_V (sk := []) (vs := [.int r10.2, .int (4 : Int32)]) st_326_303 k326_90 ow_326 cl_12_501 (by decide) rfl (Nat.le_of_ble_eq_true rfl) sk_129 (ok303 r10.2 (4 : Int32) _ _ e13) (sk3 := []) rfl rfl ?_
    refine cx_iinc (c := 1) (lo2 := fun x14 => [(3, .int x14), (0, .ref 129), (2, .int v2)]) k326_93 rfl (by decide) (by rw [mx_326]; decide) (fun _ => rfl) h (fun x14 h => ?_)
    refine sx_goto (tgt := 56) k326_96 (by decide) ?_
    refine sx_pick (lo2 := [(0, .ref 129), (2, .int v2), (3, .int x14)]) [1, 2, 0] rfl ?_
    exact hk56 v2 x14 _ _ h
def l326_56 : Nat → Int32 × Int32 × Mem → Option (Mem) :=
  fixN (fun self x => b326_56 (fun v2 v3 μ => self (v2, v3, μ)) (x.1) (x.2.1) (x.2.2))
theorem l326_56_ok {L : Nat} (n : Nat) (v2 : Int32) (v3 : Int32) (μ : Mem) (res : Mem) (h : l326_56 n (v2, v3, μ) = some res) : Sx 326 56 [(0, .ref 129), (2, .int v2), (3, .int v3)] [] 0 0 (mk L μ) (mk L res, none) := by
  have key := fixN_ind (P := fun x res => Sx 326 56 [(0, .ref 129), (2, .int (x.1)), (3, .int (x.2.1))] [] 0 0 (mk L (x.2.2)) (mk L res, none)) (F := fun self x => b326_56 (fun v2 v3 μ => self (v2, v3, μ)) (x.1) (x.2.1) (x.2.2)) (fun self hself x res h => b326_56_ok (fun v2 v3 μ => self (v2, v3, μ)) (fun v2 v3 μ res hh => hself (v2, v3, μ) res hh) (x.1) (x.2.1) (x.2.2) res h) n (v2, v3, μ) res h
  exact key
/-- CraftHouseModel.doesValues(II)V -/
def f326 (p1 : Int32) (p2 : Int32) (μ : Mem) : Option (Mem) :=
  if p1 = (3 : Int32) then
    l326_7 gF (p2, (0 : Int32), μ)
  else
    (f303 p2 (1 : Int32) μ).bind fun r2 =>
    l326_56 gF (p2, (0 : Int32), r2)
theorem ok326 {L : Nat} (p1 : Int32) (p2 : Int32) (μ : Mem) (res : Mem) (h : f326 p1 p2 μ = some res) : Mx 326 [.ref 129, .int p1, .int p2] (mk L μ) (mk L res, none) := by
  refine Mx_of ml_326 (by rw [mx_326]; exact Nat.le_of_ble_eq_true rfl) ?_
  show Sx 326 0 [(0, .ref 129), (1, .int p1), (2, .int p2)] [] 0 0 (mk L μ) _
  unfold f326 at h
  refine sx_iload_n (i := 1) k326_0 rfl rfl ?_
  refine sx_iconst (v := 3) k326_1 (by decide) ?_
  by_cases hb1 : p1 = (3 : Int32)
  · rw [if_pos hb1] at h
    refine sx_icmp_ne (tgt := 48) k326_2 (by decide) (fun q => absurd hb1 q) (fun _ => ?_)
    refine sx_iconst (v := 0) k326_5 (by decide) ?_
    refine cx_istore_n (lo2 := [(3, .int (0 : Int32)), (0, .ref 129), (1, .int p1), (2, .int p2)]) k326_6 rfl (by rw [mx_326]; decide) rfl ?_
    refine sx_pick (lo2 := [(0, .ref 129), (2, .int p2), (3, .int (0 : Int32))]) [1, 3, 0] rfl ?_
    exact l326_7_ok gF p2 (0 : Int32) _ _ h
  · rw [if_neg hb1] at h
    refine sx_icmp_ne (tgt := 48) k326_2 (by decide) (fun _ => ?_) (fun q => absurd q hb1)
    refine sx_aload_n (i := 0) k326_48 rfl rfl ?_
    refine sx_iload_n (i := 2) k326_49 rfl rfl ?_
    refine sx_iconst (v := 1) k326_50 (by decide) ?_
    obtain ⟨r2, e3, h⟩ := Option.bind_eq_some_iff.mp h
    refine cx_V (sk := []) (vs := [.int p2, .int (1 : Int32)]) st_326_303 k326_51 ow_326 cl_12_501 (by decide) rfl (Nat.le_of_ble_eq_true rfl) sk_129 (ok303 p2 (1 : Int32) _ _ e3) (sk3 := []) rfl rfl ?_
    refine sx_iconst (v := 0) k326_54 (by decide) ?_
    refine cx_istore_n (lo2 := [(3, .int (0 : Int32)), (0, .ref 129), (1, .int p1), (2, .int p2)]) k326_55 rfl (by rw [mx_326]; decide) rfl ?_
    refine sx_pick (lo2 := [(0, .ref 129), (2, .int p2), (3, .int (0 : Int32))]) [1, 3, 0] rfl ?_
    exact l326_56_ok gF p2 (0 : Int32) _ _ h
theorem k327_0 : decode (gb 327) 0 = .ok (.aload_n 0, 1) := by decide +kernel
theorem k327_1 : decode (gb 327) 1 = .ok (.aload_n 0, 1) := by decide +kernel
theorem k327_2 : decode (gb 327) 2 = .ok (.getfield 513, 3) := by decide +kernel
theorem k327_5 : decode (gb 327) 5 = .ok (.bipush 11, 2) := by decide +kernel
theorem k327_7 : decode (gb 327) 7 = .ok (.invokevirtual 472, 3) := by decide +kernel
theorem k327_10 : decode (gb 327) 10 = .ok (.istore_n 2, 1) := by decide +kernel
theorem k327_11 : decode (gb 327) 11 = .ok (.iload_n 1, 1) := by decide +kernel
theorem k327_12 : decode (gb 327) 12 = .ok (.iconst 2, 1) := by decide +kernel
theorem k327_13 : decode (gb 327) 13 = .ok (.if_icmp .ne 40, 3) := by decide +kernel
theorem k327_16 : decode (gb 327) 16 = .ok (.iconst 0, 1) := by decide +kernel
theorem k327_17 : decode (gb 327) 17 = .ok (.istore_n 3, 1) := by decide +kernel
theorem k327_18 : decode (gb 327) 18 = .ok (.iload_n 3, 1) := by decide +kernel
theorem k327_19 : decode (gb 327) 19 = .ok (.aload_n 0, 1) := by decide +kernel
theorem k327_20 : decode (gb 327) 20 = .ok (.getfield 513, 3) := by decide +kernel
theorem k327_23 : decode (gb 327) 23 = .ok (.bipush 13, 2) := by decide +kernel
theorem k327_25 : decode (gb 327) 25 = .ok (.iaload, 1) := by decide +kernel
theorem k327_26 : decode (gb 327) 26 = .ok (.if_icmp .ge 26, 3) := by decide +kernel
theorem k327_29 : decode (gb 327) 29 = .ok (.aload_n 0, 1) := by decide +kernel
theorem k327_30 : decode (gb 327) 30 = .ok (.getfield 592, 3) := by decide +kernel
theorem k327_33 : decode (gb 327) 33 = .ok (.iload_n 2, 1) := by decide +kernel
theorem k327_34 : decode (gb 327) 34 = .ok (.iload_n 3, 1) := by decide +kernel
theorem k327_35 : decode (gb 327) 35 = .ok (.iadd, 1) := by decide +kernel
theorem k327_36 : decode (gb 327) 36 = .ok (.aload_n 0, 1) := by decide +kernel
theorem k327_37 : decode (gb 327) 37 = .ok (.getfield 513, 3) := by decide +kernel
theorem k327_40 : decode (gb 327) 40 = .ok (.bipush 14, 2) := by decide +kernel
theorem k327_42 : decode (gb 327) 42 = .ok (.iload_n 3, 1) := by decide +kernel
theorem k327_43 : decode (gb 327) 43 = .ok (.iadd, 1) := by decide +kernel
theorem k327_44 : decode (gb 327) 44 = .ok (.iaload, 1) := by decide +kernel
theorem k327_45 : decode (gb 327) 45 = .ok (.iastore, 1) := by decide +kernel
theorem k327_46 : decode (gb 327) 46 = .ok (.iinc 3 1, 3) := by decide +kernel
theorem k327_49 : decode (gb 327) 49 = .ok (.goto (-31), 3) := by decide +kernel
theorem k327_52 : decode (gb 327) 52 = .ok (.return_, 1) := by decide +kernel
theorem k327_53 : decode (gb 327) 53 = .ok (.aload_n 0, 1) := by decide +kernel
theorem k327_54 : decode (gb 327) 54 = .ok (.iload_n 2, 1) := by decide +kernel
theorem k327_55 : decode (gb 327) 55 = .ok (.iconst 2, 1) := by decide +kernel
theorem k327_56 : decode (gb 327) 56 = .ok (.invokevirtual 501, 3) := by decide +kernel
theorem k327_59 : decode (gb 327) 59 = .ok (.iload_n 1, 1) := by decide +kernel
theorem k327_60 : decode (gb 327) 60 = .ok (.iconst 5, 1) := by decide +kernel
theorem k327_61 : decode (gb 327) 61 = .ok (.if_icmp .ne 58, 3) := by decide +kernel
theorem k327_64 : decode (gb 327) 64 = .ok (.aload_n 0, 1) := by decide +kernel
theorem k327_65 : decode (gb 327) 65 = .ok (.aload_n 0, 1) := by decide +kernel
theorem k327_66 : decode (gb 327) 66 = .ok (.getfield 513, 3) := by decide +kernel
theorem k327_69 : decode (gb 327) 69 = .ok (.bipush 13, 2) := by decide +kernel
theorem k327_71 : decode (gb 327) 71 = .ok (.iaload, 1) := by decide +kernel
theorem k327_72 : decode (gb 327) 72 = .ok (.iconst 1, 1) := by decide +kernel
theorem k327_73 : decode (gb 327) 73 = .ok (.invokevirtual 501, 3) := by decide +kernel
theorem k327_76 : decode (gb 327) 76 = .ok (.iconst 0, 1) := by decide +kernel
theorem k327_77 : decode (gb 327) 77 = .ok (.istore_n 3, 1) := by decide +kernel
theorem k327_78 : decode (gb 327) 78 = .ok (.iload_n 3, 1) := by decide +kernel
theorem k327_79 : decode (gb 327) 79 = .ok (.aload_n 0, 1) := by decide +kernel
theorem k327_80 : decode (gb 327) 80 = .ok (.getfield 513, 3) := by decide +kernel
theorem k327_83 : decode (gb 327) 83 = .ok (.bipush 13, 2) := by decide +kernel
theorem k327_85 : decode (gb 327) 85 = .ok (.iaload, 1) := by decide +kernel
theorem k327_86 : decode (gb 327) 86 = .ok (.if_icmp .ge 22, 3) := by decide +kernel
theorem k327_89 : decode (gb 327) 89 = .ok (.aload_n 0, 1) := by decide +kernel
theorem k327_90 : decode (gb 327) 90 = .ok (.aload_n 0, 1) := by decide +kernel
theorem k327_91 : decode (gb 327) 91 = .ok (.getfield 592, 3) := by decide +kernel
theorem k327_94 : decode (gb 327) 94 = .ok (.iload_n 2, 1) := by decide +kernel
theorem k327_95 : decode (gb 327) 95 = .ok (.iload_n 3, 1) := by decide +kernel
theorem k327_96 : decode (gb 327) 96 = .ok (.iadd, 1) := by decide +kernel
theorem k327_97 : decode (gb 327) 97 = .ok (.iaload, 1) := by decide +kernel
theorem k327_98 : decode (gb 327) 98 = .ok (.iconst 1, 1) := by decide +kernel
theorem k327_99 : decode (gb 327) 99 = .ok (.invokevirtual 501, 3) := by decide +kernel
theorem k327_102 : decode (gb 327) 102 = .ok (.iinc 3 1, 3) := by decide +kernel
theorem k327_105 : decode (gb 327) 105 = .ok (.goto (-27), 3) := by decide +kernel
theorem k327_108 : decode (gb 327) 108 = .ok (.aload_n 0, 1) := by decide +kernel
theorem k327_109 : decode (gb 327) 109 = .ok (.bipush 6, 2) := by decide +kernel
theorem k327_111 : decode (gb 327) 111 = .ok (.bipush 6, 2) := by decide +kernel
theorem k327_113 : decode (gb 327) 113 = .ok (.invokevirtual 504, 3) := by decide +kernel
theorem k327_116 : decode (gb 327) 116 = .ok (.goto 49, 3) := by decide +kernel
theorem k327_119 : decode (gb 327) 119 = .ok (.aload_n 0, 1) := by decide +kernel
theorem k327_120 : decode (gb 327) 120 = .ok (.aload_n 0, 1) := by decide +kernel
theorem k327_121 : decode (gb 327) 121 = .ok (.aload_n 0, 1) := by decide +kernel
theorem k327_122 : decode (gb 327) 122 = .ok (.getfield 513, 3) := by decide +kernel
theorem k327_125 : decode (gb 327) 125 = .ok (.bipush 13, 2) := by decide +kernel
theorem k327_127 : decode (gb 327) 127 = .ok (.invokevirtual 472, 3) := by decide +kernel
theorem k327_130 : decode (gb 327) 130 = .ok (.iconst 2, 1) := by decide +kernel
theorem k327_131 : decode (gb 327) 131 = .ok (.invokevirtual 501, 3) := by decide +kernel
theorem k327_134 : decode (gb 327) 134 = .ok (.aload_n 0, 1) := by decide +kernel
theorem k327_135 : decode (gb 327) 135 = .ok (.aload_n 0, 1) := by decide +kernel
theorem k327_136 : decode (gb 327) 136 = .ok (.getfield 592, 3) := by decide +kernel
theorem k327_139 : decode (gb 327) 139 = .ok (.iload_n 2, 1) := by decide +kernel
theorem k327_140 : decode (gb 327) 140 = .ok (.aload_n 0, 1) := by decide +kernel
theorem k327_141 : decode (gb 327) 141 = .ok (.aload_n 0, 1) := by decide +kernel
theorem k327_142 : decode (gb 327) 142 = .ok (.getfield 513, 3) := by decide +kernel
theorem k327_145 : decode (gb 327) 145 = .ok (.bipush 13, 2) := by decide +kernel
theorem k327_147 : decode (gb 327) 147 = .ok (.invokevirtual 472, 3) := by decide +kernel
theorem k327_150 : decode (gb 327) 150 = .ok (.invokestatic 11, 3) := by decide +kernel
theorem k327_153 : decode (gb 327) 153 = .ok (.iconst 2, 1) := by decide +kernel
theorem k327_154 : decode (gb 327) 154 = .ok (.invokevirtual 501, 3) := by decide +kernel
theorem k327_157 : decode (gb 327) 157 = .ok (.aload_n 0, 1) := by decide +kernel
theorem k327_158 : decode (gb 327) 158 = .ok (.bipush 6, 2) := by decide +kernel
theorem k327_160 : decode (gb 327) 160 = .ok (.bipush 10, 2) := by decide +kernel
theorem k327_162 : decode (gb 327) 162 = .ok (.invokevirtual 504, 3) := by decide +kernel
theorem k327_165 : decode (gb 327) 165 = .ok (.return_, 1) := by decide +kernel
def b327_18 (kl18 : Int32 → Int32 → Mem → Option (Mem)) (v2 : Int32) (v3 : Int32) (μ : Mem) : Option (Mem) :=
  (ldA 182 (13 : Int32) μ).bind fun x1 =>
  if x1 ≤ v3 then
    some μ
  else
    (ldA 182 ((14 : Int32) + v3) μ).bind fun x4 =>
    (stA 189 (v2 + v3) x4 μ).bind fun m6 =>
    nm (v3 + (1 : Int32)) fun x8 =>
    kl18 v2 x8 m6
theorem b327_18_ok {L : Nat} (kl18 : Int32 → Int32 → Mem → Option (Mem)) (hk18 : (∀ (v2 : Int32) (v3 : Int32) (μ : Mem) (res : Mem), kl18 v2 v3 μ = some res → Sx 327 18 [(0, .ref 129), (2, .int v2), (3, .int v3)] [] 0 0 (mk L μ) (mk L res, none))) (v2 : Int32) (v3 : Int32) (μ : Mem) (res : Mem) (h : b327_18 kl18 v2 v3 μ = some res) : Sx 327 18 [(0, .ref 129), (2, .int v2), (3, .int v3)] [] 0 0 (mk L μ) (mk L res, none) := by
  unfold b327_18 at h
  refine sx_iload_n (i := 3) k327_18 rfl rfl ?_
  refine sx_aload_n (i := 0) k327_19 rfl rfl ?_
  refine cx_getR (k := 105) k327_20 ow_327 fl_12_513 (by decide) sk_129 ft_11_105 sr_129_105 ?_
  refine sx_bipush (v := 13) k327_23 (by decide) ?_
  obtain ⟨x1, e2, h⟩ := Option.bind_eq_some_iff.mp h
  refine cx_iald k327_25 sk_182 e2 ?_
  by_cases hb3 : x1 ≤ v3
  · rw [if_pos hb3] at h
    refine sx_icmp_ge (tgt := 52) k327_26 (by decide) (fun _ => ?_) (fun q => absurd hb3 q)
    exact cx_retv k327_52 rt_327 h
  · rw [if_neg hb3] at h
    refine sx_icmp_ge (tgt := 52) k327_26 (by decide) (fun q => absurd q hb3) (fun _ => ?_)
    refine sx_aload_n (i := 0) k327_29 rfl rfl ?_
    refine cx_getR (k := 114) k327_30 ow_327 fl_12_592 (by decide) sk_129 ft_11_114 sr_129_114 ?_
    refine sx_iload_n (i := 2) k327_33 rfl rfl ?_
    refine sx_iload_n (i := 3) k327_34 rfl rfl ?_
    refine sx_iadd k327_35 ?_
    refine sx_aload_n (i := 0) k327_36 rfl rfl ?_
    refine cx_getR (k := 105) k327_37 ow_327 fl_12_513 (by decide) sk_129 ft_11_105 sr_129_105 ?_
    refine sx_bipush (v := 14) k327_40 (by decide) ?_
    refine sx_iload_n (i := 3) k327_42 rfl rfl ?_
    refine sx_iadd k327_43 ?_
    obtain ⟨x4, e5, h⟩ := Option.bind_eq_some_iff.mp h
    refine cx_iald k327_44 sk_182 e5 ?_
    obtain ⟨m6, e7, h⟩ := Option.bind_eq_some_iff.mp h
    refine cx_iast k327_45 sk_189 e7 ?_
    refine cx_iinc (c := 1) (lo2 := fun x8 => [(3, .int x8), (0, .ref 129), (2, .int v2)]) k327_46 rfl (by decide) (by rw [mx_327]; decide) (fun _ => rfl) h (fun x8 h => ?_)
    refine sx_goto (tgt := 18) k327_49 (by decide) ?_
    refine sx_pick (lo2 := [(0, .ref 129), (2, .int v2), (3, .int x8)]) [1, 2, 0] rfl ?_
    exact hk18 v2 x8 _ _ h
def l327_18 : Nat → Int32 × Int32 × Mem → Option (Mem) :=
  fixN (fun self x => b327_18 (fun v2 v3 μ => self (v2, v3, μ)) (x.1) (x.2.1) (x.2.2))
theorem l327_18_ok {L : Nat} (n : Nat) (v2 : Int32) (v3 : Int32) (μ : Mem) (res : Mem) (h : l327_18 n (v2, v3, μ) = some res) : Sx 327 18 [(0, .ref 129), (2, .int v2), (3, .int v3)] [] 0 0 (mk L μ) (mk L res, none) := by
  have key := fixN_ind (P := fun x res => Sx 327 18 [(0, .ref 129), (2, .int (x.1)), (3, .int (x.2.1))] [] 0 0 (mk L (x.2.2)) (mk L res, none)) (F := fun self x => b327_18 (fun v2 v3 μ => self (v2, v3, μ)) (x.1) (x.2.1) (x.2.2)) (fun self hself x res h => b327_18_ok (fun v2 v3 μ => self (v2, v3, μ)) (fun v2 v3 μ res hh => hself (v2, v3, μ) res hh) (x.1) (x.2.1) (x.2.2) res h) n (v2, v3, μ) res h
  exact key
def b327_78 (kl78 : Int32 → Int32 → Mem → Option (Mem)) (v2 : Int32) (v3 : Int32) (μ : Mem) : Option (Mem) :=
  (ldA 182 (13 : Int32) μ).bind fun x1 =>
  if x1 ≤ v3 then
    (f305 (6 : Int32) (6 : Int32) μ).bind fun r4 =>
    some r4
  else
    (ldA 189 (v2 + v3) μ).bind fun x6 =>
    (f303 x6 (1 : Int32) μ).bind fun r8 =>
    nm (v3 + (1 : Int32)) fun x10 =>
    kl78 v2 x10 r8
theorem b327_78_ok {L : Nat} (kl78 : Int32 → Int32 → Mem → Option (Mem)) (hk78 : (∀ (v2 : Int32) (v3 : Int32) (μ : Mem) (res : Mem), kl78 v2 v3 μ = some res → Sx 327 78 [(0, .ref 129), (2, .int v2), (3, .int v3)] [] 0 0 (mk L μ) (mk L res, none))) (v2 : Int32) (v3 : Int32) (μ : Mem) (res : Mem) (h : b327_78 kl78 v2 v3 μ = some res) : Sx 327 78 [(0, .ref 129), (2, .int v2), (3, .int v3)] [] 0 0 (mk L μ) (mk L res, none) := by
  unfold b327_78 at h
  refine sx_iload_n (i := 3) k327_78 rfl rfl ?_
  refine sx_aload_n (i := 0) k327_79 rfl rfl ?_
  refine cx_getR (k := 105) k327_80 ow_327 fl_12_513 (by decide) sk_129 ft_11_105 sr_129_105 ?_
  refine sx_bipush (v := 13) k327_83 (by decide) ?_
  obtain ⟨x1, e2, h⟩ := Option.bind_eq_some_iff.mp h
  refine cx_iald k327_85 sk_182 e2 ?_
  by_cases hb3 : x1 ≤ v3
  · rw [if_pos hb3] at h
    refine sx_icmp_ge (tgt := 108) k327_86 (by decide) (fun _ => ?_) (fun q => absurd hb3 q)
    refine sx_aload_n (i := 0) k327_108 rfl rfl ?_
    refine sx_bipush (v := 6) k327_109 (by decide) ?_
    refine sx_bipush (v := 6) k327_111 (by decide) ?_
    obtain ⟨r4, e5, h⟩ := Option.bind_eq_some_iff.mp h
    refine cx_V (sk := []) (vs := [.int (6 : Int32), .int (6 : Int32)]) st_327_305 k327_113 ow_327 cl_12_504 (by decide) rfl (Nat.le_of_ble_eq_true rfl) sk_129 (ok305 (6 : Int32) (6 : Int32) _ _ e5) (sk3 := []) rfl rfl ?_
    refine sx_goto (tgt := 165) k327_116 (by decide) ?_
    exact cx_retv k327_165 rt_327 h
  · rw [if_neg hb3] at h
    refine sx_icmp_ge (tgt := 108) k327_86 (by decide) (fun q => absurd q hb3) (fun _ => ?_)
    refine sx_aload_n (i := 0) k327_89 rfl rfl ?_
    refine sx_aload_n (i := 0) k327_90 rfl rfl ?_
    refine cx_getR (k := 114) k327_91 ow_327 fl_12_592 (by decide) sk_129 ft_11_114 sr_129_114 ?_
    refine sx_iload_n (i := 2) k327_94 rfl rfl ?_
    refine sx_iload_n (i := 3) k327_95 rfl rfl ?_
    refine sx_iadd k327_96 ?_
    obtain ⟨x6, e7, h⟩ := Option.bind_eq_some_iff.mp h
    refine cx_iald k327_97 sk_189 e7 ?_
    refine sx_iconst (v := 1) k327_98 (by decide) ?_
    obtain ⟨r8, e9, h⟩ := Option.bind_eq_some_iff.mp h
    refine cx_V (sk := []) (vs := [.int x6, .int (1 : Int32)]) st_327_303 k327_99 ow_327 cl_12_501 (by decide) rfl (Nat.le_of_ble_eq_true rfl) sk_129 (ok303 x6 (1 : Int32) _ _ e9) (sk3 := []) rfl rfl ?_
    refine cx_iinc (c := 1) (lo2 := fun x10 => [(3, .int x10), (0, .ref 129), (2, .int v2)]) k327_102 rfl (by decide) (by rw [mx_327]; decide) (fun _ => rfl) h (fun x10 h => ?_)
    refine sx_goto (tgt := 78) k327_105 (by decide) ?_
    refine sx_pick (lo2 := [(0, .ref 129), (2, .int v2), (3, .int x10)]) [1, 2, 0] rfl ?_
    exact hk78 v2 x10 _ _ h
def l327_78 : Nat → Int32 × Int32 × Mem → Option (Mem) :=
  fixN (fun self x => b327_78 (fun v2 v3 μ => self (v2, v3, μ)) (x.1) (x.2.1) (x.2.2))
theorem l327_78_ok {L : Nat} (n : Nat) (v2 : Int32) (v3 : Int32) (μ : Mem) (res : Mem) (h : l327_78 n (v2, v3, μ) = some res) : Sx 327 78 [(0, .ref 129), (2, .int v2), (3, .int v3)] [] 0 0 (mk L μ) (mk L res, none) := by
  have key := fixN_ind (P := fun x res => Sx 327 78 [(0, .ref 129), (2, .int (x.1)), (3, .int (x.2.1))] [] 0 0 (mk L (x.2.2)) (mk L res, none)) (F := fun self x => b327_78 (fun v2 v3 μ => self (v2, v3, μ)) (x.1) (x.2.1) (x.2.2)) (fun self hself x res h => b327_78_ok (fun v2 v3 μ => self (v2, v3, μ)) (fun v2 v3 μ res hh => hself (v2, v3, μ) res hh) (x.1) (x.2.1) (x.2.2) res h) n (v2, v3, μ) res h
  exact key
/-- CraftHouseModel.doesMemory(I)V -/
def f327 (p1 : Int32) (μ : Mem) : Option (Mem) :=
  (f313 182 (11 : Int32) μ).bind fun r1 =>
  if p1 = (2 : Int32) then
    l327_18 gF (r1.2, (0 : Int32), r1.1)
  else
    (f303 r1.2 (2 : Int32) r1.1).bind fun r4 =>
    if p1 = (5 : Int32) then
      (ldA 182 (13 : Int32) r4).bind fun x19 =>
      (f303 x19 (1 : Int32) r4).bind fun r21 =>
      l327_78 gF (r1.2, (0 : Int32), r21)
    else
      (f313 182 (13 : Int32) r4).bind fun r7 =>
      (f303 r7.2 (2 : Int32) r7.1).bind fun r9 =>
      (f313 182 (13 : Int32) r9).bind fun r11 =>
      (f245 189 r1.2 r11.2 r11.1).bind fun r13 =>
      (f303 r13.2 (2 : Int32) r13.1).bind fun r15 =>
      (f305 (6 : Int32) (10 : Int32) r15).bind fun r17 =>
      some r17
theorem ok327 {L : Nat} (p1 : Int32) (μ : Mem) (res : Mem) (h : f327 p1 μ = some res) : Mx 327 [.ref 129, .int p1] (mk L μ) (mk L res, none) := by
  refine Mx_of ml_327 (by rw [mx_327]; exact Nat.le_of_ble_eq_true rfl) ?_
  show Sx 327 0 [(0, .ref 129), (1, .int p1)] [] 0 0 (mk L μ) _
  unfold f327 at h
  refine sx_aload_n (i := 0) k327_0 rfl rfl ?_
  refine sx_aload_n (i := 0) k327_1 rfl rfl ?_
  refine cx_getR (k := 105) k327_2 ow_327 fl_12_513 (by decide) sk_129 ft_11_105 sr_129_105 ?_
  refine sx_bipush (v := 11) k327_5 (by decide) ?_
  obtain ⟨r1, e2, h⟩ := Option.bind_eq_some_iff.mp h
  refine cx_V (sk := []) (vs := [.ref 182, .int (11 : Int32)]) st_327_313 k327_7 ow_327 cl_12_472 (by decide) rfl (Nat.le_of_ble_eq_true rfl) sk_129 (ok313 182 (11 : Int32) sk_182 _ _ e2) (sk3 := [.int r1.2]) rfl rfl ?_
  refine cx_istore_n (lo2 := [(2, .int r1.2), (0, .ref 129), (1, .int p1)]) k327_10 rfl (by rw [mx_327]; decide) rfl ?_
  refine sx_iload_n (i := 1) k327_11 rfl rfl ?_
  refine sx_iconst (v := 2) k327_12 (by decide) ?_
  by_cases hb3 : p1 = (2 : Int32)
  · rw [if_pos hb3] at h
    refine sx_icmp_ne (tgt := 53) k327_13 (by decide) (fun q => absurd hb3 q) (fun _ => ?_)
    refine sx_iconst (v := 0) k327_16 (by decide) ?_
    refine cx_istore_n (lo2 := [(3, .int (0 : Int32)), (2, .int r1.2), (0, .ref 129), (1, .int p1)]) k327_17 rfl (by rw [mx_327]; decide) rfl ?_
    refine sx_pick (lo2 := [(0, .ref 129), (2, .int r1.2), (3, .int (0 : Int32))]) [2, 1, 0] rfl ?_
    exact l327_18_ok gF r1.2 (0 : Int32) _ _ h
  · rw [if_neg hb3] at h
    refine sx_icmp_ne (tgt := 53) k327_13 (by decide) (fun _ => ?_) (fun q => absurd q hb3)
    refine sx_aload_n (i := 0) k327_53 rfl rfl ?_
    refine sx_iload_n (i := 2) k327_54 rfl rfl ?_
    refine sx_iconst (v := 2) k327_55 (by decide) ?_
    obtain ⟨r4, e5, h⟩ := Option.bind_eq_some_iff.mp h
    refine cx_V (sk := []) (vs := [.int r1.2, .int (2 : Int32)]) st_327_303 k327_56 ow_327 cl_12_501 (by decide) rfl (Nat.le_of_ble_eq_true rfl) sk_129 (ok303 r1.2 (2 : Int32) _ _ e5) (sk3 := []) rfl rfl ?_
    refine sx_iload_n (i := 1) k327_59 rfl rfl ?_
    refine sx_iconst (v := 5) k327_60 (by decide) ?_
    by_cases hb6 : p1 = (5 : Int32)
    · rw [if_pos hb6] at h
      refine sx_icmp_ne (tgt := 119) k327_61 (by decide) (fun q => absurd hb6 q) (fun _ => ?_)
      refine sx_aload_n (i := 0) k327_64 rfl rfl ?_
      refine sx_aload_n (i := 0) k327_65 rfl rfl ?_
      refine cx_getR (k := 105) k327_66 ow_327 fl_12_513 (by decide) sk_129 ft_11_105 sr_129_105 ?_
      refine sx_bipush (v := 13) k327_69 (by decide) ?_
      obtain ⟨x19, e20, h⟩ := Option.bind_eq_some_iff.mp h
      refine cx_iald k327_71 sk_182 e20 ?_
      refine sx_iconst (v := 1) k327_72 (by decide) ?_
      obtain ⟨r21, e22, h⟩ := Option.bind_eq_some_iff.mp h
      refine cx_V (sk := []) (vs := [.int x19, .int (1 : Int32)]) st_327_303 k327_73 ow_327 cl_12_501 (by decide) rfl (Nat.le_of_ble_eq_true rfl) sk_129 (ok303 x19 (1 : Int32) _ _ e22) (sk3 := []) rfl rfl ?_
      refine sx_iconst (v := 0) k327_76 (by decide) ?_
      refine cx_istore_n (lo2 := [(3, .int (0 : Int32)), (2, .int r1.2), (0, .ref 129), (1, .int p1)]) k327_77 rfl (by rw [mx_327]; decide) rfl ?_
      refine sx_pick (lo2 := [(0, .ref 129), (2, .int r1.2), (3, .int (0 : Int32))]) [2, 1, 0] rfl ?_
      exact l327_78_ok gF r1.2 (0 : Int32) _ _ h
    · rw [if_neg hb6] at h
      refine sx_icmp_ne (tgt := 119) k327_61 (by decide) (fun _ => ?_) (fun q => absurd q hb6)
      refine sx_aload_n (i := 0) k327_119 rfl rfl ?_
      refine sx_aload_n (i := 0) k327_120 rfl rfl ?_
      refine sx_aload_n (i := 0) k327_121 rfl rfl ?_
      refine cx_getR (k := 105) k327_122 ow_327 fl_12_513 (by decide) sk_129 ft_11_105 sr_129_105 ?_
      refine sx_bipush (v := 13) k327_125 (by decide) ?_
      obtain ⟨r7, e8, h⟩ := Option.bind_eq_some_iff.mp h
      refine cx_V (sk := [.ref 129]) (vs := [.ref 182, .int (13 : Int32)]) st_327_313 k327_127 ow_327 cl_12_472 (by decide) rfl (Nat.le_of_ble_eq_true rfl) sk_129 (ok313 182 (13 : Int32) sk_182 _ _ e8) (sk3 := [.int r7.2, .ref 129]) rfl rfl ?_
      refine sx_iconst (v := 2) k327_130 (by decide) ?_
      obtain ⟨r9, e10, h⟩ := Option.bind_eq_some_iff.mp h
      refine cx_V (sk := []) (vs := [.int r7.2, .int (2 : Int32)]) st_327_303 k327_131 ow_327 cl_12_501 (by decide) rfl (Nat.le_of_ble_eq_true rfl) sk_129 (ok303 r7.2 (2 : Int32) _ _ e10) (sk3 := []) rfl rfl ?_
      refine sx_aload_n (i := 0) k327_134 rfl rfl ?_
      refine sx_aload_n (i := 0) k327_135 rfl rfl ?_
      refine cx_getR (k := 114) k327_136 ow_327 fl_12_592 (by decide) sk_129 ft_11_114 sr_129_114 ?_
      refine sx_iload_n (i := 2) k327_139 rfl rfl ?_
      refine sx_aload_n (i := 0) k327_140 rfl rfl ?_
      refine sx_aload_n (i := 0) k327_141 rfl rfl ?_
      refine cx_getR (k := 105) k327_142 ow_327 fl_12_513 (by decide) sk_129 ft_11_105 sr_129_105 ?_
      refine sx_bipush (v := 13) k327_145 (by decide) ?_
      obtain ⟨r11, e12, h⟩ := Option.bind_eq_some_iff.mp h
      refine cx_V (sk := [.int r1.2, .ref 189, .ref 129]) (vs := [.ref 182, .int (13 : Int32)]) st_327_313 k327_147 ow_327 cl_12_472 (by decide) rfl (Nat.le_of_ble_eq_true rfl) sk_129 (ok313 182 (13 : Int32) sk_182 _ _ e12) (sk3 := [.int r11.2, .int r1.2, .ref 189, .ref 129]) rfl rfl ?_
      obtain ⟨r13, e14, h⟩ := Option.bind_eq_some_iff.mp h
      refine cx_S (sk := [.ref 129]) (vs := [.ref 189, .int r1.2, .int r11.2]) st_327_245 k327_150 ow_327 cl_12_11 (by decide) rfl (Nat.le_of_ble_eq_true rfl) (ok245 189 r1.2 r11.2 sk_189 _ _ e14) (sk3 := [.int r13.2, .ref 129]) rfl rfl ?_
      refine sx_iconst (v := 2) k327_153 (by decide) ?_
      obtain ⟨r15, e16, h⟩ := Option.bind_eq_some_iff.mp h
      refine cx_V (sk := []) (vs := [.int r13.2, .int (2 : Int32)]) st_327_303 k327_154 ow_327 cl_12_501 (by decide) rfl (Nat.le_of_ble_eq_true rfl) sk_129 (ok303 r13.2 (2 : Int32) _ _ e16) (sk3 := []) rfl rfl ?_
      refine sx_aload_n (i := 0) k327_157 rfl rfl ?_
      refine sx_bipush (v := 6) k327_158 (by decide) ?_
      refine sx_bipush (v := 10) k327_160 (by decide) ?_
      obtain ⟨r17, e18, h⟩ := Option.bind_eq_some_iff.mp h
      refine cx_V (sk := []) (vs := [.int (6 : Int32), .int (10 : Int32)]) st_327_305 k327_162 ow_327 cl_12_504 (by decide) rfl (Nat.le_of_ble_eq_true rfl) sk_129 (ok305 (6 : Int32) (10 : Int32) _ _ e18) (sk3 := []) rfl rfl ?_
      exact cx_retv k327_165 rt_327 h
theorem k328_0 : decode (gb 328) 0 = .ok (.aload_n 0, 1) := by decide +kernel
theorem k328_1 : decode (gb 328) 1 = .ok (.iload_n 1, 1) := by decide +kernel
theorem k328_2 : decode (gb 328) 2 = .ok (.iconst 1, 1) := by decide +kernel
theorem k328_3 : decode (gb 328) 3 = .ok (.invokevirtual 501, 3) := by decide +kernel
theorem k328_6 : decode (gb 328) 6 = .ok (.aload_n 0, 1) := by decide +kernel
theorem k328_7 : decode (gb 328) 7 = .ok (.aload_n 0, 1) := by decide +kernel
theorem k328_8 : decode (gb 328) 8 = .ok (.getfield 595, 3) := by decide +kernel
theorem k328_11 : decode (gb 328) 11 = .ok (.iload_n 1, 1) := by decide +kernel
theorem k328_12 : decode (gb 328) 12 = .ok (.iaload, 1) := by decide +kernel
theorem k328_13 : decode (gb 328) 13 = .ok (.iconst 1, 1) := by decide +kernel
theorem k328_14 : decode (gb 328) 14 = .ok (.invokevirtual 501, 3) := by decide +kernel
theorem k328_17 : decode (gb 328) 17 = .ok (.iconst 0, 1) := by decide +kernel
theorem k328_18 : decode (gb 328) 18 = .ok (.istore_n 2, 1) := by decide +kernel
theorem k328_19 : decode (gb 328) 19 = .ok (.iload_n 2, 1) := by decide +kernel
theorem k328_20 : decode (gb 328) 20 = .ok (.aload_n 0, 1) := by decide +kernel
theorem k328_21 : decode (gb 328) 21 = .ok (.getfield 595, 3) := by decide +kernel
theorem k328_24 : decode (gb 328) 24 = .ok (.iload_n 1, 1) := by decide +kernel
theorem k328_25 : decode (gb 328) 25 = .ok (.iaload, 1) := by decide +kernel
theorem k328_26 : decode (gb 328) 26 = .ok (.if_icmp .ge 45, 3) := by decide +kernel
theorem k328_29 : decode (gb 328) 29 = .ok (.aload_n 0, 1) := by decide +kernel
theorem k328_30 : decode (gb 328) 30 = .ok (.aload_n 0, 1) := by decide +kernel
theorem k328_31 : decode (gb 328) 31 = .ok (.getfield 598, 3) := by decide +kernel
theorem k328_34 : decode (gb 328) 34 = .ok (.bipush 8, 2) := by decide +kernel
theorem k328_36 : decode (gb 328) 36 = .ok (.iload_n 1, 1) := by decide +kernel
theorem k328_37 : decode (gb 328) 37 = .ok (.imul, 1) := by decide +kernel
theorem k328_38 : decode (gb 328) 38 = .ok (.iload_n 2, 1) := by decide +kernel
theorem k328_39 : decode (gb 328) 39 = .ok (.iadd, 1) := by decide +kernel
theorem k328_40 : decode (gb 328) 40 = .ok (.iaload, 1) := by decide +kernel
theorem k328_41 : decode (gb 328) 41 = .ok (.iconst 1, 1) := by decide +kernel
theorem k328_42 : decode (gb 328) 42 = .ok (.invokevirtual 501, 3) := by decide +kernel
theorem k328_45 : decode (gb 328) 45 = .ok (.aload_n 0, 1) := by decide +kernel
theorem k328_46 : decode (gb 328) 46 = .ok (.aload_n 0, 1) := by decide +kernel
theorem k328_47 : decode (gb 328) 47 = .ok (.aload_n 0, 1) := by decide +kernel
theorem k328_48 : decode (gb 328) 48 = .ok (.getfield 598, 3) := by decide +kernel
theorem k328_51 : decode (gb 328) 51 = .ok (.bipush 8, 2) := by decide +kernel
theorem k328_53 : decode (gb 328) 53 = .ok (.iload_n 1, 1) := by decide +kernel
theorem k328_54 : decode (gb 328) 54 = .ok (.imul, 1) := by decide +kernel
theorem k328_55 : decode (gb 328) 55 = .ok (.iload_n 2, 1) := by decide +kernel
theorem k328_56 : decode (gb 328) 56 = .ok (.iadd, 1) := by decide +kernel
theorem k328_57 : decode (gb 328) 57 = .ok (.iaload, 1) := by decide +kernel
theorem k328_58 : decode (gb 328) 58 = .ok (.invokevirtual 589, 3) := by decide +kernel
theorem k328_61 : decode (gb 328) 61 = .ok (.iconst 4, 1) := by decide +kernel
theorem k328_62 : decode (gb 328) 62 = .ok (.invokevirtual 501, 3) := by decide +kernel
theorem k328_65 : decode (gb 328) 65 = .ok (.iinc 2 1, 3) := by decide +kernel
theorem k328_68 : decode (gb 328) 68 = .ok (.goto (-49), 3) := by decide +kernel
theorem k328_71 : decode (gb 328) 71 = .ok (.aload_n 0, 1) := by decide +kernel
theorem k328_72 : decode (gb 328) 72 = .ok (.iconst 3, 1) := by decide +kernel
theorem k328_73 : decode (gb 328) 73 = .ok (.bipush 25, 2) := by decide +kernel
theorem k328_75 : decode (gb 328) 75 = .ok (.invokevirtual 504, 3) := by decide +kernel
theorem k328_78 : decode (gb 328) 78 = .ok (.return_, 1) := by decide +kernel
def b328_19 (kl19 : Int32 → Int32 → Mem → Option (Mem)) (v1 : Int32) (v2 : Int32) (μ : Mem) : Option (Mem) :=
  (ldA 187 v1 μ).bind fun x1 =>
  if x1 ≤ v2 then
    (f305 (3 : Int32) (25 : Int32) μ).bind fun r4 =>
    some r4
  else
    (ldA 188 (((8 : Int32) * v1) + v2) μ).bind fun x6 =>
    (f303 x6 (1 : Int32) μ).bind fun r8 =>
    (ldA 188 (((8 : Int32) * v1) + v2) r8).bind fun x10 =>
    (f304 x10 r8).bind fun r12 =>
    (f303 r12.2 (4 : Int32) r12.1).bind fun r14 =>
    nm (v2 + (1 : Int32)) fun x16 =>
    kl19 v1 x16 r14
theorem b328_19_ok {L : Nat} (kl19 : Int32 → Int32 → Mem → Option (Mem)) (hk19 : (∀ (v1 : Int32) (v2 : Int32) (μ : Mem) (res : Mem), kl19 v1 v2 μ = some res → Sx 328 19 [(0, .ref 129), (1, .int v1), (2, .int v2)] [] 0 0 (mk L μ) (mk L res, none))) (v1 : Int32) (v2 : Int32) (μ : Mem) (res : Mem) (h : b328_19 kl19 v1 v2 μ = some res) : Sx 328 19 [(0, .ref 129), (1, .int v1), (2, .int v2)] [] 0 0 (mk L μ) (mk L res, none) := by
  unfold b328_19 at h
  refine sx_iload_n (i := 2) k328_19 rfl rfl ?_
  refine sx_aload_n (i := 0) k328_20 rfl rfl ?_
  refine cx_getR (k := 112) k328_21 ow_328 fl_12_595 (by decide) sk_129 ft_11_112 sr_129_112 ?_
  refine sx_iload_n (i := 1) k328_24 rfl rfl ?_
  obtain ⟨x1, e2, h⟩ := Option.bind_eq_some_iff.mp h
  refine cx_iald k328_25 sk_187 e2 ?_
  by_cases hb3 : x1 ≤ v2
  · rw [if_pos hb3] at h
    refine sx_icmp_ge (tgt := 71) k328_26 (by decide) (fun _ => ?_) (fun q => absurd hb3 q)
    refine sx_aload_n (i := 0) k328_71 rfl rfl ?_
    refine sx_iconst (v := 3) k328_72 (by decide) ?_
    refine sx_bipush (v := 25) k328_73 (by decide) ?_
    obtain ⟨r4, e5, h⟩ := Option.bind_eq_some_iff.mp h
    refine cx_V (sk := []) (vs := [.int (3 : Int32), .int (25 : Int32)]) st_328_305 k328_75 ow_328 cl_12_504 (by decide) rfl (Nat.le_of_ble_eq_true rfl) sk_129 (ok305 (3 : Int32) (25 : Int32) _ _ e5) (sk3 := []) rfl rfl ?_
    exact cx_retv k328_78 rt_328 h
  · rw [if_neg hb3] at h
    refine sx_icmp_ge (tgt := 71) k328_26 (by decide) (fun q => absurd q hb3) (fun _ => ?_)
    refine sx_aload_n (i := 0) k328_29 rfl rfl ?_
    refine sx_aload_n (i := 0) k328_30 rfl rfl ?_
    refine cx_getR (k := 113) k328_31 ow_328 fl_12_598 (by decide) sk_129 ft_11_113 sr_129_113 ?_
    refine sx_bipush (v := 8) k328_34 (by decide) ?_
    refine sx_iload_n (i := 1) k328_36 rfl rfl ?_
    refine sx_imul k328_37 ?_
    refine sx_iload_n (i := 2) k328_38 rfl rfl ?_
    refine sx_iadd k328_39 ?_
    obtain ⟨x6, e7, h⟩ := Option.bind_eq_some_iff.mp h
    refine cx_iald k328_40 sk_188 e7 ?_
    refine sx_iconst (v := 1) k328_41 (by decide) ?_
    obtain ⟨r8, e9, h⟩ := Option.bind_eq_some_iff.mp h
    refine cx_V (sk := []) (vs := [.int x6, .int (1 : Int32)]) st_328_303 k328_42 ow_328 cl_12_501 (by decide) rfl (Nat.le_of_ble_eq_true rfl) sk_129 (ok303 x6 (1 : Int32) _ _ e9) (sk3 := []) rfl rfl ?_
    refine sx_aload_n (i := 0) k328_45 rfl rfl ?_
    refine sx_aload_n (i := 0) k328_46 rfl rfl ?_
    refine sx_aload_n (i := 0) k328_47 rfl rfl ?_
    refine cx_getR (k := 113) k328_48 ow_328 fl_12_598 (by decide) sk_129 ft_11_113 sr_129_113 ?_
    refine sx_bipush (v := 8) k328_51 (by decide) ?_
    refine sx_iload_n (i := 1) k328_53 rfl rfl ?_
    refine sx_imul k328_54 ?_
    refine sx_iload_n (i := 2) k328_55 rfl rfl ?_
    refine sx_iadd k328_56 ?_
    obtain ⟨x10, e11, h⟩ := Option.bind_eq_some_iff.mp h
    refine cx_iald k328_57 sk_188 e11 ?_
    obtain ⟨r12, e13, h⟩ := Option.bind_eq_some_iff.mp h
    refine cx_V (sk := [.ref 129]) (vs := [.int x10]) st_328_304 k328_58 ow_328 cl_12_589 (by decide) rfl (Nat.le_of_ble_eq_true rfl) sk_129 (ok304 x10 _ _ e13) (sk3 := [.int r12.2, .ref 129]) rfl rfl ?_
    refine sx_iconst (v := 4) k328_61 (by decide) ?_
    obtain ⟨r14, e15, h⟩ := Option.bind_eq_some_iff.mp h
    refine cx_V (sk := []) (vs := [.int r12.2, .int (4 : Int32)]) st_328_303 k328_62 ow_328 cl_12_501 (by decide) rfl (Nat.le_of_ble_eq_true rfl) sk_129 (ok303 r12.2 (4 : Int32) _ _ e15) (sk3 := []) rfl rfl ?_
    refine cx_iinc (c := 1) (lo2 := fun x16 => [(2, .int x16), (0, .ref 129), (1, .int v1)]) k328_65 rfl (by decide) (by rw [mx_328]; decide) (fun _ => rfl) h (fun x16 h => ?_)
    refine sx_goto (tgt := 19) k328_68 (by decide) ?_
    refine sx_pick (lo2 := [(0, .ref 129), (1, .int v1), (2, .int x16)]) [1, 2, 0] rfl ?_
    exact hk19 v1 x16 _ _ h
def l328_19 : Nat → Int32 × Int32 × Mem → Option (Mem) :=
  fixN (fun self x => b328_19 (fun v1 v2 μ => self (v1, v2, μ)) (x.1) (x.2.1) (x.2.2))
theorem l328_19_ok {L : Nat} (n : Nat) (v1 : Int32) (v2 : Int32) (μ : Mem) (res : Mem) (h : l328_19 n (v1, v2, μ) = some res) : Sx 328 19 [(0, .ref 129), (1, .int v1), (2, .int v2)] [] 0 0 (mk L μ) (mk L res, none) := by
  have key := fixN_ind (P := fun x res => Sx 328 19 [(0, .ref 129), (1, .int (x.1)), (2, .int (x.2.1))] [] 0 0 (mk L (x.2.2)) (mk L res, none)) (F := fun self x => b328_19 (fun v1 v2 μ => self (v1, v2, μ)) (x.1) (x.2.1) (x.2.2)) (fun self hself x res h => b328_19_ok (fun v1 v2 μ => self (v1, v2, μ)) (fun v1 v2 μ res hh => hself (v1, v2, μ) res hh) (x.1) (x.2.1) (x.2.2) res h) n (v1, v2, μ) res h
  exact key
/-- CraftHouseModel.tellStructure(I)V -/
def f328 (p1 : Int32) (μ : Mem) : Option (Mem) :=
  (f303 p1 (1 : Int32) μ).bind fun r1 =>
  (ldA 187 p1 r1).bind fun x3 =>
  (f303 x3 (1 : Int32) r1).bind fun r5 =>
  l328_19 gF (p1, (0 : Int32), r5)
theorem ok328 {L : Nat} (p1 : Int32) (μ : Mem) (res : Mem) (h : f328 p1 μ = some res) : Mx 328 [.ref 129, .int p1] (mk L μ) (mk L res, none) := by
  refine Mx_of ml_328 (by rw [mx_328]; exact Nat.le_of_ble_eq_true rfl) ?_
  show Sx 328 0 [(0, .ref 129), (1, .int p1)] [] 0 0 (mk L μ) _
  unfold f328 at h
  refine sx_aload_n (i := 0) k328_0 rfl rfl ?_
  refine sx_iload_n (i := 1) k328_1 rfl rfl ?_
  refine sx_iconst (v := 1) k328_2 (by decide) ?_
  obtain ⟨r1, e2, h⟩ := Option.bind_eq_some_iff.mp h
  refine cx_V (sk := []) (vs := [.int p1, .int (1 : Int32)]) st_328_303 k328_3 ow_328 cl_12_501 (by decide) rfl (Nat.le_of_ble_eq_true rfl) sk_129 (ok303 p1 (1 : Int32) _ _ e2) (sk3 := []) rfl rfl ?_
  refine sx_aload_n (i := 0) k328_6 rfl rfl ?_
  refine sx_aload_n (i := 0) k328_7 rfl rfl ?_
  refine cx_getR (k := 112) k328_8 ow_328 fl_12_595 (by decide) sk_129 ft_11_112 sr_129_112 ?_
  refine sx_iload_n (i := 1) k328_11 rfl rfl ?_
  obtain ⟨x3, e4, h⟩ := Option.bind_eq_some_iff.mp h
  refine cx_iald k328_12 sk_187 e4 ?_
  refine sx_iconst (v := 1) k328_13 (by decide) ?_
  obtain ⟨r5, e6, h⟩ := Option.bind_eq_some_iff.mp h
  refine cx_V (sk := []) (vs := [.int x3, .int (1 : Int32)]) st_328_303 k328_14 ow_328 cl_12_501 (by decide) rfl (Nat.le_of_ble_eq_true rfl) sk_129 (ok303 x3 (1 : Int32) _ _ e6) (sk3 := []) rfl rfl ?_
  refine sx_iconst (v := 0) k328_17 (by decide) ?_
  refine cx_istore_n (lo2 := [(2, .int (0 : Int32)), (0, .ref 129), (1, .int p1)]) k328_18 rfl (by rw [mx_328]; decide) rfl ?_
  refine sx_pick (lo2 := [(0, .ref 129), (1, .int p1), (2, .int (0 : Int32))]) [1, 2, 0] rfl ?_
  exact l328_19_ok gF p1 (0 : Int32) _ _ h
theorem k329_0 : decode (gb 329) 0 = .ok (.iload_n 1, 1) := by decide +kernel
theorem k329_1 : decode (gb 329) 1 = .ok (.iconst 1, 1) := by decide +kernel
theorem k329_2 : decode (gb 329) 2 = .ok (.if_icmp .ne 95, 3) := by decide +kernel
theorem k329_5 : decode (gb 329) 5 = .ok (.aload_n 0, 1) := by decide +kernel
theorem k329_6 : decode (gb 329) 6 = .ok (.getfield 527, 3) := by decide +kernel
theorem k329_9 : decode (gb 329) 9 = .ok (.iload_n 2, 1) := by decide +kernel
theorem k329_10 : decode (gb 329) 10 = .ok (.iconst 1, 1) := by decide +kernel
theorem k329_11 : decode (gb 329) 11 = .ok (.bastore, 1) := by decide +kernel
theorem k329_12 : decode (gb 329) 12 = .ok (.aload_n 0, 1) := by decide +kernel
theorem k329_13 : decode (gb 329) 13 = .ok (.getfield 530, 3) := by decide +kernel
theorem k329_16 : decode (gb 329) 16 = .ok (.iload_n 2, 1) := by decide +kernel
theorem k329_17 : decode (gb 329) 17 = .ok (.iconst 0, 1) := by decide +kernel
theorem k329_18 : decode (gb 329) 18 = .ok (.bastore, 1) := by decide +kernel
theorem k329_19 : decode (gb 329) 19 = .ok (.aload_n 0, 1) := by decide +kernel
theorem k329_20 : decode (gb 329) 20 = .ok (.getfield 601, 3) := by decide +kernel
theorem k329_23 : decode (gb 329) 23 = .ok (.iload_n 2, 1) := by decide +kernel
theorem k329_24 : decode (gb 329) 24 = .ok (.aload_n 0, 1) := by decide +kernel
theorem k329_25 : decode (gb 329) 25 = .ok (.aload_n 0, 1) := by decide +kernel
theorem k329_26 : decode (gb 329) 26 = .ok (.getfield 513, 3) := by decide +kernel
theorem k329_29 : decode (gb 329) 29 = .ok (.bipush 12, 2) := by decide +kernel
theorem k329_31 : decode (gb 329) 31 = .ok (.invokevirtual 472, 3) := by decide +kernel
theorem k329_34 : decode (gb 329) 34 = .ok (.iastore, 1) := by decide +kernel
theorem k329_35 : decode (gb 329) 35 = .ok (.aload_n 0, 1) := by decide +kernel
theorem k329_36 : decode (gb 329) 36 = .ok (.getfield 604, 3) := by decide +kernel
theorem k329_39 : decode (gb 329) 39 = .ok (.iload_n 2, 1) := by decide +kernel
theorem k329_40 : decode (gb 329) 40 = .ok (.iconst 0, 1) := by decide +kernel
theorem k329_41 : decode (gb 329) 41 = .ok (.iastore, 1) := by decide +kernel
theorem k329_42 : decode (gb 329) 42 = .ok (.aload_n 0, 1) := by decide +kernel
theorem k329_43 : decode (gb 329) 43 = .ok (.getfield 595, 3) := by decide +kernel
theorem k329_46 : decode (gb 329) 46 = .ok (.iload_n 2, 1) := by decide +kernel
theorem k329_47 : decode (gb 329) 47 = .ok (.aload_n 0, 1) := by decide +kernel
theorem k329_48 : decode (gb 329) 48 = .ok (.getfield 513, 3) := by decide +kernel
theorem k329_51 : decode (gb 329) 51 = .ok (.bipush 14, 2) := by decide +kernel
theorem k329_53 : decode (gb 329) 53 = .ok (.iaload, 1) := by decide +kernel
theorem k329_54 : decode (gb 329) 54 = .ok (.iastore, 1) := by decide +kernel
theorem k329_55 : decode (gb 329) 55 = .ok (.iconst 0, 1) := by decide +kernel
theorem k329_56 : decode (gb 329) 56 = .ok (.istore_n 3, 1) := by decide +kernel
theorem k329_57 : decode (gb 329) 57 = .ok (.iload_n 3, 1) := by decide +kernel
theorem k329_58 : decode (gb 329) 58 = .ok (.aload_n 0, 1) := by decide +kernel
theorem k329_59 : decode (gb 329) 59 = .ok (.getfield 513, 3) := by decide +kernel
theorem k329_62 : decode (gb 329) 62 = .ok (.bipush 14, 2) := by decide +kernel
theorem k329_64 : decode (gb 329) 64 = .ok (.iaload, 1) := by decide +kernel
theorem k329_65 : decode (gb 329) 65 = .ok (.if_icmp .ge 29, 3) := by decide +kernel
theorem k329_68 : decode (gb 329) 68 = .ok (.aload_n 0, 1) := by decide +kernel
theorem k329_69 : decode (gb 329) 69 = .ok (.getfield 598, 3) := by decide +kernel
theorem k329_72 : decode (gb 329) 72 = .ok (.bipush 8, 2) := by decide +kernel
theorem k329_74 : decode (gb 329) 74 = .ok (.iload_n 2, 1) := by decide +kernel
theorem k329_75 : decode (gb 329) 75 = .ok (.imul, 1) := by decide +kernel
theorem k329_76 : decode (gb 329) 76 = .ok (.iload_n 3, 1) := by decide +kernel
theorem k329_77 : decode (gb 329) 77 = .ok (.iadd, 1) := by decide +kernel
theorem k329_78 : decode (gb 329) 78 = .ok (.aload_n 0, 1) := by decide +kernel
theorem k329_79 : decode (gb 329) 79 = .ok (.getfield 513, 3) := by decide +kernel
theorem k329_82 : decode (gb 329) 82 = .ok (.bipush 15, 2) := by decide +kernel
theorem k329_84 : decode (gb 329) 84 = .ok (.iload_n 3, 1) := by decide +kernel
theorem k329_85 : decode (gb 329) 85 = .ok (.iadd, 1) := by decide +kernel
theorem k329_86 : decode (gb 329) 86 = .ok (.iaload, 1) := by decide +kernel
theorem k329_87 : decode (gb 329) 87 = .ok (.iastore, 1) := by decide +kernel
theorem k329_88 : decode (gb 329) 88 = .ok (.iinc 3 1, 3) := by decide +kernel
theorem k329_91 : decode (gb 329) 91 = .ok (.goto (-34), 3) := by decide +kernel
theorem k329_94 : decode (gb 329) 94 = .ok (.goto 66, 3) := by decide +kernel
theorem k329_97 : decode (gb 329) 97 = .ok (.iload_n 1, 1) := by decide +kernel
theorem k329_98 : decode (gb 329) 98 = .ok (.iconst 3, 1) := by decide +kernel
theorem k329_99 : decode (gb 329) 99 = .ok (.if_icmp .ne 13, 3) := by decide +kernel
theorem k329_102 : decode (gb 329) 102 = .ok (.aload_n 0, 1) := by decide +kernel
theorem k329_103 : decode (gb 329) 103 = .ok (.getfield 527, 3) := by decide +kernel
theorem k329_106 : decode (gb 329) 106 = .ok (.iload_n 2, 1) := by decide +kernel
theorem k329_107 : decode (gb 329) 107 = .ok (.iconst 0, 1) := by decide +kernel
theorem k329_108 : decode (gb 329) 108 = .ok (.bastore, 1) := by decide +kernel
theorem k329_109 : decode (gb 329) 109 = .ok (.goto 51, 3) := by decide +kernel
theorem k329_112 : decode (gb 329) 112 = .ok (.iload_n 1, 1) := by decide +kernel
theorem k329_113 : decode (gb 329) 113 = .ok (.iconst 5, 1) := by decide +kernel
theorem k329_114 : decode (gb 329) 114 = .ok (.if_icmp .ne 25, 3) := by decide +kernel
theorem k329_117 : decode (gb 329) 117 = .ok (.aload_n 0, 1) := by decide +kernel
theorem k329_118 : decode (gb 329) 118 = .ok (.getfield 530, 3) := by decide +kernel
theorem k329_121 : decode (gb 329) 121 = .ok (.iload_n 2, 1) := by decide +kernel
theorem k329_122 : decode (gb 329) 122 = .ok (.iconst 1, 1) := by decide +kernel
theorem k329_123 : decode (gb 329) 123 = .ok (.bastore, 1) := by decide +kernel
theorem k329_124 : decode (gb 329) 124 = .ok (.aload_n 0, 1) := by decide +kernel
theorem k329_125 : decode (gb 329) 125 = .ok (.getfield 604, 3) := by decide +kernel
theorem k329_128 : decode (gb 329) 128 = .ok (.iload_n 2, 1) := by decide +kernel
theorem k329_129 : decode (gb 329) 129 = .ok (.aload_n 0, 1) := by decide +kernel
theorem k329_130 : decode (gb 329) 130 = .ok (.getfield 601, 3) := by decide +kernel
theorem k329_133 : decode (gb 329) 133 = .ok (.iload_n 2, 1) := by decide +kernel
theorem k329_134 : decode (gb 329) 134 = .ok (.iaload, 1) := by decide +kernel
theorem k329_135 : decode (gb 329) 135 = .ok (.iastore, 1) := by decide +kernel
theorem k329_136 : decode (gb 329) 136 = .ok (.goto 24, 3) := by decide +kernel
theorem k329_139 : decode (gb 329) 139 = .ok (.iload_n 1, 1) := by decide +kernel
theorem k329_140 : decode (gb 329) 140 = .ok (.bipush 6, 2) := by decide +kernel
theorem k329_142 : decode (gb 329) 142 = .ok (.if_icmp .ne 13, 3) := by decide +kernel
theorem k329_145 : decode (gb 329) 145 = .ok (.aload_n 0, 1) := by decide +kernel
theorem k329_146 : decode (gb 329) 146 = .ok (.getfield 530, 3) := by decide +kernel
theorem k329_149 : decode (gb 329) 149 = .ok (.iload_n 2, 1) := by decide +kernel
theorem k329_150 : decode (gb 329) 150 = .ok (.iconst 0, 1) := by decide +kernel
theorem k329_151 : decode (gb 329) 151 = .ok (.bastore, 1) := by decide +kernel
theorem k329_152 : decode (gb 329) 152 = .ok (.goto 8, 3) := by decide +kernel
theorem k329_155 : decode (gb 329) 155 = .ok (.aload_n 0, 1) := by decide +kernel
theorem k329_156 : decode (gb 329) 156 = .ok (.iload_n 2, 1) := by decide +kernel
theorem k329_157 : decode (gb 329) 157 = .ok (.invokevirtual 607, 3) := by decide +kernel
theorem k329_160 : decode (gb 329) 160 = .ok (.return_, 1) := by decide +kernel
def b329_57 (kl57 : Int32 → Int32 → Mem → Option (Mem)) (v2 : Int32) (v3 : Int32) (μ : Mem) : Option (Mem) :=
  (ldA 182 (14 : Int32) μ).bind fun x1 =>
  if x1 ≤ v3 then
    some μ
  else
    (ldA 182 ((15 : Int32) + v3) μ).bind fun x4 =>
    (stA 188 (((8 : Int32) * v2) + v3) x4 μ).bind fun m6 =>
    nm (v3 + (1 : Int32)) fun x8 =>
    kl57 v2 x8 m6
theorem b329_57_ok {L : Nat} (kl57 : Int32 → Int32 → Mem → Option (Mem)) (hk57 : (∀ (v2 : Int32) (v3 : Int32) (μ : Mem) (res : Mem), kl57 v2 v3 μ = some res → Sx 329 57 [(0, .ref 129), (2, .int v2), (3, .int v3)] [] 0 0 (mk L μ) (mk L res, none))) (v2 : Int32) (v3 : Int32) (μ : Mem) (res : Mem) (h : b329_57 kl57 v2 v3 μ = some res) : Sx 329 57 [(0, .ref 129), (2, .int v2), (3, .int v3)] [] 0 0 (mk L μ) (mk L res, none) := by
  unfold b329_57 at h
  refine sx_iload_n (i := 3) k329_57 rfl rfl ?_
  refine sx_aload_n (i := 0) k329_58 rfl rfl ?_
  refine cx_getR (k := 105) k329_59 ow_329 fl_12_513 (by decide) sk_129 ft_11_105 sr_129_105 ?_
  refine sx_bipush (v := 14) k329_62 (by decide) ?_
  obtain ⟨x1, e2, h⟩ := Option.bind_eq_some_iff.mp h
  refine cx_iald k329_64 sk_182 e2 ?_
  by_cases hb3 : x1 ≤ v3
  · rw [if_pos hb3] at h
    refine sx_icmp_ge (tgt := 94) k329_65 (by decide) (fun _ => ?_) (fun q => absurd hb3 q)
    refine sx_goto (tgt := 160) k329_94 (by decide) ?_
    exact cx_retv k329_160 rt_329 h
  · rw [if_neg hb3] at h
    refine sx_icmp_ge (tgt := 94) k329_65 (by decide) (fun q => absurd q hb3) (fun _ => ?_)
    refine sx_aload_n (i := 0) k329_68 rfl rfl ?_
    refine cx_getR (k := 113) k329_69 ow_329 fl_12_598 (by decide) sk_129 ft_11_113 sr_129_113 ?_
    refine sx_bipush (v := 8) k329_72 (by decide) ?_
    refine sx_iload_n (i := 2) k329_74 rfl rfl ?_
    refine sx_imul k329_75 ?_
    refine sx_iload_n (i := 3) k329_76 rfl rfl ?_
    refine sx_iadd k329_77 ?_
    refine sx_aload_n (i := 0) k329_78 rfl rfl ?_
    refine cx_getR (k := 105) k329_79 ow_329 fl_12_513 (by decide) sk_129 ft_11_105 sr_129_105 ?_
    refine sx_bipush (v := 15) k329_82 (by decide) ?_
    refine sx_iload_n (i := 3) k329_84 rfl rfl ?_
    refine sx_iadd k329_85 ?_
    obtain ⟨x4, e5, h⟩ := Option.bind_eq_some_iff.mp h
    refine cx_iald k329_86 sk_182 e5 ?_
    obtain ⟨m6, e7, h⟩ := Option.bind_eq_some_iff.mp h
    refine cx_iast k329_87 sk_188 e7 ?_
    refine cx_iinc (c := 1) (lo2 := fun x8 => [(3, .int x8), (0, .ref 129), (2, .int v2)]) k329_88 rfl (by decide) (by rw [mx_329]; decide) (fun _ => rfl) h (fun x8 h => ?_)
    refine sx_goto (tgt := 57) k329_91 (by decide) ?_
    refine sx_pick (lo2 := [(0, .ref 129), (2, .int v2), (3, .int x8)]) [1, 2, 0] rfl ?_
    exact hk57 v2 x8 _ _ h
def l329_57 : Nat → Int32 × Int32 × Mem → Option (Mem) :=
  fixN (fun self x => b329_57 (fun v2 v3 μ => self (v2, v3, μ)) (x.1) (x.2.1) (x.2.2))
theorem l329_57_ok {L : Nat} (n : Nat) (v2 : Int32) (v3 : Int32) (μ : Mem) (res : Mem) (h : l329_57 n (v2, v3, μ) = some res) : Sx 329 57 [(0, .ref 129), (2, .int v2), (3, .int v3)] [] 0 0 (mk L μ) (mk L res, none) := by
  have key := fixN_ind (P := fun x res => Sx 329 57 [(0, .ref 129), (2, .int (x.1)), (3, .int (x.2.1))] [] 0 0 (mk L (x.2.2)) (mk L res, none)) (F := fun self x => b329_57 (fun v2 v3 μ => self (v2, v3, μ)) (x.1) (x.2.1) (x.2.2)) (fun self hself x res h => b329_57_ok (fun v2 v3 μ => self (v2, v3, μ)) (fun v2 v3 μ res hh => hself (v2, v3, μ) res hh) (x.1) (x.2.1) (x.2.2) res h) n (v2, v3, μ) res h
  exact key
/-- CraftHouseModel.doesStructure(II)V -/
def f329 (p1 : Int32) (p2 : Int32) (μ : Mem) : Option (Mem) :=
  if p1 = (1 : Int32) then
    (stZ 183 p2 (1 : Int32) μ).bind fun m17 =>
    (stZ 184 p2 (0 : Int32) m17).bind fun m19 =>
    (f313 182 (12 : Int32) m19).bind fun r21 =>
    (stA 185 p2 r21.2 r21.1).bind fun m23 =>
    (stA 186 p2 (0 : Int32) m23).bind fun m25 =>
    (ldA 182 (14 : Int32) m25).bind fun x27 =>
    (stA 187 p2 x27 m25).bind fun m29 =>
    l329_57 gF (p2, (0 : Int32), m29)
  else
    if p1 = (3 : Int32) then
      (stZ 183 p2 (0 : Int32) μ).bind fun m15 =>
      some m15
    else
      if p1 = (5 : Int32) then
        (stZ 184 p2 (1 : Int32) μ).bind fun m9 =>
        (ldA 185 p2 m9).bind fun x11 =>
        (stA 186 p2 x11 m9).bind fun m13 =>
        some m13
      else
        if p1 = (6 : Int32) then
          (stZ 184 p2 (0 : Int32) μ).bind fun m7 =>
          some m7
        else
          (f328 p2 μ).bind fun r5 =>
          some r5
theorem ok329 {L : Nat} (p1 : Int32) (p2 : Int32) (μ : Mem) (res : Mem) (h : f329 p1 p2 μ = some res) : Mx 329 [.ref 129, .int p1, .int p2] (mk L μ) (mk L res, none) := by
  refine Mx_of ml_329 (by rw [mx_329]; exact Nat.le_of_ble_eq_true rfl) ?_
  show Sx 329 0 [(0, .ref 129), (1, .int p1), (2, .int p2)] [] 0 0 (mk L μ) _
  unfold f329 at h
  refine sx_iload_n (i := 1) k329_0 rfl rfl ?_
  refine sx_iconst (v := 1) k329_1 (by decide) ?_
  by_cases hb1 : p1 = (1 : Int32)
  · rw [if_pos hb1] at h
    refine sx_icmp_ne (tgt := 97) k329_2 (by decide) (fun q => absurd hb1 q) (fun _ => ?_)
    refine sx_aload_n (i := 0) k329_5 rfl rfl ?_
    refine cx_getR (k := 108) k329_6 ow_329 fl_12_527 (by decide) sk_129 ft_11_108 sr_129_108 ?_
    refine sx_iload_n (i := 2) k329_9 rfl rfl ?_
    refine sx_iconst (v := 1) k329_10 (by decide) ?_
    obtain ⟨m17, e18, h⟩ := Option.bind_eq_some_iff.mp h
    refine cx_zast k329_11 sk_183 e18 ?_
    refine sx_aload_n (i := 0) k329_12 rfl rfl ?_
    refine cx_getR (k := 109) k329_13 ow_329 fl_12_530 (by decide) sk_129 ft_11_109 sr_129_109 ?_
    refine sx_iload_n (i := 2) k329_16 rfl rfl ?_
    refine sx_iconst (v := 0) k329_17 (by decide) ?_
    obtain ⟨m19, e20, h⟩ := Option.bind_eq_some_iff.mp h
    refine cx_zast k329_18 sk_184 e20 ?_
    refine sx_aload_n (i := 0) k329_19 rfl rfl ?_
    refine cx_getR (k := 110) k329_20 ow_329 fl_12_601 (by decide) sk_129 ft_11_110 sr_129_110 ?_
    refine sx_iload_n (i := 2) k329_23 rfl rfl ?_
    refine sx_aload_n (i := 0) k329_24 rfl rfl ?_
    refine sx_aload_n (i := 0) k329_25 rfl rfl ?_
    refine cx_getR (k := 105) k329_26 ow_329 fl_12_513 (by decide) sk_129 ft_11_105 sr_129_105 ?_
    refine sx_bipush (v := 12) k329_29 (by decide) ?_
    obtain ⟨r21, e22, h⟩ := Option.bind_eq_some_iff.mp h
    refine cx_V (sk := [.int p2, .ref 185]) (vs := [.ref 182, .int (12 : Int32)]) st_329_313 k329_31 ow_329 cl_12_472 (by decide) rfl (Nat.le_of_ble_eq_true rfl) sk_129 (ok313 182 (12 : Int32) sk_182 _ _ e22) (sk3 := [.int r21.2, .int p2, .ref 185]) rfl rfl ?_
    obtain ⟨m23, e24, h⟩ := Option.bind_eq_some_iff.mp h
    refine cx_iast k329_34 sk_185 e24 ?_
    refine sx_aload_n (i := 0) k329_35 rfl rfl ?_
    refine cx_getR (k := 111) k329_36 ow_329 fl_12_604 (by decide) sk_129 ft_11_111 sr_129_111 ?_
    refine sx_iload_n (i := 2) k329_39 rfl rfl ?_
    refine sx_iconst (v := 0) k329_40 (by decide) ?_
    obtain ⟨m25, e26, h⟩ := Option.bind_eq_some_iff.mp h
    refine cx_iast k329_41 sk_186 e26 ?_
    refine sx_aload_n (i := 0) k329_42 rfl rfl ?_
    refine cx_getR (k := 112) k329_43 ow_329 fl_12_595 (by decide) sk_129 ft_11_112 sr_129_112 ?_
    refine sx_iload_n (i := 2) k329_46 rfl rfl ?_
    refine sx_aload_n (i := 0) k329_47 rfl rfl ?_
    refine cx_getR (k := 105) k329_48 ow_329 fl_12_513 (by decide) sk_129 ft_11_105 sr_129_105 ?_
    refine sx_bipush (v := 14) k329_51 (by decide) ?_
    obtain ⟨x27, e28, h⟩ := Option.bind_eq_some_iff.mp h
    refine cx_iald k329_53 sk_182 e28 ?_
    obtain ⟨m29, e30, h⟩ := Option.bind_eq_some_iff.mp h
    refine cx_iast k329_54 sk_187 e30 ?_
    refine sx_iconst (v := 0) k329_55 (by decide) ?_
    refine cx_istore_n (lo2 := [(3, .int (0 : Int32)), (0, .ref 129), (1, .int p1), (2, .int p2)]) k329_56 rfl (by rw [mx_329]; decide) rfl ?_
    refine sx_pick (lo2 := [(0, .ref 129), (2, .int p2), (3, .int (0 : Int32))]) [1, 3, 0] rfl ?_
    exact l329_57_ok gF p2 (0 : Int32) _ _ h
  · rw [if_neg hb1] at h
    refine sx_icmp_ne (tgt := 97) k329_2 (by decide) (fun _ => ?_) (fun q => absurd q hb1)
    refine sx_iload_n (i := 1) k329_97 rfl rfl ?_
    refine sx_iconst (v := 3) k329_98 (by decide) ?_
    by_cases hb2 : p1 = (3 : Int32)
    · rw [if_pos hb2] at h
      refine sx_icmp_ne (tgt := 112) k329_99 (by decide) (fun q => absurd hb2 q) (fun _ => ?_)
      refine sx_aload_n (i := 0) k329_102 rfl rfl ?_
      refine cx_getR (k := 108) k329_103 ow_329 fl_12_527 (by decide) sk_129 ft_11_108 sr_129_108 ?_
      refine sx_iload_n (i := 2) k329_106 rfl rfl ?_
      refine sx_iconst (v := 0) k329_107 (by decide) ?_
      obtain ⟨m15, e16, h⟩ := Option.bind_eq_some_iff.mp h
      refine cx_zast k329_108 sk_183 e16 ?_
      refine sx_goto (tgt := 160) k329_109 (by decide) ?_
      exact cx_retv k329_160 rt_329 h
    · rw [if_neg hb2] at h
      refine sx_icmp_ne (tgt := 112) k329_99 (by decide) (fun _ => ?_) (fun q => absurd q hb2)
      refine sx_iload_n (i := 1) k329_112 rfl rfl ?_
      refine sx_iconst (v := 5) k329_113 (by decide) ?_
      by_cases hb3 : p1 = (5 : Int32)
      · rw [if_pos hb3] at h
        refine sx_icmp_ne (tgt := 139) k329_114 (by decide) (fun q => absurd hb3 q) (fun _ => ?_)
        refine sx_aload_n (i := 0) k329_117 rfl rfl ?_
        refine cx_getR (k := 109) k329_118 ow_329 fl_12_530 (by decide) sk_129 ft_11_109 sr_129_109 ?_
        refine sx_iload_n (i := 2) k329_121 rfl rfl ?_
        refine sx_iconst (v := 1) k329_122 (by decide) ?_
        obtain ⟨m9, e10, h⟩ := Option.bind_eq_some_iff.mp h
        refine cx_zast k329_123 sk_184 e10 ?_
        refine sx_aload_n (i := 0) k329_124 rfl rfl ?_
        refine cx_getR (k := 111) k329_125 ow_329 fl_12_604 (by decide) sk_129 ft_11_111 sr_129_111 ?_
        refine sx_iload_n (i := 2) k329_128 rfl rfl ?_
        refine sx_aload_n (i := 0) k329_129 rfl rfl ?_
        refine cx_getR (k := 110) k329_130 ow_329 fl_12_601 (by decide) sk_129 ft_11_110 sr_129_110 ?_
        refine sx_iload_n (i := 2) k329_133 rfl rfl ?_
        obtain ⟨x11, e12, h⟩ := Option.bind_eq_some_iff.mp h
        refine cx_iald k329_134 sk_185 e12 ?_
        obtain ⟨m13, e14, h⟩ := Option.bind_eq_some_iff.mp h
        refine cx_iast k329_135 sk_186 e14 ?_
        refine sx_goto (tgt := 160) k329_136 (by decide) ?_
        exact cx_retv k329_160 rt_329 h
      · rw [if_neg hb3] at h
        refine sx_icmp_ne (tgt := 139) k329_114 (by decide) (fun _ => ?_) (fun q => absurd q hb3)
        refine sx_iload_n (i := 1) k329_139 rfl rfl ?_
        refine sx_bipush (v := 6) k329_140 (by decide) ?_
        by_cases hb4 : p1 = (6 : Int32)
        · rw [if_pos hb4] at h
          refine sx_icmp_ne (tgt := 155) k329_142 (by decide) (fun q => absurd hb4 q) (fun _ => ?_)
          refine sx_aload_n (i := 0) k329_145 rfl rfl ?_
          refine cx_getR (k := 109) k329_146 ow_329 fl_12_530 (by decide) sk_129 ft_11_109 sr_129_109 ?_
          refine sx_iload_n (i := 2) k329_149 rfl rfl ?_
          refine sx_iconst (v := 0) k329_150 (by decide) ?_
          obtain ⟨m7, e8, h⟩ := Option.bind_eq_some_iff.mp h
          refine cx_zast k329_151 sk_184 e8 ?_
          refine sx_goto (tgt := 160) k329_152 (by decide) ?_
          exact cx_retv k329_160 rt_329 h
        · rw [if_neg hb4] at h
          refine sx_icmp_ne (tgt := 155) k329_142 (by decide) (fun _ => ?_) (fun q => absurd q hb4)
          refine sx_aload_n (i := 0) k329_155 rfl rfl ?_
          refine sx_iload_n (i := 2) k329_156 rfl rfl ?_
          obtain ⟨r5, e6, h⟩ := Option.bind_eq_some_iff.mp h
          refine cx_V (sk := []) (vs := [.int p2]) st_329_328 k329_157 ow_329 cl_12_607 (by decide) rfl (Nat.le_of_ble_eq_true rfl) sk_129 (ok328 p2 _ _ e6) (sk3 := []) rfl rfl ?_
          exact cx_retv k329_160 rt_329 h
theorem k330_0 : decode (gb 330) 0 = .ok (.aload_n 0, 1) := by decide +kernel
theorem k330_1 : decode (gb 330) 1 = .ok (.getfield 126, 3) := by decide +kernel
theorem k330_4 : decode (gb 330) 4 = .ok (.bipush 22, 2) := by decide +kernel
theorem k330_6 : decode (gb 330) 6 = .ok (.dup2, 1) := by decide +kernel
theorem k330_7 : decode (gb 330) 7 = .ok (.iaload, 1) := by decide +kernel
theorem k330_8 : decode (gb 330) 8 = .ok (.iconst 1, 1) := by decide +kernel
theorem k330_9 : decode (gb 330) 9 = .ok (.iadd, 1) := by decide +kernel
theorem k330_10 : decode (gb 330) 10 = .ok (.iastore, 1) := by decide +kernel
theorem k330_11 : decode (gb 330) 11 = .ok (.aload_n 0, 1) := by decide +kernel
theorem k330_12 : decode (gb 330) 12 = .ok (.getfield 571, 3) := by decide +kernel
theorem k330_15 : decode (gb 330) 15 = .ok (.iload_n 1, 1) := by decide +kernel
theorem k330_16 : decode (gb 330) 16 = .ok (.baload, 1) := by decide +kernel
theorem k330_17 : decode (gb 330) 17 = .ok (.ifCond .ne 26, 3) := by decide +kernel
theorem k330_20 : decode (gb 330) 20 = .ok (.aload_n 0, 1) := by decide +kernel
theorem k330_21 : decode (gb 330) 21 = .ok (.iload_n 1, 1) := by decide +kernel
theorem k330_22 : decode (gb 330) 22 = .ok (.iconst 1, 1) := by decide +kernel
theorem k330_23 : decode (gb 330) 23 = .ok (.invokevirtual 501, 3) := by decide +kernel
theorem k330_26 : decode (gb 330) 26 = .ok (.aload_n 0, 1) := by decide +kernel
theorem k330_27 : decode (gb 330) 27 = .ok (.iload_n 2, 1) := by decide +kernel
theorem k330_28 : decode (gb 330) 28 = .ok (.iconst 4, 1) := by decide +kernel
theorem k330_29 : decode (gb 330) 29 = .ok (.invokevirtual 501, 3) := by decide +kernel
theorem k330_32 : decode (gb 330) 32 = .ok (.aload_n 0, 1) := by decide +kernel
theorem k330_33 : decode (gb 330) 33 = .ok (.iconst 5, 1) := by decide +kernel
theorem k330_34 : decode (gb 330) 34 = .ok (.iconst 1, 1) := by decide +kernel
theorem k330_35 : decode (gb 330) 35 = .ok (.iload_n 1, 1) := by decide +kernel
theorem k330_36 : decode (gb 330) 36 = .ok (.bipush 8, 2) := by decide +kernel
theorem k330_38 : decode (gb 330) 38 = .ok (.idiv, 1) := by decide +kernel
theorem k330_39 : decode (gb 330) 39 = .ok (.iadd, 1) := by decide +kernel
theorem k330_40 : decode (gb 330) 40 = .ok (.invokevirtual 504, 3) := by decide +kernel
theorem k330_43 : decode (gb 330) 43 = .ok (.aload_n 0, 1) := by decide +kernel
theorem k330_44 : decode (gb 330) 44 = .ok (.getfield 536, 3) := by decide +kernel
theorem k330_47 : decode (gb 330) 47 = .ok (.iload_n 1, 1) := by decide +kernel
theorem k330_48 : decode (gb 330) 48 = .ok (.baload, 1) := by decide +kernel
theorem k330_49 : decode (gb 330) 49 = .ok (.ifCond .eq 54, 3) := by decide +kernel
theorem k330_52 : decode (gb 330) 52 = .ok (.aload_n 0, 1) := by decide +kernel
theorem k330_53 : decode (gb 330) 53 = .ok (.getfield 610, 3) := by decide +kernel
theorem k330_56 : decode (gb 330) 56 = .ok (.iload_n 1, 1) := by decide +kernel
theorem k330_57 : decode (gb 330) 57 = .ok (.baload, 1) := by decide +kernel
theorem k330_58 : decode (gb 330) 58 = .ok (.ifCond .eq 45, 3) := by decide +kernel
theorem k330_61 : decode (gb 330) 61 = .ok (.iload_n 3, 1) := by decide +kernel
theorem k330_62 : decode (gb 330) 62 = .ok (.iconst 4, 1) := by decide +kernel
theorem k330_63 : decode (gb 330) 63 = .ok (.if_icmp .ge 40, 3) := by decide +kernel
theorem k330_66 : decode (gb 330) 66 = .ok (.aload_n 0, 1) := by decide +kernel
theorem k330_67 : decode (gb 330) 67 = .ok (.aload_n 0, 1) := by decide +kernel
theorem k330_68 : decode (gb 330) 68 = .ok (.getfield 613, 3) := by decide +kernel
theorem k330_71 : decode (gb 330) 71 = .ok (.iload_n 1, 1) := by decide +kernel
theorem k330_72 : decode (gb 330) 72 = .ok (.iaload, 1) := by decide +kernel
theorem k330_73 : decode (gb 330) 73 = .ok (.putfield 164, 3) := by decide +kernel
theorem k330_76 : decode (gb 330) 76 = .ok (.aload_n 0, 1) := by decide +kernel
theorem k330_77 : decode (gb 330) 77 = .ok (.getfield 616, 3) := by decide +kernel
theorem k330_80 : decode (gb 330) 80 = .ok (.bipush 40, 2) := by decide +kernel
theorem k330_82 : decode (gb 330) 82 = .ok (.iload_n 1, 1) := by decide +kernel
theorem k330_83 : decode (gb 330) 83 = .ok (.imul, 1) := by decide +kernel
theorem k330_84 : decode (gb 330) 84 = .ok (.aload_n 0, 1) := by decide +kernel
theorem k330_85 : decode (gb 330) 85 = .ok (.getfield 167, 3) := by decide +kernel
theorem k330_88 : decode (gb 330) 88 = .ok (.iconst 0, 1) := by decide +kernel
theorem k330_89 : decode (gb 330) 89 = .ok (.aload_n 0, 1) := by decide +kernel
theorem k330_90 : decode (gb 330) 90 = .ok (.getfield 164, 3) := by decide +kernel
theorem k330_93 : decode (gb 330) 93 = .ok (.invokestatic 228, 3) := by decide +kernel
theorem k330_96 : decode (gb 330) 96 = .ok (.aload_n 0, 1) := by decide +kernel
theorem k330_97 : decode (gb 330) 97 = .ok (.iload_n 3, 1) := by decide +kernel
theorem k330_98 : decode (gb 330) 98 = .ok (.iconst 1, 1) := by decide +kernel
theorem k330_99 : decode (gb 330) 99 = .ok (.iadd, 1) := by decide +kernel
theorem k330_100 : decode (gb 330) 100 = .ok (.invokevirtual 170, 3) := by decide +kernel
theorem k330_103 : decode (gb 330) 103 = .ok (.return_, 1) := by decide +kernel
def c330_43 (v1 : Int32) (v3 : Int32) (μ : Mem) : Option (Mem) :=
  (ldA 191 v1 μ).bind fun x1 =>
  if x1 = 0 then
    some μ
  else
    (ldA 192 v1 μ).bind fun x4 =>
    if x4 = 0 then
      some μ
    else
      if (4 : Int32) ≤ v3 then
        some μ
      else
        (ldA 194 v1 μ).bind fun x8 =>
        (pfI 129 27 x8 μ).bind fun m10 =>
        (f273 193 ((40 : Int32) * v1) 140 (0 : Int32) (m10.1 129 27) m10).bind fun r12 =>
        (f317 (v3 + (1 : Int32)) r12).bind fun r14 =>
        some r14
theorem c330_43_ok {L : Nat} (v1 : Int32) (v3 : Int32) (μ : Mem) (res : Mem) (h : c330_43 v1 v3 μ = some res) : Sx 330 43 [(0, .ref 129), (1, .int v1), (3, .int v3)] [] 0 0 (mk L μ) (mk L res, none) := by
  unfold c330_43 at h
  refine sx_aload_n (i := 0) k330_43 rfl rfl ?_
  refine cx_getR (k := 116) k330_44 ow_330 fl_12_536 (by decide) sk_129 ft_11_116 sr_129_116 ?_
  refine sx_iload_n (i := 1) k330_47 rfl rfl ?_
  obtain ⟨x1, e2, h⟩ := Option.bind_eq_some_iff.mp h
  refine cx_bald k330_48 (Or.inr sk_191) e2 ?_
  by_cases hb3 : x1 = 0
  · rw [if_pos hb3] at h
    refine sx_if_eq (tgt := 103) k330_49 (by decide) (fun _ => ?_) (fun q => absurd hb3 q)
    exact cx_retv k330_103 rt_330 h
  · rw [if_neg hb3] at h
    refine sx_if_eq (tgt := 103) k330_49 (by decide) (fun q => absurd q hb3) (fun _ => ?_)
    refine sx_aload_n (i := 0) k330_52 rfl rfl ?_
    refine cx_getR (k := 117) k330_53 ow_330 fl_12_610 (by decide) sk_129 ft_11_117 sr_129_117 ?_
    refine sx_iload_n (i := 1) k330_56 rfl rfl ?_
    obtain ⟨x4, e5, h⟩ := Option.bind_eq_some_iff.mp h
    refine cx_bald k330_57 (Or.inr sk_192) e5 ?_
    by_cases hb6 : x4 = 0
    · rw [if_pos hb6] at h
      refine sx_if_eq (tgt := 103) k330_58 (by decide) (fun _ => ?_) (fun q => absurd hb6 q)
      exact cx_retv k330_103 rt_330 h
    · rw [if_neg hb6] at h
      refine sx_if_eq (tgt := 103) k330_58 (by decide) (fun q => absurd q hb6) (fun _ => ?_)
      refine sx_iload_n (i := 3) k330_61 rfl rfl ?_
      refine sx_iconst (v := 4) k330_62 (by decide) ?_
      by_cases hb7 : (4 : Int32) ≤ v3
      · rw [if_pos hb7] at h
        refine sx_icmp_ge (tgt := 103) k330_63 (by decide) (fun _ => ?_) (fun q => absurd hb7 q)
        exact cx_retv k330_103 rt_330 h
      · rw [if_neg hb7] at h
        refine sx_icmp_ge (tgt := 103) k330_63 (by decide) (fun q => absurd q hb7) (fun _ => ?_)
        refine sx_aload_n (i := 0) k330_66 rfl rfl ?_
        refine sx_aload_n (i := 0) k330_67 rfl rfl ?_
        refine cx_getR (k := 119) k330_68 ow_330 fl_12_613 (by decide) sk_129 ft_11_119 sr_129_119 ?_
        refine sx_iload_n (i := 1) k330_71 rfl rfl ?_
        obtain ⟨x8, e9, h⟩ := Option.bind_eq_some_iff.mp h
        refine cx_iald k330_72 sk_194 e9 ?_
        obtain ⟨m10, e11, h⟩ := Option.bind_eq_some_iff.mp h
        refine cx_putI (k := 27) k330_73 ow_330 fl_12_164 (by decide) sk_129 nf_11_27 fu_11_27 e11 ?_
        refine sx_aload_n (i := 0) k330_76 rfl rfl ?_
        refine cx_getR (k := 118) k330_77 ow_330 fl_12_616 (by decide) sk_129 ft_11_118 sr_129_118 ?_
        refine sx_bipush (v := 40) k330_80 (by decide) ?_
        refine sx_iload_n (i := 1) k330_82 rfl rfl ?_
        refine sx_imul k330_83 ?_
        refine sx_aload_n (i := 0) k330_84 rfl rfl ?_
        refine cx_getR (k := 26) k330_85 ow_330 fl_12_167 (by decide) sk_129 ft_11_26 sr_129_26 ?_
        refine sx_iconst (v := 0) k330_88 (by decide) ?_
        refine sx_aload_n (i := 0) k330_89 rfl rfl ?_
        refine cx_getI (k := 27) k330_90 ow_330 fl_12_164 (by decide) sk_129 ft_11_27 ?_
        obtain ⟨r12, e13, h⟩ := Option.bind_eq_some_iff.mp h
        refine cx_S (sk := []) (vs := [.ref 193, .int ((40 : Int32) * v1), .ref 140, .int (0 : Int32), .int (m10.1 129 27)]) st_330_273 k330_93 ow_330 cl_12_228 (by decide) rfl (Nat.le_of_ble_eq_true rfl) (ok273 193 ((40 : Int32) * v1) 140 (0 : Int32) (m10.1 129 27) sk_193 sk_140 _ _ e13) (sk3 := []) rfl rfl ?_
        refine sx_aload_n (i := 0) k330_96 rfl rfl ?_
        refine sx_iload_n (i := 3) k330_97 rfl rfl ?_
        refine sx_iconst (v := 1) k330_98 (by decide) ?_
        refine sx_iadd k330_99 ?_
        obtain ⟨r14, e15, h⟩ := Option.bind_eq_some_iff.mp h
        refine cx_V (sk := []) (vs := [.int (v3 + (1 : Int32))]) st_330_317 k330_100 ow_330 cl_12_170 (by decide) rfl (Nat.le_of_ble_eq_true rfl) sk_129 (ok317 (v3 + (1 : Int32)) _ _ e15) (sk3 := []) rfl rfl ?_
        exact cx_retv k330_103 rt_330 h
/-- CraftHouseModel.happens(III)V -/
def f330 (p1 : Int32) (p2 : Int32) (p3 : Int32) (μ : Mem) : Option (Mem) :=
  (ldA 162 (22 : Int32) μ).bind fun x1 =>
  (stA 162 (22 : Int32) (x1 + (1 : Int32)) μ).bind fun m3 =>
  (ldA 190 p1 m3).bind fun x5 =>
  if x5 = 0 then
    (f303 p1 (1 : Int32) m3).bind fun r8 =>
    (f303 p2 (4 : Int32) r8).bind fun r10 =>
    (f305 (5 : Int32) ((1 : Int32) + (p1 / (8 : Int32))) r10).bind fun r12 =>
    c330_43 p1 p3 r12
  else
    c330_43 p1 p3 m3
theorem ok330 {L : Nat} (p1 : Int32) (p2 : Int32) (p3 : Int32) (μ : Mem) (res : Mem) (h : f330 p1 p2 p3 μ = some res) : Mx 330 [.ref 129, .int p1, .int p2, .int p3] (mk L μ) (mk L res, none) := by
  refine Mx_of ml_330 (by rw [mx_330]; exact Nat.le_of_ble_eq_true rfl) ?_
  show Sx 330 0 [(0, .ref 129), (1, .int p1), (2, .int p2), (3, .int p3)] [] 0 0 (mk L μ) _
  unfold f330 at h
  refine sx_aload_n (i := 0) k330_0 rfl rfl ?_
  refine cx_getR (k := 78) k330_1 ow_330 fl_12_126 (by decide) sk_129 ft_11_78 sr_129_78 ?_
  refine sx_bipush (v := 22) k330_4 (by decide) ?_
  refine sx_dup2 k330_6 rfl rfl ?_
  obtain ⟨x1, e2, h⟩ := Option.bind_eq_some_iff.mp h
  refine cx_iald k330_7 sk_162 e2 ?_
  refine sx_iconst (v := 1) k330_8 (by decide) ?_
  refine sx_iadd k330_9 ?_
  obtain ⟨m3, e4, h⟩ := Option.bind_eq_some_iff.mp h
  refine cx_iast k330_10 sk_162 e4 ?_
  refine sx_aload_n (i := 0) k330_11 rfl rfl ?_
  refine cx_getR (k := 115) k330_12 ow_330 fl_12_571 (by decide) sk_129 ft_11_115 sr_129_115 ?_
  refine sx_iload_n (i := 1) k330_15 rfl rfl ?_
  obtain ⟨x5, e6, h⟩ := Option.bind_eq_some_iff.mp h
  refine cx_bald k330_16 (Or.inr sk_190) e6 ?_
  by_cases hb7 : x5 = 0
  · rw [if_pos hb7] at h
    refine sx_if_ne (tgt := 43) k330_17 (by decide) (fun q => absurd hb7 q) (fun _ => ?_)
    refine sx_aload_n (i := 0) k330_20 rfl rfl ?_
    refine sx_iload_n (i := 1) k330_21 rfl rfl ?_
    refine sx_iconst (v := 1) k330_22 (by decide) ?_
    obtain ⟨r8, e9, h⟩ := Option.bind_eq_some_iff.mp h
    refine cx_V (sk := []) (vs := [.int p1, .int (1 : Int32)]) st_330_303 k330_23 ow_330 cl_12_501 (by decide) rfl (Nat.le_of_ble_eq_true rfl) sk_129 (ok303 p1 (1 : Int32) _ _ e9) (sk3 := []) rfl rfl ?_
    refine sx_aload_n (i := 0) k330_26 rfl rfl ?_
    refine sx_iload_n (i := 2) k330_27 rfl rfl ?_
    refine sx_iconst (v := 4) k330_28 (by decide) ?_
    obtain ⟨r10, e11, h⟩ := Option.bind_eq_some_iff.mp h
    refine cx_V (sk := []) (vs := [.int p2, .int (4 : Int32)]) st_330_303 k330_29 ow_330 cl_12_501 (by decide) rfl (Nat.le_of_ble_eq_true rfl) sk_129 (ok303 p2 (4 : Int32) _ _ e11) (sk3 := []) rfl rfl ?_
    refine sx_aload_n (i := 0) k330_32 rfl rfl ?_
    refine sx_iconst (v := 5) k330_33 (by decide) ?_
    refine sx_iconst (v := 1) k330_34 (by decide) ?_
    refine sx_iload_n (i := 1) k330_35 rfl rfl ?_
    refine sx_bipush (v := 8) k330_36 (by decide) ?_
    refine sx_idiv k330_38 (by decide) ?_
    refine sx_iadd k330_39 ?_
    obtain ⟨r12, e13, h⟩ := Option.bind_eq_some_iff.mp h
    refine cx_V (sk := []) (vs := [.int (5 : Int32), .int ((1 : Int32) + (p1 / (8 : Int32)))]) st_330_305 k330_40 ow_330 cl_12_504 (by decide) rfl (Nat.le_of_ble_eq_true rfl) sk_129 (ok305 (5 : Int32) ((1 : Int32) + (p1 / (8 : Int32))) _ _ e13) (sk3 := []) rfl rfl ?_
    refine sx_pick (lo2 := [(0, .ref 129), (1, .int p1), (3, .int p3)]) [0, 1, 3] rfl ?_
    exact c330_43_ok p1 p3 _ _ h
  · rw [if_neg hb7] at h
    refine sx_if_ne (tgt := 43) k330_17 (by decide) (fun _ => ?_) (fun q => absurd q hb7)
    refine sx_pick (lo2 := [(0, .ref 129), (1, .int p1), (3, .int p3)]) [0, 1, 3] rfl ?_
    exact c330_43_ok p1 p3 _ _ h
theorem k331_0 : decode (gb 331) 0 = .ok (.iload_n 1, 1) := by decide +kernel
theorem k331_1 : decode (gb 331) 1 = .ok (.bipush 13, 2) := by decide +kernel
theorem k331_3 : decode (gb 331) 3 = .ok (.if_icmp .ne 37, 3) := by decide +kernel
theorem k331_6 : decode (gb 331) 6 = .ok (.iconst 0, 1) := by decide +kernel
theorem k331_7 : decode (gb 331) 7 = .ok (.istore_n 3, 1) := by decide +kernel
theorem k331_8 : decode (gb 331) 8 = .ok (.iload_n 3, 1) := by decide +kernel
theorem k331_9 : decode (gb 331) 9 = .ok (.bipush 6, 2) := by decide +kernel
theorem k331_11 : decode (gb 331) 11 = .ok (.if_icmp .ge 20, 3) := by decide +kernel
theorem k331_14 : decode (gb 331) 14 = .ok (.aload_n 0, 1) := by decide +kernel
theorem k331_15 : decode (gb 331) 15 = .ok (.aload_n 0, 1) := by decide +kernel
theorem k331_16 : decode (gb 331) 16 = .ok (.getfield 548, 3) := by decide +kernel
theorem k331_19 : decode (gb 331) 19 = .ok (.iload_n 3, 1) := by decide +kernel
theorem k331_20 : decode (gb 331) 20 = .ok (.iaload, 1) := by decide +kernel
theorem k331_21 : decode (gb 331) 21 = .ok (.iconst 1, 1) := by decide +kernel
theorem k331_22 : decode (gb 331) 22 = .ok (.invokevirtual 501, 3) := by decide +kernel
theorem k331_25 : decode (gb 331) 25 = .ok (.iinc 3 1, 3) := by decide +kernel
theorem k331_28 : decode (gb 331) 28 = .ok (.goto (-20), 3) := by decide +kernel
theorem k331_31 : decode (gb 331) 31 = .ok (.aload_n 0, 1) := by decide +kernel
theorem k331_32 : decode (gb 331) 32 = .ok (.bipush 12, 2) := by decide +kernel
theorem k331_34 : decode (gb 331) 34 = .ok (.bipush 14, 2) := by decide +kernel
theorem k331_36 : decode (gb 331) 36 = .ok (.invokevirtual 504, 3) := by decide +kernel
theorem k331_39 : decode (gb 331) 39 = .ok (.return_, 1) := by decide +kernel
theorem k331_40 : decode (gb 331) 40 = .ok (.iload_n 1, 1) := by decide +kernel
theorem k331_41 : decode (gb 331) 41 = .ok (.iconst 5, 1) := by decide +kernel
theorem k331_42 : decode (gb 331) 42 = .ok (.if_icmp .ne 72, 3) := by decide +kernel
theorem k331_45 : decode (gb 331) 45 = .ok (.aload_n 0, 1) := by decide +kernel
theorem k331_46 : decode (gb 331) 46 = .ok (.getfield 619, 3) := by decide +kernel
theorem k331_49 : decode (gb 331) 49 = .ok (.iload_n 2, 1) := by decide +kernel
theorem k331_50 : decode (gb 331) 50 = .ok (.aload_n 0, 1) := by decide +kernel
theorem k331_51 : decode (gb 331) 51 = .ok (.getfield 513, 3) := by decide +kernel
theorem k331_54 : decode (gb 331) 54 = .ok (.bipush 12, 2) := by decide +kernel
theorem k331_56 : decode (gb 331) 56 = .ok (.iaload, 1) := by decide +kernel
theorem k331_57 : decode (gb 331) 57 = .ok (.iastore, 1) := by decide +kernel
theorem k331_58 : decode (gb 331) 58 = .ok (.aload_n 0, 1) := by decide +kernel
theorem k331_59 : decode (gb 331) 59 = .ok (.getfield 622, 3) := by decide +kernel
theorem k331_62 : decode (gb 331) 62 = .ok (.iload_n 2, 1) := by decide +kernel
theorem k331_63 : decode (gb 331) 63 = .ok (.aload_n 0, 1) := by decide +kernel
theorem k331_64 : decode (gb 331) 64 = .ok (.getfield 513, 3) := by decide +kernel
theorem k331_67 : decode (gb 331) 67 = .ok (.bipush 13, 2) := by decide +kernel
theorem k331_69 : decode (gb 331) 69 = .ok (.invokestatic 545, 3) := by decide +kernel
theorem k331_72 : decode (gb 331) 72 = .ok (.iastore, 1) := by decide +kernel
theorem k331_73 : decode (gb 331) 73 = .ok (.aload_n 0, 1) := by decide +kernel
theorem k331_74 : decode (gb 331) 74 = .ok (.getfield 625, 3) := by decide +kernel
theorem k331_77 : decode (gb 331) 77 = .ok (.iload_n 2, 1) := by decide +kernel
theorem k331_78 : decode (gb 331) 78 = .ok (.aload_n 0, 1) := by decide +kernel
theorem k331_79 : decode (gb 331) 79 = .ok (.getfield 513, 3) := by decide +kernel
theorem k331_82 : decode (gb 331) 82 = .ok (.bipush 17, 2) := by decide +kernel
theorem k331_84 : decode (gb 331) 84 = .ok (.invokestatic 545, 3) := by decide +kernel
theorem k331_87 : decode (gb 331) 87 = .ok (.iastore, 1) := by decide +kernel
theorem k331_88 : decode (gb 331) 88 = .ok (.aload_n 0, 1) := by decide +kernel
theorem k331_89 : decode (gb 331) 89 = .ok (.getfield 628, 3) := by decide +kernel
theorem k331_92 : decode (gb 331) 92 = .ok (.iload_n 2, 1) := by decide +kernel
theorem k331_93 : decode (gb 331) 93 = .ok (.aload_n 0, 1) := by decide +kernel
theorem k331_94 : decode (gb 331) 94 = .ok (.getfield 513, 3) := by decide +kernel
theorem k331_97 : decode (gb 331) 97 = .ok (.bipush 21, 2) := by decide +kernel
theorem k331_99 : decode (gb 331) 99 = .ok (.iaload, 1) := by decide +kernel
theorem k331_100 : decode (gb 331) 100 = .ok (.iastore, 1) := by decide +kernel
theorem k331_101 : decode (gb 331) 101 = .ok (.aload_n 0, 1) := by decide +kernel
theorem k331_102 : decode (gb 331) 102 = .ok (.getfield 631, 3) := by decide +kernel
theorem k331_105 : decode (gb 331) 105 = .ok (.iload_n 2, 1) := by decide +kernel
theorem k331_106 : decode (gb 331) 106 = .ok (.aload_n 0, 1) := by decide +kernel
theorem k331_107 : decode (gb 331) 107 = .ok (.getfield 513, 3) := by decide +kernel
theorem k331_110 : decode (gb 331) 110 = .ok (.bipush 22, 2) := by decide +kernel
theorem k331_112 : decode (gb 331) 112 = .ok (.iaload, 1) := by decide +kernel
theorem k331_113 : decode (gb 331) 113 = .ok (.iastore, 1) := by decide +kernel
theorem k331_114 : decode (gb 331) 114 = .ok (.aload_n 0, 1) := by decide +kernel
theorem k331_115 : decode (gb 331) 115 = .ok (.getfield 548, 3) := by decide +kernel
theorem k331_118 : decode (gb 331) 118 = .ok (.iload_n 2, 1) := by decide +kernel
theorem k331_119 : decode (gb 331) 119 = .ok (.iload_n 1, 1) := by decide +kernel
theorem k331_120 : decode (gb 331) 120 = .ok (.iconst 5, 1) := by decide +kernel
theorem k331_121 : decode (gb 331) 121 = .ok (.if_icmp .eq 8, 3) := by decide +kernel
theorem k331_124 : decode (gb 331) 124 = .ok (.iload_n 1, 1) := by decide +kernel
theorem k331_125 : decode (gb 331) 125 = .ok (.iconst 2, 1) := by decide +kernel
theorem k331_126 : decode (gb 331) 126 = .ok (.if_icmp .ne 7, 3) := by decide +kernel
theorem k331_129 : decode (gb 331) 129 = .ok (.iconst 1, 1) := by decide +kernel
theorem k331_130 : decode (gb 331) 130 = .ok (.goto 13, 3) := by decide +kernel
theorem k331_133 : decode (gb 331) 133 = .ok (.iload_n 1, 1) := by decide +kernel
theorem k331_134 : decode (gb 331) 134 = .ok (.iconst 1, 1) := by decide +kernel
theorem k331_135 : decode (gb 331) 135 = .ok (.if_icmp .ne 7, 3) := by decide +kernel
theorem k331_138 : decode (gb 331) 138 = .ok (.iconst 2, 1) := by decide +kernel
theorem k331_139 : decode (gb 331) 139 = .ok (.goto 4, 3) := by decide +kernel
theorem k331_142 : decode (gb 331) 142 = .ok (.iconst 0, 1) := by decide +kernel
theorem k331_143 : decode (gb 331) 143 = .ok (.iastore, 1) := by decide +kernel
theorem k331_144 : decode (gb 331) 144 = .ok (.aload_n 0, 1) := by decide +kernel
theorem k331_145 : decode (gb 331) 145 = .ok (.getfield 634, 3) := by decide +kernel
theorem k331_148 : decode (gb 331) 148 = .ok (.iload_n 2, 1) := by decide +kernel
theorem k331_149 : decode (gb 331) 149 = .ok (.iconst 0, 1) := by decide +kernel
theorem k331_150 : decode (gb 331) 150 = .ok (.iastore, 1) := by decide +kernel
theorem k331_151 : decode (gb 331) 151 = .ok (.aload_n 0, 1) := by decide +kernel
theorem k331_152 : decode (gb 331) 152 = .ok (.getfield 637, 3) := by decide +kernel
theorem k331_155 : decode (gb 331) 155 = .ok (.iload_n 2, 1) := by decide +kernel
theorem k331_156 : decode (gb 331) 156 = .ok (.iconst 0, 1) := by decide +kernel
theorem k331_157 : decode (gb 331) 157 = .ok (.iastore, 1) := by decide +kernel
theorem k331_158 : decode (gb 331) 158 = .ok (.return_, 1) := by decide +kernel
def b331_8 (kl8 : Int32 → Mem → Option (Mem)) (v3 : Int32) (μ : Mem) : Option (Mem) :=
  if (6 : Int32) ≤ v3 then
    (f305 (12 : Int32) (14 : Int32) μ).bind fun r2 =>
    some r2
  else
    (ldA 195 v3 μ).bind fun x4 =>
    (f303 x4 (1 : Int32) μ).bind fun r6 =>
    nm (v3 + (1 : Int32)) fun x8 =>
    kl8 x8 r6
theorem b331_8_ok {L : Nat} (kl8 : Int32 → Mem → Option (Mem)) (hk8 : (∀ (v3 : Int32) (μ : Mem) (res : Mem), kl8 v3 μ = some res → Sx 331 8 [(0, .ref 129), (3, .int v3)] [] 0 0 (mk L μ) (mk L res, none))) (v3 : Int32) (μ : Mem) (res : Mem) (h : b331_8 kl8 v3 μ = some res) : Sx 331 8 [(0, .ref 129), (3, .int v3)] [] 0 0 (mk L μ) (mk L res, none) := by
  unfold b331_8 at h
  refine sx_iload_n (i := 3) k331_8 rfl rfl ?_
  refine sx_bipush (v := 6) k331_9 (by decide) ?_
  by_cases hb1 : (6 : Int32) ≤ v3
  · rw [if_pos hb1] at h
    refine sx_icmp_ge (tgt := 31) k331_11 (by decide) (fun _ => ?_) (fun q => absurd hb1 q)
    refine sx_aload_n (i := 0) k331_31 rfl rfl ?_
    refine sx_bipush (v := 12) k331_32 (by decide) ?_
    refine sx_bipush (v := 14) k331_34 (by decide) ?_
    obtain ⟨r2, e3, h⟩ := Option.bind_eq_some_iff.mp h
    refine cx_V (sk := []) (vs := [.int (12 : Int32), .int (14 : Int32)]) st_331_305 k331_36 ow_331 cl_12_504 (by decide) rfl (Nat.le_of_ble_eq_true rfl) sk_129 (ok305 (12 : Int32) (14 : Int32) _ _ e3) (sk3 := []) rfl rfl ?_
    exact cx_retv k331_39 rt_331 h
  · rw [if_neg hb1] at h
    refine sx_icmp_ge (tgt := 31) k331_11 (by decide) (fun q => absurd q hb1) (fun _ => ?_)
    refine sx_aload_n (i := 0) k331_14 rfl rfl ?_
    refine sx_aload_n (i := 0) k331_15 rfl rfl ?_
    refine cx_getR (k := 120) k331_16 ow_331 fl_12_548 (by decide) sk_129 ft_11_120 sr_129_120 ?_
    refine sx_iload_n (i := 3) k331_19 rfl rfl ?_
    obtain ⟨x4, e5, h⟩ := Option.bind_eq_some_iff.mp h
    refine cx_iald k331_20 sk_195 e5 ?_
    refine sx_iconst (v := 1) k331_21 (by decide) ?_
    obtain ⟨r6, e7, h⟩ := Option.bind_eq_some_iff.mp h
    refine cx_V (sk := []) (vs := [.int x4, .int (1 : Int32)]) st_331_303 k331_22 ow_331 cl_12_501 (by decide) rfl (Nat.le_of_ble_eq_true rfl) sk_129 (ok303 x4 (1 : Int32) _ _ e7) (sk3 := []) rfl rfl ?_
    refine cx_iinc (c := 1) (lo2 := fun x8 => [(3, .int x8), (0, .ref 129)]) k331_25 rfl (by decide) (by rw [mx_331]; decide) (fun _ => rfl) h (fun x8 h => ?_)
    refine sx_goto (tgt := 8) k331_28 (by decide) ?_
    refine sx_pick (lo2 := [(0, .ref 129), (3, .int x8)]) [1, 0] rfl ?_
    exact hk8 x8 _ _ h
def l331_8 : Nat → Int32 × Mem → Option (Mem) :=
  fixN (fun self x => b331_8 (fun v3 μ => self (v3, μ)) (x.1) (x.2))
theorem l331_8_ok {L : Nat} (n : Nat) (v3 : Int32) (μ : Mem) (res : Mem) (h : l331_8 n (v3, μ) = some res) : Sx 331 8 [(0, .ref 129), (3, .int v3)] [] 0 0 (mk L μ) (mk L res, none) := by
  have key := fixN_ind (P := fun x res => Sx 331 8 [(0, .ref 129), (3, .int (x.1))] [] 0 0 (mk L (x.2)) (mk L res, none)) (F := fun self x => b331_8 (fun v3 μ => self (v3, μ)) (x.1) (x.2)) (fun self hself x res h => b331_8_ok (fun v3 μ => self (v3, μ)) (fun v3 μ res hh => hself (v3, μ) res hh) (x.1) (x.2) res h) n (v3, μ) res h
  exact key
def c331_143 (v2 : Int32) (s1 : Int32) (s2 : Int32) (μ : Mem) : Option (Mem) :=
  (stA 195 s1 s2 μ).bind fun m1 =>
  (stA 201 v2 (0 : Int32) m1).bind fun m3 =>
  (stA 202 v2 (0 : Int32) m3).bind fun m5 =>
  some m5
theorem c331_143_ok {L : Nat} (v2 : Int32) (s1 : Int32) (s2 : Int32) (μ : Mem) (res : Mem) (h : c331_143 v2 s1 s2 μ = some res) : Sx 331 143 [(0, .ref 129), (2, .int v2)] [.int s2, .int s1, .ref 195] 0 0 (mk L μ) (mk L res, none) := by
  unfold c331_143 at h
  obtain ⟨m1, e2, h⟩ := Option.bind_eq_some_iff.mp h
  refine cx_iast k331_143 sk_195 e2 ?_
  refine sx_aload_n (i := 0) k331_144 rfl rfl ?_
  refine cx_getR (k := 126) k331_145 ow_331 fl_12_634 (by decide) sk_129 ft_11_126 sr_129_126 ?_
  refine sx_iload_n (i := 2) k331_148 rfl rfl ?_
  refine sx_iconst (v := 0) k331_149 (by decide) ?_
  obtain ⟨m3, e4, h⟩ := Option.bind_eq_some_iff.mp h
  refine cx_iast k331_150 sk_201 e4 ?_
  refine sx_aload_n (i := 0) k331_151 rfl rfl ?_
  refine cx_getR (k := 127) k331_152 ow_331 fl_12_637 (by decide) sk_129 ft_11_127 sr_129_127 ?_
  refine sx_iload_n (i := 2) k331_155 rfl rfl ?_
  refine sx_iconst (v := 0) k331_156 (by decide) ?_
  obtain ⟨m5, e6, h⟩ := Option.bind_eq_some_iff.mp h
  refine cx_iast k331_157 sk_202 e6 ?_
  exact cx_retv k331_158 rt_331 h
def c331_129 (v2 : Int32) (s1 : Int32) (μ : Mem) : Option (Mem) :=
  c331_143 v2 s1 (1 : Int32) μ
theorem c331_129_ok {L : Nat} (v2 : Int32) (s1 : Int32) (μ : Mem) (res : Mem) (h : c331_129 v2 s1 μ = some res) : Sx 331 129 [(0, .ref 129), (2, .int v2)] [.int s1, .ref 195] 0 0 (mk L μ) (mk L res, none) := by
  unfold c331_129 at h
  refine sx_iconst (v := 1) k331_129 (by decide) ?_
  refine sx_goto (tgt := 143) k331_130 (by decide) ?_
  refine sx_pick (lo2 := [(0, .ref 129), (2, .int v2)]) [0, 1] rfl ?_
  exact c331_143_ok v2 s1 (1 : Int32) _ _ h
def c331_114 (v1 : Int32) (v2 : Int32) (μ : Mem) : Option (Mem) :=
  if v1 = (5 : Int32) then
    c331_129 v2 v2 μ
  else
    if v1 = (2 : Int32) then
      c331_129 v2 v2 μ
    else
      if v1 = (1 : Int32) then
        c331_143 v2 v2 (2 : Int32) μ
      else
        c331_143 v2 v2 (0 : Int32) μ
theorem c331_114_ok {L : Nat} (v1 : Int32) (v2 : Int32) (μ : Mem) (res : Mem) (h : c331_114 v1 v2 μ = some res) : Sx 331 114 [(0, .ref 129), (1, .int v1), (2, .int v2)] [] 0 0 (mk L μ) (mk L res, none) := by
  unfold c331_114 at h
  refine sx_aload_n (i := 0) k331_114 rfl rfl ?_
  refine cx_getR (k := 120) k331_115 ow_331 fl_12_548 (by decide) sk_129 ft_11_120 sr_129_120 ?_
  refine sx_iload_n (i := 2) k331_118 rfl rfl ?_
  refine sx_iload_n (i := 1) k331_119 rfl rfl ?_
  refine sx_iconst (v := 5) k331_120 (by decide) ?_
  by_cases hb1 : v1 = (5 : Int32)
  · rw [if_pos hb1] at h
    refine sx_icmp_eq (tgt := 129) k331_121 (by decide) (fun _ => ?_) (fun q => absurd hb1 q)
    refine sx_pick (lo2 := [(0, .ref 129), (2, .int v2)]) [0, 2] rfl ?_
    exact c331_129_ok v2 v2 _ _ h
  · rw [if_neg hb1] at h
    refine sx_icmp_eq (tgt := 129) k331_121 (by decide) (fun q => absurd q hb1) (fun _ => ?_)
    refine sx_iload_n (i := 1) k331_124 rfl rfl ?_
    refine sx_iconst (v := 2) k331_125 (by decide) ?_
    by_cases hb2 : v1 = (2 : Int32)
    · rw [if_pos hb2] at h
      refine sx_icmp_ne (tgt := 133) k331_126 (by decide) (fun q => absurd hb2 q) (fun _ => ?_)
      refine sx_pick (lo2 := [(0, .ref 129), (2, .int v2)]) [0, 2] rfl ?_
      exact c331_129_ok v2 v2 _ _ h
    · rw [if_neg hb2] at h
      refine sx_icmp_ne (tgt := 133) k331_126 (by decide) (fun _ => ?_) (fun q => absurd q hb2)
      refine sx_iload_n (i := 1) k331_133 rfl rfl ?_
      refine sx_iconst (v := 1) k331_134 (by decide) ?_
      by_cases hb3 : v1 = (1 : Int32)
      · rw [if_pos hb3] at h
        refine sx_icmp_ne (tgt := 142) k331_135 (by decide) (fun q => absurd hb3 q) (fun _ => ?_)
        refine sx_iconst (v := 2) k331_138 (by decide) ?_
        refine sx_goto (tgt := 143) k331_139 (by decide) ?_
        refine sx_pick (lo2 := [(0, .ref 129), (2, .int v2)]) [0, 2] rfl ?_
        exact c331_143_ok v2 v2 (2 : Int32) _ _ h
      · rw [if_neg hb3] at h
        refine sx_icmp_ne (tgt := 142) k331_135 (by decide) (fun _ => ?_) (fun q => absurd q hb3)
        refine sx_iconst (v := 0) k331_142 (by decide) ?_
        refine sx_pick (lo2 := [(0, .ref 129), (2, .int v2)]) [0, 2] rfl ?_
        exact c331_143_ok v2 v2 (0 : Int32) _ _ h
/-- CraftHouseModel.doesWatch(II)V -/
def f331 (p1 : Int32) (p2 : Int32) (μ : Mem) : Option (Mem) :=
  if p1 = (13 : Int32) then
    l331_8 gF ((0 : Int32), μ)
  else
    if p1 = (5 : Int32) then
      (ldA 182 (12 : Int32) μ).bind fun x3 =>
      (stA 196 p2 x3 μ).bind fun m5 =>
      (f314 182 (13 : Int32) m5).bind fun r7 =>
      (stA 197 p2 r7.2 r7.1).bind fun m9 =>
      (f314 182 (17 : Int32) m9).bind fun r11 =>
      (stA 198 p2 r11.2 r11.1).bind fun m13 =>
      (ldA 182 (21 : Int32) m13).bind fun x15 =>
      (stA 199 p2 x15 m13).bind fun m17 =>
      (ldA 182 (22 : Int32) m17).bind fun x19 =>
      (stA 200 p2 x19 m17).bind fun m21 =>
      c331_114 p1 p2 m21
    else
      c331_114 p1 p2 μ
theorem ok331 {L : Nat} (p1 : Int32) (p2 : Int32) (μ : Mem) (res : Mem) (h : f331 p1 p2 μ = some res) : Mx 331 [.ref 129, .int p1, .int p2] (mk L μ) (mk L res, none) := by
  refine Mx_of ml_331 (by rw [mx_331]; exact Nat.le_of_ble_eq_true rfl) ?_
  show Sx 331 0 [(0, .ref 129), (1, .int p1), (2, .int p2)] [] 0 0 (mk L μ) _
  unfold f331 at h
  refine sx_iload_n (i := 1) k331_0 rfl rfl ?_
  refine sx_bipush (v := 13) k331_1 (by decide) ?_
  by_cases hb1 : p1 = (13 : Int32)
  · rw [if_pos hb1] at h
    refine sx_icmp_ne (tgt := 40) k331_3 (by decide) (fun q => absurd hb1 q) (fun _ => ?_)
    refine sx_iconst (v := 0) k331_6 (by decide) ?_
    refine cx_istore_n (lo2 := [(3, .int (0 : Int32)), (0, .ref 129), (1, .int p1), (2, .int p2)]) k331_7 rfl (by rw [mx_331]; decide) rfl ?_
    refine sx_pick (lo2 := [(0, .ref 129), (3, .int (0 : Int32))]) [1, 0] rfl ?_
    exact l331_8_ok gF (0 : Int32) _ _ h
  · rw [if_neg hb1] at h
    refine sx_icmp_ne (tgt := 40) k331_3 (by decide) (fun _ => ?_) (fun q => absurd q hb1)
    refine sx_iload_n (i := 1) k331_40 rfl rfl ?_
    refine sx_iconst (v := 5) k331_41 (by decide) ?_
    by_cases hb2 : p1 = (5 : Int32)
    · rw [if_pos hb2] at h
      refine sx_icmp_ne (tgt := 114) k331_42 (by decide) (fun q => absurd hb2 q) (fun _ => ?_)
      refine sx_aload_n (i := 0) k331_45 rfl rfl ?_
      refine cx_getR (k := 121) k331_46 ow_331 fl_12_619 (by decide) sk_129 ft_11_121 sr_129_121 ?_
      refine sx_iload_n (i := 2) k331_49 rfl rfl ?_
      refine sx_aload_n (i := 0) k331_50 rfl rfl ?_
      refine cx_getR (k := 105) k331_51 ow_331 fl_12_513 (by decide) sk_129 ft_11_105 sr_129_105 ?_
      refine sx_bipush (v := 12) k331_54 (by decide) ?_
      obtain ⟨x3, e4, h⟩ := Option.bind_eq_some_iff.mp h
      refine cx_iald k331_56 sk_182 e4 ?_
      obtain ⟨m5, e6, h⟩ := Option.bind_eq_some_iff.mp h
      refine cx_iast k331_57 sk_196 e6 ?_
      refine sx_aload_n (i := 0) k331_58 rfl rfl ?_
      refine cx_getR (k := 122) k331_59 ow_331 fl_12_622 (by decide) sk_129 ft_11_122 sr_129_122 ?_
      refine sx_iload_n (i := 2) k331_62 rfl rfl ?_
      refine sx_aload_n (i := 0) k331_63 rfl rfl ?_
      refine cx_getR (k := 105) k331_64 ow_331 fl_12_513 (by decide) sk_129 ft_11_105 sr_129_105 ?_
      refine sx_bipush (v := 13) k331_67 (by decide) ?_
      obtain ⟨r7, e8, h⟩ := Option.bind_eq_some_iff.mp h
      refine cx_S (sk := [.int p2, .ref 197]) (vs := [.ref 182, .int (13 : Int32)]) st_331_314 k331_69 ow_331 cl_12_545 (by decide) rfl (Nat.le_of_ble_eq_true rfl) (ok314 182 (13 : Int32) sk_182 _ _ e8) (sk3 := [.int r7.2, .int p2, .ref 197]) rfl rfl ?_
      obtain ⟨m9, e10, h⟩ := Option.bind_eq_some_iff.mp h
      refine cx_iast k331_72 sk_197 e10 ?_
      refine sx_aload_n (i := 0) k331_73 rfl rfl ?_
      refine cx_getR (k := 123) k331_74 ow_331 fl_12_625 (by decide) sk_129 ft_11_123 sr_129_123 ?_
      refine sx_iload_n (i := 2) k331_77 rfl rfl ?_
      refine sx_aload_n (i := 0) k331_78 rfl rfl ?_
      refine cx_getR (k := 105) k331_79 ow_331 fl_12_513 (by decide) sk_129 ft_11_105 sr_129_105 ?_
      refine sx_bipush (v := 17) k331_82 (by decide) ?_
      obtain ⟨r11, e12, h⟩ := Option.bind_eq_some_iff.mp h
      refine cx_S (sk := [.int p2, .ref 198]) (vs := [.ref 182, .int (17 : Int32)]) st_331_314 k331_84 ow_331 cl_12_545 (by decide) rfl (Nat.le_of_ble_eq_true rfl) (ok314 182 (17 : Int32) sk_182 _ _ e12) (sk3 := [.int r11.2, .int p2, .ref 198]) rfl rfl ?_
      obtain ⟨m13, e14, h⟩ := Option.bind_eq_some_iff.mp h
      refine cx_iast k331_87 sk_198 e14 ?_
      refine sx_aload_n (i := 0) k331_88 rfl rfl ?_
      refine cx_getR (k := 124) k331_89 ow_331 fl_12_628 (by decide) sk_129 ft_11_124 sr_129_124 ?_
      refine sx_iload_n (i := 2) k331_92 rfl rfl ?_
      refine sx_aload_n (i := 0) k331_93 rfl rfl ?_
      refine cx_getR (k := 105) k331_94 ow_331 fl_12_513 (by decide) sk_129 ft_11_105 sr_129_105 ?_
      refine sx_bipush (v := 21) k331_97 (by decide) ?_
      obtain ⟨x15, e16, h⟩ := Option.bind_eq_some_iff.mp h
      refine cx_iald k331_99 sk_182 e16 ?_
      obtain ⟨m17, e18, h⟩ := Option.bind_eq_some_iff.mp h
      refine cx_iast k331_100 sk_199 e18 ?_
      refine sx_aload_n (i := 0) k331_101 rfl rfl ?_
      refine cx_getR (k := 125) k331_102 ow_331 fl_12_631 (by decide) sk_129 ft_11_125 sr_129_125 ?_
      refine sx_iload_n (i := 2) k331_105 rfl rfl ?_
      refine sx_aload_n (i := 0) k331_106 rfl rfl ?_
      refine cx_getR (k := 105) k331_107 ow_331 fl_12_513 (by decide) sk_129 ft_11_105 sr_129_105 ?_
      refine sx_bipush (v := 22) k331_110 (by decide) ?_
      obtain ⟨x19, e20, h⟩ := Option.bind_eq_some_iff.mp h
      refine cx_iald k331_112 sk_182 e20 ?_
      obtain ⟨m21, e22, h⟩ := Option.bind_eq_some_iff.mp h
      refine cx_iast k331_113 sk_200 e22 ?_
      refine sx_pick (lo2 := [(0, .ref 129), (1, .int p1), (2, .int p2)]) [0, 1, 2] rfl ?_
      exact c331_114_ok p1 p2 _ _ h
    · rw [if_neg hb2] at h
      refine sx_icmp_ne (tgt := 114) k331_42 (by decide) (fun _ => ?_) (fun q => absurd q hb2)
      refine sx_pick (lo2 := [(0, .ref 129), (1, .int p1), (2, .int p2)]) [0, 1, 2] rfl ?_
      exact c331_114_ok p1 p2 _ _ h
theorem k332_0 : decode (gb 332) 0 = .ok (.iload_n 1, 1) := by decide +kernel
theorem k332_1 : decode (gb 332) 1 = .ok (.iconst 1, 1) := by decide +kernel
theorem k332_2 : decode (gb 332) 2 = .ok (.if_icmp .ne 71, 3) := by decide +kernel
theorem k332_5 : decode (gb 332) 5 = .ok (.aload_n 0, 1) := by decide +kernel
theorem k332_6 : decode (gb 332) 6 = .ok (.getfield 536, 3) := by decide +kernel
theorem k332_9 : decode (gb 332) 9 = .ok (.iload_n 2, 1) := by decide +kernel
theorem k332_10 : decode (gb 332) 10 = .ok (.iconst 1, 1) := by decide +kernel
theorem k332_11 : decode (gb 332) 11 = .ok (.bastore, 1) := by decide +kernel
theorem k332_12 : decode (gb 332) 12 = .ok (.aload_n 0, 1) := by decide +kernel
theorem k332_13 : decode (gb 332) 13 = .ok (.getfield 610, 3) := by decide +kernel
theorem k332_16 : decode (gb 332) 16 = .ok (.iload_n 2, 1) := by decide +kernel
theorem k332_17 : decode (gb 332) 17 = .ok (.aload_n 0, 1) := by decide +kernel
theorem k332_18 : decode (gb 332) 18 = .ok (.getfield 513, 3) := by decide +kernel
theorem k332_21 : decode (gb 332) 21 = .ok (.bipush 12, 2) := by decide +kernel
theorem k332_23 : decode (gb 332) 23 = .ok (.iaload, 1) := by decide +kernel
theorem k332_24 : decode (gb 332) 24 = .ok (.iconst 1, 1) := by decide +kernel
theorem k332_25 : decode (gb 332) 25 = .ok (.if_icmp .ne 7, 3) := by decide +kernel
theorem k332_28 : decode (gb 332) 28 = .ok (.iconst 1, 1) := by decide +kernel
theorem k332_29 : decode (gb 332) 29 = .ok (.goto 4, 3) := by decide +kernel
theorem k332_32 : decode (gb 332) 32 = .ok (.iconst 0, 1) := by decide +kernel
theorem k332_33 : decode (gb 332) 33 = .ok (.bastore, 1) := by decide +kernel
theorem k332_34 : decode (gb 332) 34 = .ok (.aload_n 0, 1) := by decide +kernel
theorem k332_35 : decode (gb 332) 35 = .ok (.getfield 613, 3) := by decide +kernel
theorem k332_38 : decode (gb 332) 38 = .ok (.iload_n 2, 1) := by decide +kernel
theorem k332_39 : decode (gb 332) 39 = .ok (.aload_n 0, 1) := by decide +kernel
theorem k332_40 : decode (gb 332) 40 = .ok (.getfield 507, 3) := by decide +kernel
theorem k332_43 : decode (gb 332) 43 = .ok (.bipush 15, 2) := by decide +kernel
theorem k332_45 : decode (gb 332) 45 = .ok (.isub, 1) := by decide +kernel
theorem k332_46 : decode (gb 332) 46 = .ok (.iastore, 1) := by decide +kernel
theorem k332_47 : decode (gb 332) 47 = .ok (.aload_n 0, 1) := by decide +kernel
theorem k332_48 : decode (gb 332) 48 = .ok (.getfield 513, 3) := by decide +kernel
theorem k332_51 : decode (gb 332) 51 = .ok (.bipush 13, 2) := by decide +kernel
theorem k332_53 : decode (gb 332) 53 = .ok (.aload_n 0, 1) := by decide +kernel
theorem k332_54 : decode (gb 332) 54 = .ok (.getfield 616, 3) := by decide +kernel
theorem k332_57 : decode (gb 332) 57 = .ok (.bipush 40, 2) := by decide +kernel
theorem k332_59 : decode (gb 332) 59 = .ok (.iload_n 2, 1) := by decide +kernel
theorem k332_60 : decode (gb 332) 60 = .ok (.imul, 1) := by decide +kernel
theorem k332_61 : decode (gb 332) 61 = .ok (.aload_n 0, 1) := by decide +kernel
theorem k332_62 : decode (gb 332) 62 = .ok (.getfield 613, 3) := by decide +kernel
theorem k332_65 : decode (gb 332) 65 = .ok (.iload_n 2, 1) := by decide +kernel
theorem k332_66 : decode (gb 332) 66 = .ok (.iaload, 1) := by decide +kernel
theorem k332_67 : decode (gb 332) 67 = .ok (.invokestatic 228, 3) := by decide +kernel
theorem k332_70 : decode (gb 332) 70 = .ok (.goto 41, 3) := by decide +kernel
theorem k332_73 : decode (gb 332) 73 = .ok (.iload_n 1, 1) := by decide +kernel
theorem k332_74 : decode (gb 332) 74 = .ok (.iconst 2, 1) := by decide +kernel
theorem k332_75 : decode (gb 332) 75 = .ok (.if_icmp .ne 20, 3) := by decide +kernel
theorem k332_78 : decode (gb 332) 78 = .ok (.aload_n 0, 1) := by decide +kernel
theorem k332_79 : decode (gb 332) 79 = .ok (.getfield 536, 3) := by decide +kernel
theorem k332_82 : decode (gb 332) 82 = .ok (.iload_n 2, 1) := by decide +kernel
theorem k332_83 : decode (gb 332) 83 = .ok (.iconst 0, 1) := by decide +kernel
theorem k332_84 : decode (gb 332) 84 = .ok (.bastore, 1) := by decide +kernel
theorem k332_85 : decode (gb 332) 85 = .ok (.aload_n 0, 1) := by decide +kernel
theorem k332_86 : decode (gb 332) 86 = .ok (.getfield 610, 3) := by decide +kernel
theorem k332_89 : decode (gb 332) 89 = .ok (.iload_n 2, 1) := by decide +kernel
theorem k332_90 : decode (gb 332) 90 = .ok (.iconst 0, 1) := by decide +kernel
theorem k332_91 : decode (gb 332) 91 = .ok (.bastore, 1) := by decide +kernel
theorem k332_92 : decode (gb 332) 92 = .ok (.goto 19, 3) := by decide +kernel
theorem k332_95 : decode (gb 332) 95 = .ok (.aload_n 0, 1) := by decide +kernel
theorem k332_96 : decode (gb 332) 96 = .ok (.getfield 610, 3) := by decide +kernel
theorem k332_99 : decode (gb 332) 99 = .ok (.iload_n 2, 1) := by decide +kernel
theorem k332_100 : decode (gb 332) 100 = .ok (.iload_n 1, 1) := by decide +kernel
theorem k332_101 : decode (gb 332) 101 = .ok (.iconst 4, 1) := by decide +kernel
theorem k332_102 : decode (gb 332) 102 = .ok (.if_icmp .ne 7, 3) := by decide +kernel
theorem k332_105 : decode (gb 332) 105 = .ok (.iconst 1, 1) := by decide +kernel
theorem k332_106 : decode (gb 332) 106 = .ok (.goto 4, 3) := by decide +kernel
theorem k332_109 : decode (gb 332) 109 = .ok (.iconst 0, 1) := by decide +kernel
theorem k332_110 : decode (gb 332) 110 = .ok (.bastore, 1) := by decide +kernel
theorem k332_111 : decode (gb 332) 111 = .ok (.return_, 1) := by decide +kernel
def c332_33 (v2 : Int32) (s1 : Int32) (s2 : Int32) (μ : Mem) : Option (Mem) :=
  (stZ 192 s1 s2 μ).bind fun m1 =>
  (stA 194 v2 ((m1.1 129 106) - (15 : Int32)) m1).bind fun m3 =>
  (ldA 194 v2 m3).bind fun x5 =>
  (f273 182 (13 : Int32) 193 ((40 : Int32) * v2) x5 m3).bind fun r7 =>
  some r7
theorem c332_33_ok {L : Nat} (v2 : Int32) (s1 : Int32) (s2 : Int32) (μ : Mem) (res : Mem) (h : c332_33 v2 s1 s2 μ = some res) : Sx 332 33 [(0, .ref 129), (2, .int v2)] [.int s2, .int s1, .ref 192] 0 0 (mk L μ) (mk L res, none) := by
  unfold c332_33 at h
  obtain ⟨m1, e2, h⟩ := Option.bind_eq_some_iff.mp h
  refine cx_zast k332_33 sk_192 e2 ?_
  refine sx_aload_n (i := 0) k332_34 rfl rfl ?_
  refine cx_getR (k := 119) k332_35 ow_332 fl_12_613 (by decide) sk_129 ft_11_119 sr_129_119 ?_
  refine sx_iload_n (i := 2) k332_38 rfl rfl ?_
  refine sx_aload_n (i := 0) k332_39 rfl rfl ?_
  refine cx_getI (k := 106) k332_40 ow_332 fl_12_507 (by decide) sk_129 ft_11_106 ?_
  refine sx_bipush (v := 15) k332_43 (by decide) ?_
  refine sx_isub k332_45 ?_
  obtain ⟨m3, e4, h⟩ := Option.bind_eq_some_iff.mp h
  refine cx_iast k332_46 sk_194 e4 ?_
  refine sx_aload_n (i := 0) k332_47 rfl rfl ?_
  refine cx_getR (k := 105) k332_48 ow_332 fl_12_513 (by decide) sk_129 ft_11_105 sr_129_105 ?_
  refine sx_bipush (v := 13) k332_51 (by decide) ?_
  refine sx_aload_n (i := 0) k332_53 rfl rfl ?_
  refine cx_getR (k := 118) k332_54 ow_332 fl_12_616 (by decide) sk_129 ft_11_118 sr_129_118 ?_
  refine sx_bipush (v := 40) k332_57 (by decide) ?_
  refine sx_iload_n (i := 2) k332_59 rfl rfl ?_
  refine sx_imul k332_60 ?_
  refine sx_aload_n (i := 0) k332_61 rfl rfl ?_
  refine cx_getR (k := 119) k332_62 ow_332 fl_12_613 (by decide) sk_129 ft_11_119 sr_129_119 ?_
  refine sx_iload_n (i := 2) k332_65 rfl rfl ?_
  obtain ⟨x5, e6, h⟩ := Option.bind_eq_some_iff.mp h
  refine cx_iald k332_66 sk_194 e6 ?_
  obtain ⟨r7, e8, h⟩ := Option.bind_eq_some_iff.mp h
  refine cx_S (sk := []) (vs := [.ref 182, .int (13 : Int32), .ref 193, .int ((40 : Int32) * v2), .int x5]) st_332_273 k332_67 ow_332 cl_12_228 (by decide) rfl (Nat.le_of_ble_eq_true rfl) (ok273 182 (13 : Int32) 193 ((40 : Int32) * v2) x5 sk_182 sk_193 _ _ e8) (sk3 := []) rfl rfl ?_
  refine sx_goto (tgt := 111) k332_70 (by decide) ?_
  exact cx_retv k332_111 rt_332 h
def c332_110 (s1 : Int32) (s2 : Int32) (μ : Mem) : Option (Mem) :=
  (stZ 192 s1 s2 μ).bind fun m1 =>
  some m1
theorem c332_110_ok {L : Nat} (s1 : Int32) (s2 : Int32) (μ : Mem) (res : Mem) (h : c332_110 s1 s2 μ = some res) : Sx 332 110 [] [.int s2, .int s1, .ref 192] 0 0 (mk L μ) (mk L res, none) := by
  unfold c332_110 at h
  obtain ⟨m1, e2, h⟩ := Option.bind_eq_some_iff.mp h
  refine cx_zast k332_110 sk_192 e2 ?_
  exact cx_retv k332_111 rt_332 h
/-- CraftHouseModel.doesAction(II)V -/
def f332 (p1 : Int32) (p2 : Int32) (μ : Mem) : Option (Mem) :=
  if p1 = (1 : Int32) then
    (stZ 191 p2 (1 : Int32) μ).bind fun m8 =>
    (ldA 182 (12 : Int32) m8).bind fun x10 =>
    if x10 = (1 : Int32) then
      c332_33 p2 p2 (1 : Int32) m8
    else
      c332_33 p2 p2 (0 : Int32) m8
  else
    if p1 = (2 : Int32) then
      (stZ 191 p2 (0 : Int32) μ).bind fun m4 =>
      (stZ 192 p2 (0 : Int32) m4).bind fun m6 =>
      some m6
    else
      if p1 = (4 : Int32) then
        c332_110 p2 (1 : Int32) μ
      else
        c332_110 p2 (0 : Int32) μ
theorem ok332 {L : Nat} (p1 : Int32) (p2 : Int32) (μ : Mem) (res : Mem) (h : f332 p1 p2 μ = some res) : Mx 332 [.ref 129, .int p1, .int p2] (mk L μ) (mk L res, none) := by
  refine Mx_of ml_332 (by rw [mx_332]; exact Nat.le_of_ble_eq_true rfl) ?_
  show Sx 332 0 [(0, .ref 129), (1, .int p1), (2, .int p2)] [] 0 0 (mk L μ) _
  unfold f332 at h
  refine sx_iload_n (i := 1) k332_0 rfl rfl ?_
  refine sx_iconst (v := 1) k332_1 (by decide) ?_
  by_cases hb1 : p1 = (1 : Int32)
  · rw [if_pos hb1] at h
    refine sx_icmp_ne (tgt := 73) k332_2 (by decide) (fun q => absurd hb1 q) (fun _ => ?_)
    refine sx_aload_n (i := 0) k332_5 rfl rfl ?_
    refine cx_getR (k := 116) k332_6 ow_332 fl_12_536 (by decide) sk_129 ft_11_116 sr_129_116 ?_
    refine sx_iload_n (i := 2) k332_9 rfl rfl ?_
    refine sx_iconst (v := 1) k332_10 (by decide) ?_
    obtain ⟨m8, e9, h⟩ := Option.bind_eq_some_iff.mp h
    refine cx_zast k332_11 sk_191 e9 ?_
    refine sx_aload_n (i := 0) k332_12 rfl rfl ?_
    refine cx_getR (k := 117) k332_13 ow_332 fl_12_610 (by decide) sk_129 ft_11_117 sr_129_117 ?_
    refine sx_iload_n (i := 2) k332_16 rfl rfl ?_
    refine sx_aload_n (i := 0) k332_17 rfl rfl ?_
    refine cx_getR (k := 105) k332_18 ow_332 fl_12_513 (by decide) sk_129 ft_11_105 sr_129_105 ?_
    refine sx_bipush (v := 12) k332_21 (by decide) ?_
    obtain ⟨x10, e11, h⟩ := Option.bind_eq_some_iff.mp h
    refine cx_iald k332_23 sk_182 e11 ?_
    refine sx_iconst (v := 1) k332_24 (by decide) ?_
    by_cases hb12 : x10 = (1 : Int32)
    · rw [if_pos hb12] at h
      refine sx_icmp_ne (tgt := 32) k332_25 (by decide) (fun q => absurd hb12 q) (fun _ => ?_)
      refine sx_iconst (v := 1) k332_28 (by decide) ?_
      refine sx_goto (tgt := 33) k332_29 (by decide) ?_
      refine sx_pick (lo2 := [(0, .ref 129), (2, .int p2)]) [0, 2] rfl ?_
      exact c332_33_ok p2 p2 (1 : Int32) _ _ h
    · rw [if_neg hb12] at h
      refine sx_icmp_ne (tgt := 32) k332_25 (by decide) (fun _ => ?_) (fun q => absurd q hb12)
      refine sx_iconst (v := 0) k332_32 (by decide) ?_
      refine sx_pick (lo2 := [(0, .ref 129), (2, .int p2)]) [0, 2] rfl ?_
      exact c332_33_ok p2 p2 (0 : Int32) _ _ h
  · rw [if_neg hb1] at h
    refine sx_icmp_ne (tgt := 73) k332_2 (by decide) (fun _ => ?_) (fun q => absurd q hb1)
    refine sx_iload_n (i := 1) k332_73 rfl rfl ?_
    refine sx_iconst (v := 2) k332_74 (by decide) ?_
    by_cases hb2 : p1 = (2 : Int32)
    · rw [if_pos hb2] at h
      refine sx_icmp_ne (tgt := 95) k332_75 (by decide) (fun q => absurd hb2 q) (fun _ => ?_)
      refine sx_aload_n (i := 0) k332_78 rfl rfl ?_
      refine cx_getR (k := 116) k332_79 ow_332 fl_12_536 (by decide) sk_129 ft_11_116 sr_129_116 ?_
      refine sx_iload_n (i := 2) k332_82 rfl rfl ?_
      refine sx_iconst (v := 0) k332_83 (by decide) ?_
      obtain ⟨m4, e5, h⟩ := Option.bind_eq_some_iff.mp h
      refine cx_zast k332_84 sk_191 e5 ?_
      refine sx_aload_n (i := 0) k332_85 rfl rfl ?_
      refine cx_getR (k := 117) k332_86 ow_332 fl_12_610 (by decide) sk_129 ft_11_117 sr_129_117 ?_
      refine sx_iload_n (i := 2) k332_89 rfl rfl ?_
      refine sx_iconst (v := 0) k332_90 (by decide) ?_
      obtain ⟨m6, e7, h⟩ := Option.bind_eq_some_iff.mp h
      refine cx_zast k332_91 sk_192 e7 ?_
      refine sx_goto (tgt := 111) k332_92 (by decide) ?_
      exact cx_retv k332_111 rt_332 h
    · rw [if_neg hb2] at h
      refine sx_icmp_ne (tgt := 95) k332_75 (by decide) (fun _ => ?_) (fun q => absurd q hb2)
      refine sx_aload_n (i := 0) k332_95 rfl rfl ?_
      refine cx_getR (k := 117) k332_96 ow_332 fl_12_610 (by decide) sk_129 ft_11_117 sr_129_117 ?_
      refine sx_iload_n (i := 2) k332_99 rfl rfl ?_
      refine sx_iload_n (i := 1) k332_100 rfl rfl ?_
      refine sx_iconst (v := 4) k332_101 (by decide) ?_
      by_cases hb3 : p1 = (4 : Int32)
      · rw [if_pos hb3] at h
        refine sx_icmp_ne (tgt := 109) k332_102 (by decide) (fun q => absurd hb3 q) (fun _ => ?_)
        refine sx_iconst (v := 1) k332_105 (by decide) ?_
        refine sx_goto (tgt := 110) k332_106 (by decide) ?_
        refine sx_pick (lo2 := []) [] rfl ?_
        exact c332_110_ok p2 (1 : Int32) _ _ h
      · rw [if_neg hb3] at h
        refine sx_icmp_ne (tgt := 109) k332_102 (by decide) (fun _ => ?_) (fun q => absurd q hb3)
        refine sx_iconst (v := 0) k332_109 (by decide) ?_
        refine sx_pick (lo2 := []) [] rfl ?_
        exact c332_110_ok p2 (0 : Int32) _ _ h
theorem k335_0 : decode (gb 335) 0 = .ok (.aload_n 0, 1) := by decide +kernel
theorem k335_1 : decode (gb 335) 1 = .ok (.getfield 554, 3) := by decide +kernel
theorem k335_4 : decode (gb 335) 4 = .ok (.iload_n 2, 1) := by decide +kernel
theorem k335_5 : decode (gb 335) 5 = .ok (.aload_n 0, 1) := by decide +kernel
theorem k335_6 : decode (gb 335) 6 = .ok (.getfield 554, 3) := by decide +kernel
theorem k335_9 : decode (gb 335) 9 = .ok (.iload_n 1, 1) := by decide +kernel
theorem k335_10 : decode (gb 335) 10 = .ok (.iaload, 1) := by decide +kernel
theorem k335_11 : decode (gb 335) 11 = .ok (.iastore, 1) := by decide +kernel
theorem k335_12 : decode (gb 335) 12 = .ok (.aload_n 0, 1) := by decide +kernel
theorem k335_13 : decode (gb 335) 13 = .ok (.getfield 646, 3) := by decide +kernel
theorem k335_16 : decode (gb 335) 16 = .ok (.iload_n 2, 1) := by decide +kernel
theorem k335_17 : decode (gb 335) 17 = .ok (.aload_n 0, 1) := by decide +kernel
theorem k335_18 : decode (gb 335) 18 = .ok (.getfield 646, 3) := by decide +kernel
theorem k335_21 : decode (gb 335) 21 = .ok (.iload_n 1, 1) := by decide +kernel
theorem k335_22 : decode (gb 335) 22 = .ok (.iaload, 1) := by decide +kernel
theorem k335_23 : decode (gb 335) 23 = .ok (.iastore, 1) := by decide +kernel
theorem k335_24 : decode (gb 335) 24 = .ok (.aload_n 0, 1) := by decide +kernel
theorem k335_25 : decode (gb 335) 25 = .ok (.getfield 649, 3) := by decide +kernel
theorem k335_28 : decode (gb 335) 28 = .ok (.iload_n 2, 1) := by decide +kernel
theorem k335_29 : decode (gb 335) 29 = .ok (.aload_n 0, 1) := by decide +kernel
theorem k335_30 : decode (gb 335) 30 = .ok (.getfield 649, 3) := by decide +kernel
theorem k335_33 : decode (gb 335) 33 = .ok (.iload_n 1, 1) := by decide +kernel
theorem k335_34 : decode (gb 335) 34 = .ok (.iaload, 1) := by decide +kernel
theorem k335_35 : decode (gb 335) 35 = .ok (.iastore, 1) := by decide +kernel
theorem k335_36 : decode (gb 335) 36 = .ok (.aload_n 0, 1) := by decide +kernel
theorem k335_37 : decode (gb 335) 37 = .ok (.getfield 640, 3) := by decide +kernel
theorem k335_40 : decode (gb 335) 40 = .ok (.bipush 40, 2) := by decide +kernel
theorem k335_42 : decode (gb 335) 42 = .ok (.iload_n 1, 1) := by decide +kernel
theorem k335_43 : decode (gb 335) 43 = .ok (.imul, 1) := by decide +kernel
theorem k335_44 : decode (gb 335) 44 = .ok (.aload_n 0, 1) := by decide +kernel
theorem k335_45 : decode (gb 335) 45 = .ok (.getfield 640, 3) := by decide +kernel
theorem k335_48 : decode (gb 335) 48 = .ok (.bipush 40, 2) := by decide +kernel
theorem k335_50 : decode (gb 335) 50 = .ok (.iload_n 2, 1) := by decide +kernel
theorem k335_51 : decode (gb 335) 51 = .ok (.imul, 1) := by decide +kernel
theorem k335_52 : decode (gb 335) 52 = .ok (.aload_n 0, 1) := by decide +kernel
theorem k335_53 : decode (gb 335) 53 = .ok (.getfield 649, 3) := by decide +kernel
theorem k335_56 : decode (gb 335) 56 = .ok (.iload_n 1, 1) := by decide +kernel
theorem k335_57 : decode (gb 335) 57 = .ok (.iaload, 1) := by decide +kernel
theorem k335_58 : decode (gb 335) 58 = .ok (.invokestatic 228, 3) := by decide +kernel
theorem k335_61 : decode (gb 335) 61 = .ok (.return_, 1) := by decide +kernel
/-- CraftHouseModel.moveEntry(II)V -/
def f335 (p1 : Int32) (p2 : Int32) (μ : Mem) : Option (Mem) :=
  (ldA 204 p1 μ).bind fun x1 =>
  (stA 204 p2 x1 μ).bind fun m3 =>
  (ldA 205 p1 m3).bind fun x5 =>
  (stA 205 p2 x5 m3).bind fun m7 =>
  (ldA 206 p1 m7).bind fun x9 =>
  (stA 206 p2 x9 m7).bind fun m11 =>
  (ldA 206 p1 m11).bind fun x13 =>
  (f273 207 ((40 : Int32) * p1) 207 ((40 : Int32) * p2) x13 m11).bind fun r15 =>
  some r15
theorem ok335 {L : Nat} (p1 : Int32) (p2 : Int32) (μ : Mem) (res : Mem) (h : f335 p1 p2 μ = some res) : Mx 335 [.ref 129, .int p1, .int p2] (mk L μ) (mk L res, none) := by
  refine Mx_of ml_335 (by rw [mx_335]; exact Nat.le_of_ble_eq_true rfl) ?_
  show Sx 335 0 [(0, .ref 129), (1, .int p1), (2, .int p2)] [] 0 0 (mk L μ) _
  unfold f335 at h
  refine sx_aload_n (i := 0) k335_0 rfl rfl ?_
  refine cx_getR (k := 131) k335_1 ow_335 fl_12_554 (by decide) sk_129 ft_11_131 sr_129_131 ?_
  refine sx_iload_n (i := 2) k335_4 rfl rfl ?_
  refine sx_aload_n (i := 0) k335_5 rfl rfl ?_
  refine cx_getR (k := 131) k335_6 ow_335 fl_12_554 (by decide) sk_129 ft_11_131 sr_129_131 ?_
  refine sx_iload_n (i := 1) k335_9 rfl rfl ?_
  obtain ⟨x1, e2, h⟩ := Option.bind_eq_some_iff.mp h
  refine cx_iald k335_10 sk_204 e2 ?_
  obtain ⟨m3, e4, h⟩ := Option.bind_eq_some_iff.mp h
  refine cx_iast k335_11 sk_204 e4 ?_
  refine sx_aload_n (i := 0) k335_12 rfl rfl ?_
  refine cx_getR (k := 132) k335_13 ow_335 fl_12_646 (by decide) sk_129 ft_11_132 sr_129_132 ?_
  refine sx_iload_n (i := 2) k335_16 rfl rfl ?_
  refine sx_aload_n (i := 0) k335_17 rfl rfl ?_
  refine cx_getR (k := 132) k335_18 ow_335 fl_12_646 (by decide) sk_129 ft_11_132 sr_129_132 ?_
  refine sx_iload_n (i := 1) k335_21 rfl rfl ?_
  obtain ⟨x5, e6, h⟩ := Option.bind_eq_some_iff.mp h
  refine cx_iald k335_22 sk_205 e6 ?_
  obtain ⟨m7, e8, h⟩ := Option.bind_eq_some_iff.mp h
  refine cx_iast k335_23 sk_205 e8 ?_
  refine sx_aload_n (i := 0) k335_24 rfl rfl ?_
  refine cx_getR (k := 133) k335_25 ow_335 fl_12_649 (by decide) sk_129 ft_11_133 sr_129_133 ?_
  refine sx_iload_n (i := 2) k335_28 rfl rfl ?_
  refine sx_aload_n (i := 0) k335_29 rfl rfl ?_
  refine cx_getR (k := 133) k335_30 ow_335 fl_12_649 (by decide) sk_129 ft_11_133 sr_129_133 ?_
  refine sx_iload_n (i := 1) k335_33 rfl rfl ?_
  obtain ⟨x9, e10, h⟩ := Option.bind_eq_some_iff.mp h
  refine cx_iald k335_34 sk_206 e10 ?_
  obtain ⟨m11, e12, h⟩ := Option.bind_eq_some_iff.mp h
  refine cx_iast k335_35 sk_206 e12 ?_
  refine sx_aload_n (i := 0) k335_36 rfl rfl ?_
  refine cx_getR (k := 134) k335_37 ow_335 fl_12_640 (by decide) sk_129 ft_11_134 sr_129_134 ?_
  refine sx_bipush (v := 40) k335_40 (by decide) ?_
  refine sx_iload_n (i := 1) k335_42 rfl rfl ?_
  refine sx_imul k335_43 ?_
  refine sx_aload_n (i := 0) k335_44 rfl rfl ?_
  refine cx_getR (k := 134) k335_45 ow_335 fl_12_640 (by decide) sk_129 ft_11_134 sr_129_134 ?_
  refine sx_bipush (v := 40) k335_48 (by decide) ?_
  refine sx_iload_n (i := 2) k335_50 rfl rfl ?_
  refine sx_imul k335_51 ?_
  refine sx_aload_n (i := 0) k335_52 rfl rfl ?_
  refine cx_getR (k := 133) k335_53 ow_335 fl_12_649 (by decide) sk_129 ft_11_133 sr_129_133 ?_
  refine sx_iload_n (i := 1) k335_56 rfl rfl ?_
  obtain ⟨x13, e14, h⟩ := Option.bind_eq_some_iff.mp h
  refine cx_iald k335_57 sk_206 e14 ?_
  obtain ⟨r15, e16, h⟩ := Option.bind_eq_some_iff.mp h
  refine cx_S (sk := []) (vs := [.ref 207, .int ((40 : Int32) * p1), .ref 207, .int ((40 : Int32) * p2), .int x13]) st_335_273 k335_58 ow_335 cl_12_228 (by decide) rfl (Nat.le_of_ble_eq_true rfl) (ok273 207 ((40 : Int32) * p1) 207 ((40 : Int32) * p2) x13 sk_207 sk_207 _ _ e16) (sk3 := []) rfl rfl ?_
  exact cx_retv k335_61 rt_335 h
theorem k334_0 : decode (gb 334) 0 = .ok (.aload_n 0, 1) := by decide +kernel
theorem k334_1 : decode (gb 334) 1 = .ok (.dup, 1) := by decide +kernel
theorem k334_2 : decode (gb 334) 2 = .ok (.getfield 402, 3) := by decide +kernel
theorem k334_5 : decode (gb 334) 5 = .ok (.iconst 1, 1) := by decide +kernel
theorem k334_6 : decode (gb 334) 6 = .ok (.isub, 1) := by decide +kernel
theorem k334_7 : decode (gb 334) 7 = .ok (.putfield 402, 3) := by decide +kernel
theorem k334_10 : decode (gb 334) 10 = .ok (.iload_n 1, 1) := by decide +kernel
theorem k334_11 : decode (gb 334) 11 = .ok (.istore_n 2, 1) := by decide +kernel
theorem k334_12 : decode (gb 334) 12 = .ok (.iload_n 2, 1) := by decide +kernel
theorem k334_13 : decode (gb 334) 13 = .ok (.aload_n 0, 1) := by decide +kernel
theorem k334_14 : decode (gb 334) 14 = .ok (.getfield 402, 3) := by decide +kernel
theorem k334_17 : decode (gb 334) 17 = .ok (.if_icmp .ge 17, 3) := by decide +kernel
theorem k334_20 : decode (gb 334) 20 = .ok (.aload_n 0, 1) := by decide +kernel
theorem k334_21 : decode (gb 334) 21 = .ok (.iload_n 2, 1) := by decide +kernel
theorem k334_22 : decode (gb 334) 22 = .ok (.iconst 1, 1) := by decide +kernel
theorem k334_23 : decode (gb 334) 23 = .ok (.iadd, 1) := by decide +kernel
theorem k334_24 : decode (gb 334) 24 = .ok (.iload_n 2, 1) := by decide +kernel
theorem k334_25 : decode (gb 334) 25 = .ok (.invokevirtual 643, 3) := by decide +kernel
theorem k334_28 : decode (gb 334) 28 = .ok (.iinc 2 1, 3) := by decide +kernel
theorem k334_31 : decode (gb 334) 31 = .ok (.goto (-19), 3) := by decide +kernel
theorem k334_34 : decode (gb 334) 34 = .ok (.return_, 1) := by decide +kernel
def b334_12 (kl12 : Int32 → Mem → Option (Mem)) (v2 : Int32) (μ : Mem) : Option (Mem) :=
  if (μ.1 129 130) ≤ v2 then
    some μ
  else
    (f335 (v2 + (1 : Int32)) v2 μ).bind fun r2 =>
    nm (v2 + (1 : Int32)) fun x4 =>
    kl12 x4 r2
theorem b334_12_ok {L : Nat} (kl12 : Int32 → Mem → Option (Mem)) (hk12 : (∀ (v2 : Int32) (μ : Mem) (res : Mem), kl12 v2 μ = some res → Sx 334 12 [(0, .ref 129), (2, .int v2)] [] 0 0 (mk L μ) (mk L res, none))) (v2 : Int32) (μ : Mem) (res : Mem) (h : b334_12 kl12 v2 μ = some res) : Sx 334 12 [(0, .ref 129), (2, .int v2)] [] 0 0 (mk L μ) (mk L res, none) := by
  unfold b334_12 at h
  refine sx_iload_n (i := 2) k334_12 rfl rfl ?_
  refine sx_aload_n (i := 0) k334_13 rfl rfl ?_
  refine cx_getI (k := 130) k334_14 ow_334 fl_12_402 (by decide) sk_129 ft_11_130 ?_
  by_cases hb1 : (μ.1 129 130) ≤ v2
  · rw [if_pos hb1] at h
    refine sx_icmp_ge (tgt := 34) k334_17 (by decide) (fun _ => ?_) (fun q => absurd hb1 q)
    exact cx_retv k334_34 rt_334 h
  · rw [if_neg hb1] at h
    refine sx_icmp_ge (tgt := 34) k334_17 (by decide) (fun q => absurd q hb1) (fun _ => ?_)
    refine sx_aload_n (i := 0) k334_20 rfl rfl ?_
    refine sx_iload_n (i := 2) k334_21 rfl rfl ?_
    refine sx_iconst (v := 1) k334_22 (by decide) ?_
    refine sx_iadd k334_23 ?_
    refine sx_iload_n (i := 2) k334_24 rfl rfl ?_
    obtain ⟨r2, e3, h⟩ := Option.bind_eq_some_iff.mp h
    refine cx_V (sk := []) (vs := [.int (v2 + (1 : Int32)), .int v2]) st_334_335 k334_25 ow_334 cl_12_643 (by decide) rfl (Nat.le_of_ble_eq_true rfl) sk_129 (ok335 (v2 + (1 : Int32)) v2 _ _ e3) (sk3 := []) rfl rfl ?_
    refine cx_iinc (c := 1) (lo2 := fun x4 => [(2, .int x4), (0, .ref 129)]) k334_28 rfl (by decide) (by rw [mx_334]; decide) (fun _ => rfl) h (fun x4 h => ?_)
    refine sx_goto (tgt := 12) k334_31 (by decide) ?_
    refine sx_pick (lo2 := [(0, .ref 129), (2, .int x4)]) [1, 0] rfl ?_
    exact hk12 x4 _ _ h
def l334_12 : Nat → Int32 × Mem → Option (Mem) :=
  fixN (fun self x => b334_12 (fun v2 μ => self (v2, μ)) (x.1) (x.2))
theorem l334_12_ok {L : Nat} (n : Nat) (v2 : Int32) (μ : Mem) (res : Mem) (h : l334_12 n (v2, μ) = some res) : Sx 334 12 [(0, .ref 129), (2, .int v2)] [] 0 0 (mk L μ) (mk L res, none) := by
  have key := fixN_ind (P := fun x res => Sx 334 12 [(0, .ref 129), (2, .int (x.1))] [] 0 0 (mk L (x.2)) (mk L res, none)) (F := fun self x => b334_12 (fun v2 μ => self (v2, μ)) (x.1) (x.2)) (fun self hself x res h => b334_12_ok (fun v2 μ => self (v2, μ)) (fun v2 μ res hh => hself (v2, μ) res hh) (x.1) (x.2) res h) n (v2, μ) res h
  exact key
/-- CraftHouseModel.dropEntry(I)V -/
def f334 (p1 : Int32) (μ : Mem) : Option (Mem) :=
  (pfI 129 130 ((μ.1 129 130) - (1 : Int32)) μ).bind fun m1 =>
  l334_12 gF (p1, m1)
theorem ok334 {L : Nat} (p1 : Int32) (μ : Mem) (res : Mem) (h : f334 p1 μ = some res) : Mx 334 [.ref 129, .int p1] (mk L μ) (mk L res, none) := by
  refine Mx_of ml_334 (by rw [mx_334]; exact Nat.le_of_ble_eq_true rfl) ?_
  show Sx 334 0 [(0, .ref 129), (1, .int p1)] [] 0 0 (mk L μ) _
  unfold f334 at h
  refine sx_aload_n (i := 0) k334_0 rfl rfl ?_
  refine sx_dup k334_1 rfl ?_
  refine cx_getI (k := 130) k334_2 ow_334 fl_12_402 (by decide) sk_129 ft_11_130 ?_
  refine sx_iconst (v := 1) k334_5 (by decide) ?_
  refine sx_isub k334_6 ?_
  obtain ⟨m1, e2, h⟩ := Option.bind_eq_some_iff.mp h
  refine cx_putI (k := 130) k334_7 ow_334 fl_12_402 (by decide) sk_129 nf_11_130 fu_11_130 e2 ?_
  refine sx_iload_n (i := 1) k334_10 rfl rfl ?_
  refine cx_istore_n (lo2 := [(2, .int p1), (0, .ref 129), (1, .int p1)]) k334_11 rfl (by rw [mx_334]; decide) rfl ?_
  refine sx_pick (lo2 := [(0, .ref 129), (2, .int p1)]) [1, 0] rfl ?_
  exact l334_12_ok gF p1 _ _ h
theorem k336_0 : decode (gb 336) 0 = .ok (.iload_n 1, 1) := by decide +kernel
theorem k336_1 : decode (gb 336) 1 = .ok (.tableswitch 367 1 16 #[79, 79, 96, 104, 222, 367, 367, 367, 367, 367, 367, 367, 367, 367, 243, 280], 79) := by decide +kernel
theorem k336_80 : decode (gb 336) 80 = .ok (.aload_n 0, 1) := by decide +kernel
theorem k336_81 : decode (gb 336) 81 = .ok (.iload_n 1, 1) := by decide +kernel
theorem k336_82 : decode (gb 336) 82 = .ok (.iconst 1, 1) := by decide +kernel
theorem k336_83 : decode (gb 336) 83 = .ok (.if_icmp .ne 7, 3) := by decide +kernel
theorem k336_86 : decode (gb 336) 86 = .ok (.iconst 1, 1) := by decide +kernel
theorem k336_87 : decode (gb 336) 87 = .ok (.goto 4, 3) := by decide +kernel
theorem k336_90 : decode (gb 336) 90 = .ok (.iconst 0, 1) := by decide +kernel
theorem k336_91 : decode (gb 336) 91 = .ok (.putfield 652, 3) := by decide +kernel
theorem k336_94 : decode (gb 336) 94 = .ok (.goto 291, 3) := by decide +kernel
theorem k336_97 : decode (gb 336) 97 = .ok (.aload_n 0, 1) := by decide +kernel
theorem k336_98 : decode (gb 336) 98 = .ok (.iconst 0, 1) := by decide +kernel
theorem k336_99 : decode (gb 336) 99 = .ok (.putfield 402, 3) := by decide +kernel
theorem k336_102 : decode (gb 336) 102 = .ok (.goto 283, 3) := by decide +kernel
theorem k336_105 : decode (gb 336) 105 = .ok (.aload_n 0, 1) := by decide +kernel
theorem k336_106 : decode (gb 336) 106 = .ok (.getfield 513, 3) := by decide +kernel
theorem k336_109 : decode (gb 336) 109 = .ok (.bipush 12, 2) := by decide +kernel
theorem k336_111 : decode (gb 336) 111 = .ok (.invokestatic 545, 3) := by decide +kernel
theorem k336_114 : decode (gb 336) 114 = .ok (.istore_n 3, 1) := by decide +kernel
theorem k336_115 : decode (gb 336) 115 = .ok (.aload_n 0, 1) := by decide +kernel
theorem k336_116 : decode (gb 336) 116 = .ok (.getfield 402, 3) := by decide +kernel
theorem k336_119 : decode (gb 336) 119 = .ok (.istore 4, 2) := by decide +kernel
theorem k336_121 : decode (gb 336) 121 = .ok (.iload 4, 2) := by decide +kernel
theorem k336_123 : decode (gb 336) 123 = .ok (.ifCond .le 32, 3) := by decide +kernel
theorem k336_126 : decode (gb 336) 126 = .ok (.aload_n 0, 1) := by decide +kernel
theorem k336_127 : decode (gb 336) 127 = .ok (.getfield 554, 3) := by decide +kernel
theorem k336_130 : decode (gb 336) 130 = .ok (.iload 4, 2) := by decide +kernel
theorem k336_132 : decode (gb 336) 132 = .ok (.iconst 1, 1) := by decide +kernel
theorem k336_133 : decode (gb 336) 133 = .ok (.isub, 1) := by decide +kernel
theorem k336_134 : decode (gb 336) 134 = .ok (.iaload, 1) := by decide +kernel
theorem k336_135 : decode (gb 336) 135 = .ok (.iload_n 3, 1) := by decide +kernel
theorem k336_136 : decode (gb 336) 136 = .ok (.if_icmp .le 19, 3) := by decide +kernel
theorem k336_139 : decode (gb 336) 139 = .ok (.aload_n 0, 1) := by decide +kernel
theorem k336_140 : decode (gb 336) 140 = .ok (.iload 4, 2) := by decide +kernel
theorem k336_142 : decode (gb 336) 142 = .ok (.iconst 1, 1) := by decide +kernel
theorem k336_143 : decode (gb 336) 143 = .ok (.isub, 1) := by decide +kernel
theorem k336_144 : decode (gb 336) 144 = .ok (.iload 4, 2) := by decide +kernel
theorem k336_146 : decode (gb 336) 146 = .ok (.invokevirtual 643, 3) := by decide +kernel
theorem k336_149 : decode (gb 336) 149 = .ok (.iinc 4 (-1), 3) := by decide +kernel
theorem k336_152 : decode (gb 336) 152 = .ok (.goto (-31), 3) := by decide +kernel
theorem k336_155 : decode (gb 336) 155 = .ok (.aload_n 0, 1) := by decide +kernel
theorem k336_156 : decode (gb 336) 156 = .ok (.getfield 554, 3) := by decide +kernel
theorem k336_159 : decode (gb 336) 159 = .ok (.iload 4, 2) := by decide +kernel
theorem k336_161 : decode (gb 336) 161 = .ok (.iload_n 3, 1) := by decide +kernel
theorem k336_162 : decode (gb 336) 162 = .ok (.iastore, 1) := by decide +kernel
theorem k336_163 : decode (gb 336) 163 = .ok (.aload_n 0, 1) := by decide +kernel
theorem k336_164 : decode (gb 336) 164 = .ok (.getfield 646, 3) := by decide +kernel
theorem k336_167 : decode (gb 336) 167 = .ok (.iload 4, 2) := by decide +kernel
theorem k336_169 : decode (gb 336) 169 = .ok (.iload_n 2, 1) := by decide +kernel
theorem k336_170 : decode (gb 336) 170 = .ok (.iastore, 1) := by decide +kernel
theorem k336_171 : decode (gb 336) 171 = .ok (.aload_n 0, 1) := by decide +kernel
theorem k336_172 : decode (gb 336) 172 = .ok (.getfield 649, 3) := by decide +kernel
theorem k336_175 : decode (gb 336) 175 = .ok (.iload 4, 2) := by decide +kernel
theorem k336_177 : decode (gb 336) 177 = .ok (.aload_n 0, 1) := by decide +kernel
theorem k336_178 : decode (gb 336) 178 = .ok (.getfield 507, 3) := by decide +kernel
theorem k336_181 : decode (gb 336) 181 = .ok (.bipush 18, 2) := by decide +kernel
theorem k336_183 : decode (gb 336) 183 = .ok (.isub, 1) := by decide +kernel
theorem k336_184 : decode (gb 336) 184 = .ok (.iastore, 1) := by decide +kernel
theorem k336_185 : decode (gb 336) 185 = .ok (.aload_n 0, 1) := by decide +kernel
theorem k336_186 : decode (gb 336) 186 = .ok (.getfield 513, 3) := by decide +kernel
theorem k336_189 : decode (gb 336) 189 = .ok (.bipush 16, 2) := by decide +kernel
theorem k336_191 : decode (gb 336) 191 = .ok (.aload_n 0, 1) := by decide +kernel
theorem k336_192 : decode (gb 336) 192 = .ok (.getfield 640, 3) := by decide +kernel
theorem k336_195 : decode (gb 336) 195 = .ok (.bipush 40, 2) := by decide +kernel
theorem k336_197 : decode (gb 336) 197 = .ok (.iload 4, 2) := by decide +kernel
theorem k336_199 : decode (gb 336) 199 = .ok (.imul, 1) := by decide +kernel
theorem k336_200 : decode (gb 336) 200 = .ok (.aload_n 0, 1) := by decide +kernel
theorem k336_201 : decode (gb 336) 201 = .ok (.getfield 649, 3) := by decide +kernel
theorem k336_204 : decode (gb 336) 204 = .ok (.iload 4, 2) := by decide +kernel
theorem k336_206 : decode (gb 336) 206 = .ok (.iaload, 1) := by decide +kernel
theorem k336_207 : decode (gb 336) 207 = .ok (.invokestatic 228, 3) := by decide +kernel
theorem k336_210 : decode (gb 336) 210 = .ok (.aload_n 0, 1) := by decide +kernel
theorem k336_211 : decode (gb 336) 211 = .ok (.dup, 1) := by decide +kernel
theorem k336_212 : decode (gb 336) 212 = .ok (.getfield 402, 3) := by decide +kernel
theorem k336_215 : decode (gb 336) 215 = .ok (.iconst 1, 1) := by decide +kernel
theorem k336_216 : decode (gb 336) 216 = .ok (.iadd, 1) := by decide +kernel
theorem k336_217 : decode (gb 336) 217 = .ok (.putfield 402, 3) := by decide +kernel
theorem k336_220 : decode (gb 336) 220 = .ok (.goto 165, 3) := by decide +kernel
theorem k336_223 : decode (gb 336) 223 = .ok (.aload_n 0, 1) := by decide +kernel
theorem k336_224 : decode (gb 336) 224 = .ok (.aload_n 0, 1) := by decide +kernel
theorem k336_225 : decode (gb 336) 225 = .ok (.aload_n 0, 1) := by decide +kernel
theorem k336_226 : decode (gb 336) 226 = .ok (.aload_n 0, 1) := by decide +kernel
theorem k336_227 : decode (gb 336) 227 = .ok (.getfield 513, 3) := by decide +kernel
theorem k336_230 : decode (gb 336) 230 = .ok (.bipush 11, 2) := by decide +kernel
theorem k336_232 : decode (gb 336) 232 = .ok (.invokevirtual 472, 3) := by decide +kernel
theorem k336_235 : decode (gb 336) 235 = .ok (.invokevirtual 551, 3) := by decide +kernel
theorem k336_238 : decode (gb 336) 238 = .ok (.invokevirtual 655, 3) := by decide +kernel
theorem k336_241 : decode (gb 336) 241 = .ok (.goto 144, 3) := by decide +kernel
theorem k336_244 : decode (gb 336) 244 = .ok (.iconst 0, 1) := by decide +kernel
theorem k336_245 : decode (gb 336) 245 = .ok (.istore_n 3, 1) := by decide +kernel
theorem k336_246 : decode (gb 336) 246 = .ok (.iload_n 3, 1) := by decide +kernel
theorem k336_247 : decode (gb 336) 247 = .ok (.aload_n 0, 1) := by decide +kernel
theorem k336_248 : decode (gb 336) 248 = .ok (.getfield 402, 3) := by decide +kernel
theorem k336_251 : decode (gb 336) 251 = .ok (.if_icmp .ge 27, 3) := by decide +kernel
theorem k336_254 : decode (gb 336) 254 = .ok (.aload_n 0, 1) := by decide +kernel
theorem k336_255 : decode (gb 336) 255 = .ok (.getfield 554, 3) := by decide +kernel
theorem k336_258 : decode (gb 336) 258 = .ok (.iload_n 3, 1) := by decide +kernel
theorem k336_259 : decode (gb 336) 259 = .ok (.dup2, 1) := by decide +kernel
theorem k336_260 : decode (gb 336) 260 = .ok (.iaload, 1) := by decide +kernel
theorem k336_261 : decode (gb 336) 261 = .ok (.aload_n 0, 1) := by decide +kernel
theorem k336_262 : decode (gb 336) 262 = .ok (.getfield 513, 3) := by decide +kernel
theorem k336_265 : decode (gb 336) 265 = .ok (.bipush 11, 2) := by decide +kernel
theorem k336_267 : decode (gb 336) 267 = .ok (.invokestatic 545, 3) := by decide +kernel
theorem k336_270 : decode (gb 336) 270 = .ok (.iadd, 1) := by decide +kernel
theorem k336_271 : decode (gb 336) 271 = .ok (.iastore, 1) := by decide +kernel
theorem k336_272 : decode (gb 336) 272 = .ok (.iinc 3 1, 3) := by decide +kernel
theorem k336_275 : decode (gb 336) 275 = .ok (.goto (-29), 3) := by decide +kernel
theorem k336_278 : decode (gb 336) 278 = .ok (.goto 107, 3) := by decide +kernel
theorem k336_281 : decode (gb 336) 281 = .ok (.aload_n 0, 1) := by decide +kernel
theorem k336_282 : decode (gb 336) 282 = .ok (.getfield 402, 3) := by decide +kernel
theorem k336_285 : decode (gb 336) 285 = .ok (.bipush 8, 2) := by decide +kernel
theorem k336_287 : decode (gb 336) 287 = .ok (.if_icmp .ge 10, 3) := by decide +kernel
theorem k336_290 : decode (gb 336) 290 = .ok (.aload_n 0, 1) := by decide +kernel
theorem k336_291 : decode (gb 336) 291 = .ok (.getfield 402, 3) := by decide +kernel
theorem k336_294 : decode (gb 336) 294 = .ok (.goto 5, 3) := by decide +kernel
theorem k336_297 : decode (gb 336) 297 = .ok (.bipush 8, 2) := by decide +kernel
theorem k336_299 : decode (gb 336) 299 = .ok (.istore_n 3, 1) := by decide +kernel
theorem k336_300 : decode (gb 336) 300 = .ok (.aload_n 0, 1) := by decide +kernel
theorem k336_301 : decode (gb 336) 301 = .ok (.iload_n 3, 1) := by decide +kernel
theorem k336_302 : decode (gb 336) 302 = .ok (.iconst 1, 1) := by decide +kernel
theorem k336_303 : decode (gb 336) 303 = .ok (.invokevirtual 501, 3) := by decide +kernel
theorem k336_306 : decode (gb 336) 306 = .ok (.iconst 0, 1) := by decide +kernel
theorem k336_307 : decode (gb 336) 307 = .ok (.istore 4, 2) := by decide +kernel
theorem k336_309 : decode (gb 336) 309 = .ok (.iload 4, 2) := by decide +kernel
theorem k336_311 : decode (gb 336) 311 = .ok (.iload_n 3, 1) := by decide +kernel
theorem k336_312 : decode (gb 336) 312 = .ok (.if_icmp .ge 45, 3) := by decide +kernel
theorem k336_315 : decode (gb 336) 315 = .ok (.aload_n 0, 1) := by decide +kernel
theorem k336_316 : decode (gb 336) 316 = .ok (.aload_n 0, 1) := by decide +kernel
theorem k336_317 : decode (gb 336) 317 = .ok (.getfield 554, 3) := by decide +kernel
theorem k336_320 : decode (gb 336) 320 = .ok (.iload 4, 2) := by decide +kernel
theorem k336_322 : decode (gb 336) 322 = .ok (.iaload, 1) := by decide +kernel
theorem k336_323 : decode (gb 336) 323 = .ok (.iconst 4, 1) := by decide +kernel
theorem k336_324 : decode (gb 336) 324 = .ok (.invokevirtual 501, 3) := by decide +kernel
theorem k336_327 : decode (gb 336) 327 = .ok (.aload_n 0, 1) := by decide +kernel
theorem k336_328 : decode (gb 336) 328 = .ok (.aload_n 0, 1) := by decide +kernel
theorem k336_329 : decode (gb 336) 329 = .ok (.aload_n 0, 1) := by decide +kernel
theorem k336_330 : decode (gb 336) 330 = .ok (.getfield 640, 3) := by decide +kernel
theorem k336_333 : decode (gb 336) 333 = .ok (.bipush 40, 2) := by decide +kernel
theorem k336_335 : decode (gb 336) 335 = .ok (.iload 4, 2) := by decide +kernel
theorem k336_337 : decode (gb 336) 337 = .ok (.imul, 1) := by decide +kernel
theorem k336_338 : decode (gb 336) 338 = .ok (.iconst 2, 1) := by decide +kernel
theorem k336_339 : decode (gb 336) 339 = .ok (.iadd, 1) := by decide +kernel
theorem k336_340 : decode (gb 336) 340 = .ok (.invokevirtual 472, 3) := by decide +kernel
theorem k336_343 : decode (gb 336) 343 = .ok (.sipush 16383, 3) := by decide +kernel
theorem k336_346 : decode (gb 336) 346 = .ok (.iand, 1) := by decide +kernel
theorem k336_347 : decode (gb 336) 347 = .ok (.iconst 2, 1) := by decide +kernel
theorem k336_348 : decode (gb 336) 348 = .ok (.invokevirtual 501, 3) := by decide +kernel
theorem k336_351 : decode (gb 336) 351 = .ok (.iinc 4 1, 3) := by decide +kernel
theorem k336_354 : decode (gb 336) 354 = .ok (.goto (-45), 3) := by decide +kernel
theorem k336_357 : decode (gb 336) 357 = .ok (.aload_n 0, 1) := by decide +kernel
theorem k336_358 : decode (gb 336) 358 = .ok (.bipush 11, 2) := by decide +kernel
theorem k336_360 : decode (gb 336) 360 = .ok (.bipush 17, 2) := by decide +kernel
theorem k336_362 : decode (gb 336) 362 = .ok (.invokevirtual 504, 3) := by decide +kernel
theorem k336_365 : decode (gb 336) 365 = .ok (.goto 20, 3) := by decide +kernel
theorem k336_368 : decode (gb 336) 368 = .ok (.aload_n 0, 1) := by decide +kernel
theorem k336_369 : decode (gb 336) 369 = .ok (.getfield 658, 3) := by decide +kernel
theorem k336_372 : decode (gb 336) 372 = .ok (.iload_n 2, 1) := by decide +kernel
theorem k336_373 : decode (gb 336) 373 = .ok (.iload_n 1, 1) := by decide +kernel
theorem k336_374 : decode (gb 336) 374 = .ok (.bipush 21, 2) := by decide +kernel
theorem k336_376 : decode (gb 336) 376 = .ok (.if_icmp .ne 7, 3) := by decide +kernel
theorem k336_379 : decode (gb 336) 379 = .ok (.iconst 1, 1) := by decide +kernel
theorem k336_380 : decode (gb 336) 380 = .ok (.goto 4, 3) := by decide +kernel
theorem k336_383 : decode (gb 336) 383 = .ok (.iconst 0, 1) := by decide +kernel
theorem k336_384 : decode (gb 336) 384 = .ok (.bastore, 1) := by decide +kernel
theorem k336_385 : decode (gb 336) 385 = .ok (.return_, 1) := by decide +kernel
def c336_91 (s1 : Int32) (μ : Mem) : Option (Mem) :=
  (pfZ 129 128 s1 μ).bind fun m1 =>
  some m1
theorem c336_91_ok {L : Nat} (s1 : Int32) (μ : Mem) (res : Mem) (h : c336_91 s1 μ = some res) : Sx 336 91 [] [.int s1, .ref 129] 0 0 (mk L μ) (mk L res, none) := by
  unfold c336_91 at h
  obtain ⟨m1, e2, h⟩ := Option.bind_eq_some_iff.mp h
  refine cx_putZ (k := 128) k336_91 ow_336 fl_12_652 (by decide) sk_129 nf_11_128 fu_11_128 e2 ?_
  refine sx_goto (tgt := 385) k336_94 (by decide) ?_
  exact cx_retv k336_385 rt_336 h
def c336_155 (v2 : Int32) (v3 : Int32) (v4 : Int32) (μ : Mem) : Option (Mem) :=
  (stA 204 v4 v3 μ).bind fun m1 =>
  (stA 205 v4 v2 m1).bind fun m3 =>
  (stA 206 v4 ((m3.1 129 106) - (18 : Int32)) m3).bind fun m5 =>
  (ldA 206 v4 m5).bind fun x7 =>
  (f273 182 (16 : Int32) 207 ((40 : Int32) * v4) x7 m5).bind fun r9 =>
  (pfI 129 130 ((r9.1 129 130) + (1 : Int32)) r9).bind fun m11 =>
  some m11
theorem c336_155_ok {L : Nat} (v2 : Int32) (v3 : Int32) (v4 : Int32) (μ : Mem) (res : Mem) (h : c336_155 v2 v3 v4 μ = some res) : Sx 336 155 [(0, .ref 129), (2, .int v2), (3, .int v3), (4, .int v4)] [] 0 0 (mk L μ) (mk L res, none) := by
  unfold c336_155 at h
  refine sx_aload_n (i := 0) k336_155 rfl rfl ?_
  refine cx_getR (k := 131) k336_156 ow_336 fl_12_554 (by decide) sk_129 ft_11_131 sr_129_131 ?_
  refine sx_iload k336_159 rfl ?_
  refine sx_iload_n (i := 3) k336_161 rfl rfl ?_
  obtain ⟨m1, e2, h⟩ := Option.bind_eq_some_iff.mp h
  refine cx_iast k336_162 sk_204 e2 ?_
  refine sx_aload_n (i := 0) k336_163 rfl rfl ?_
  refine cx_getR (k := 132) k336_164 ow_336 fl_12_646 (by decide) sk_129 ft_11_132 sr_129_132 ?_
  refine sx_iload k336_167 rfl ?_
  refine sx_iload_n (i := 2) k336_169 rfl rfl ?_
  obtain ⟨m3, e4, h⟩ := Option.bind_eq_some_iff.mp h
  refine cx_iast k336_170 sk_205 e4 ?_
  refine sx_aload_n (i := 0) k336_171 rfl rfl ?_
  refine cx_getR (k := 133) k336_172 ow_336 fl_12_649 (by decide) sk_129 ft_11_133 sr_129_133 ?_
  refine sx_iload k336_175 rfl ?_
  refine sx_aload_n (i := 0) k336_177 rfl rfl ?_
  refine cx_getI (k := 106) k336_178 ow_336 fl_12_507 (by decide) sk_129 ft_11_106 ?_
  refine sx_bipush (v := 18) k336_181 (by decide) ?_
  refine sx_isub k336_183 ?_
  obtain ⟨m5, e6, h⟩ := Option.bind_eq_some_iff.mp h
  refine cx_iast k336_184 sk_206 e6 ?_
  refine sx_aload_n (i := 0) k336_185 rfl rfl ?_
  refine cx_getR (k := 105) k336_186 ow_336 fl_12_513 (by decide) sk_129 ft_11_105 sr_129_105 ?_
  refine sx_bipush (v := 16) k336_189 (by decide) ?_
  refine sx_aload_n (i := 0) k336_191 rfl rfl ?_
  refine cx_getR (k := 134) k336_192 ow_336 fl_12_640 (by decide) sk_129 ft_11_134 sr_129_134 ?_
  refine sx_bipush (v := 40) k336_195 (by decide) ?_
  refine sx_iload k336_197 rfl ?_
  refine sx_imul k336_199 ?_
  refine sx_aload_n (i := 0) k336_200 rfl rfl ?_
  refine cx_getR (k := 133) k336_201 ow_336 fl_12_649 (by decide) sk_129 ft_11_133 sr_129_133 ?_
  refine sx_iload k336_204 rfl ?_
  obtain ⟨x7, e8, h⟩ := Option.bind_eq_some_iff.mp h
  refine cx_iald k336_206 sk_206 e8 ?_
  obtain ⟨r9, e10, h⟩ := Option.bind_eq_some_iff.mp h
  refine cx_S (sk := []) (vs := [.ref 182, .int (16 : Int32), .ref 207, .int ((40 : Int32) * v4), .int x7]) st_336_273 k336_207 ow_336 cl_12_228 (by decide) rfl (Nat.le_of_ble_eq_true rfl) (ok273 182 (16 : Int32) 207 ((40 : Int32) * v4) x7 sk_182 sk_207 _ _ e10) (sk3 := []) rfl rfl ?_
  refine sx_aload_n (i := 0) k336_210 rfl rfl ?_
  refine sx_dup k336_211 rfl ?_
  refine cx_getI (k := 130) k336_212 ow_336 fl_12_402 (by decide) sk_129 ft_11_130 ?_
  refine sx_iconst (v := 1) k336_215 (by decide) ?_
  refine sx_iadd k336_216 ?_
  obtain ⟨m11, e12, h⟩ := Option.bind_eq_some_iff.mp h
  refine cx_putI (k := 130) k336_217 ow_336 fl_12_402 (by decide) sk_129 nf_11_130 fu_11_130 e12 ?_
  refine sx_goto (tgt := 385) k336_220 (by decide) ?_
  exact cx_retv k336_385 rt_336 h
def b336_121 (kl121 : Int32 → Int32 → Int32 → Mem → Option (Mem)) (v2 : Int32) (v3 : Int32) (v4 : Int32) (μ : Mem) : Option (Mem) :=
  if v4 ≤ 0 then
    c336_155 v2 v3 v4 μ
  else
    (ldA 204 (v4 - (1 : Int32)) μ).bind fun x2 =>
    if x2 ≤ v3 then
      c336_155 v2 v3 v4 μ
    else
      (f335 (v4 - (1 : Int32)) v4 μ).bind fun r5 =>
      nm (v4 + (-1 : Int32)) fun x7 =>
      kl121 v2 v3 x7 r5
theorem b336_121_ok {L : Nat} (kl121 : Int32 → Int32 → Int32 → Mem → Option (Mem)) (hk121 : (∀ (v2 : Int32) (v3 : Int32) (v4 : Int32) (μ : Mem) (res : Mem), kl121 v2 v3 v4 μ = some res → Sx 336 121 [(0, .ref 129), (2, .int v2), (3, .int v3), (4, .int v4)] [] 0 0 (mk L μ) (mk L res, none))) (v2 : Int32) (v3 : Int32) (v4 : Int32) (μ : Mem) (res : Mem) (h : b336_121 kl121 v2 v3 v4 μ = some res) : Sx 336 121 [(0, .ref 129), (2, .int v2), (3, .int v3), (4, .int v4)] [] 0 0 (mk L μ) (mk L res, none) := by
  unfold b336_121 at h
  refine sx_iload k336_121 rfl ?_
  by_cases hb1 : v4 ≤ 0
  · rw [if_pos hb1] at h
    refine sx_if_le (tgt := 155) k336_123 (by decide) (fun _ => ?_) (fun q => absurd hb1 q)
    refine sx_pick (lo2 := [(0, .ref 129), (2, .int v2), (3, .int v3), (4, .int v4)]) [0, 1, 2, 3] rfl ?_
    exact c336_155_ok v2 v3 v4 _ _ h
  · rw [if_neg hb1] at h
    refine sx_if_le (tgt := 155) k336_123 (by decide) (fun q => absurd q hb1) (fun _ => ?_)
    refine sx_aload_n (i := 0) k336_126 rfl rfl ?_
    refine cx_getR (k := 131) k336_127 ow_336 fl_12_554 (by decide) sk_129 ft_11_131 sr_129_131 ?_
    refine sx_iload k336_130 rfl ?_
    refine sx_iconst (v := 1) k336_132 (by decide) ?_
    refine sx_isub k336_133 ?_
    obtain ⟨x2, e3, h⟩ := Option.bind_eq_some_iff.mp h
    refine cx_iald k336_134 sk_204 e3 ?_
    refine sx_iload_n (i := 3) k336_135 rfl rfl ?_
    by_cases hb4 : x2 ≤ v3
    · rw [if_pos hb4] at h
      refine sx_icmp_le (tgt := 155) k336_136 (by decide) (fun _ => ?_) (fun q => absurd hb4 q)
      refine sx_pick (lo2 := [(0, .ref 129), (2, .int v2), (3, .int v3), (4, .int v4)]) [0, 1, 2, 3] rfl ?_
      exact c336_155_ok v2 v3 v4 _ _ h
    · rw [if_neg hb4] at h
      refine sx_icmp_le (tgt := 155) k336_136 (by decide) (fun q => absurd q hb4) (fun _ => ?_)
      refine sx_aload_n (i := 0) k336_139 rfl rfl ?_
      refine sx_iload k336_140 rfl ?_
      refine sx_iconst (v := 1) k336_142 (by decide) ?_
      refine sx_isub k336_143 ?_
      refine sx_iload k336_144 rfl ?_
      obtain ⟨r5, e6, h⟩ := Option.bind_eq_some_iff.mp h
      refine cx_V (sk := []) (vs := [.int (v4 - (1 : Int32)), .int v4]) st_336_335 k336_146 ow_336 cl_12_643 (by decide) rfl (Nat.le_of_ble_eq_true rfl) sk_129 (ok335 (v4 - (1 : Int32)) v4 _ _ e6) (sk3 := []) rfl rfl ?_
      refine cx_iinc (c := -1) (lo2 := fun x7 => [(4, .int x7), (0, .ref 129), (2, .int v2), (3, .int v3)]) k336_149 rfl (by decide) (by rw [mx_336]; decide) (fun _ => rfl) h (fun x7 h => ?_)
      refine sx_goto (tgt := 121) k336_152 (by decide) ?_
      refine sx_pick (lo2 := [(0, .ref 129), (2, .int v2), (3, .int v3), (4, .int x7)]) [1, 2, 3, 0] rfl ?_
      exact hk121 v2 v3 x7 _ _ h
def l336_121 : Nat → Int32 × Int32 × Int32 × Mem → Option (Mem) :=
  fixN (fun self x => b336_121 (fun v2 v3 v4 μ => self (v2, v3, v4, μ)) (x.1) (x.2.1) (x.2.2.1) (x.2.2.2))
theorem l336_121_ok {L : Nat} (n : Nat) (v2 : Int32) (v3 : Int32) (v4 : Int32) (μ : Mem) (res : Mem) (h : l336_121 n (v2, v3, v4, μ) = some res) : Sx 336 121 [(0, .ref 129), (2, .int v2), (3, .int v3), (4, .int v4)] [] 0 0 (mk L μ) (mk L res, none) := by
  have key := fixN_ind (P := fun x res => Sx 336 121 [(0, .ref 129), (2, .int (x.1)), (3, .int (x.2.1)), (4, .int (x.2.2.1))] [] 0 0 (mk L (x.2.2.2)) (mk L res, none)) (F := fun self x => b336_121 (fun v2 v3 v4 μ => self (v2, v3, v4, μ)) (x.1) (x.2.1) (x.2.2.1) (x.2.2.2)) (fun self hself x res h => b336_121_ok (fun v2 v3 v4 μ => self (v2, v3, v4, μ)) (fun v2 v3 v4 μ res hh => hself (v2, v3, v4, μ) res hh) (x.1) (x.2.1) (x.2.2.1) (x.2.2.2) res h) n (v2, v3, v4, μ) res h
  exact key
def b336_246 (kl246 : Int32 → Mem → Option (Mem)) (v3 : Int32) (μ : Mem) : Option (Mem) :=
  if (μ.1 129 130) ≤ v3 then
    some μ
  else
    (ldA 204 v3 μ).bind fun x2 =>
    (f314 182 (11 : Int32) μ).bind fun r4 =>
    (stA 204 v3 (x2 + r4.2) r4.1).bind fun m6 =>
    nm (v3 + (1 : Int32)) fun x8 =>
    kl246 x8 m6
theorem b336_246_ok {L : Nat} (kl246 : Int32 → Mem → Option (Mem)) (hk246 : (∀ (v3 : Int32) (μ : Mem) (res : Mem), kl246 v3 μ = some res → Sx 336 246 [(0, .ref 129), (3, .int v3)] [] 0 0 (mk L μ) (mk L res, none))) (v3 : Int32) (μ : Mem) (res : Mem) (h : b336_246 kl246 v3 μ = some res) : Sx 336 246 [(0, .ref 129), (3, .int v3)] [] 0 0 (mk L μ) (mk L res, none) := by
  unfold b336_246 at h
  refine sx_iload_n (i := 3) k336_246 rfl rfl ?_
  refine sx_aload_n (i := 0) k336_247 rfl rfl ?_
  refine cx_getI (k := 130) k336_248 ow_336 fl_12_402 (by decide) sk_129 ft_11_130 ?_
  by_cases hb1 : (μ.1 129 130) ≤ v3
  · rw [if_pos hb1] at h
    refine sx_icmp_ge (tgt := 278) k336_251 (by decide) (fun _ => ?_) (fun q => absurd hb1 q)
    refine sx_goto (tgt := 385) k336_278 (by decide) ?_
    exact cx_retv k336_385 rt_336 h
  · rw [if_neg hb1] at h
    refine sx_icmp_ge (tgt := 278) k336_251 (by decide) (fun q => absurd q hb1) (fun _ => ?_)
    refine sx_aload_n (i := 0) k336_254 rfl rfl ?_
    refine cx_getR (k := 131) k336_255 ow_336 fl_12_554 (by decide) sk_129 ft_11_131 sr_129_131 ?_
    refine sx_iload_n (i := 3) k336_258 rfl rfl ?_
    refine sx_dup2 k336_259 rfl rfl ?_
    obtain ⟨x2, e3, h⟩ := Option.bind_eq_some_iff.mp h
    refine cx_iald k336_260 sk_204 e3 ?_
    refine sx_aload_n (i := 0) k336_261 rfl rfl ?_
    refine cx_getR (k := 105) k336_262 ow_336 fl_12_513 (by decide) sk_129 ft_11_105 sr_129_105 ?_
    refine sx_bipush (v := 11) k336_265 (by decide) ?_
    obtain ⟨r4, e5, h⟩ := Option.bind_eq_some_iff.mp h
    refine cx_S (sk := [.int x2, .int v3, .ref 204]) (vs := [.ref 182, .int (11 : Int32)]) st_336_314 k336_267 ow_336 cl_12_545 (by decide) rfl (Nat.le_of_ble_eq_true rfl) (ok314 182 (11 : Int32) sk_182 _ _ e5) (sk3 := [.int r4.2, .int x2, .int v3, .ref 204]) rfl rfl ?_
    refine sx_iadd k336_270 ?_
    obtain ⟨m6, e7, h⟩ := Option.bind_eq_some_iff.mp h
    refine cx_iast k336_271 sk_204 e7 ?_
    refine cx_iinc (c := 1) (lo2 := fun x8 => [(3, .int x8), (0, .ref 129)]) k336_272 rfl (by decide) (by rw [mx_336]; decide) (fun _ => rfl) h (fun x8 h => ?_)
    refine sx_goto (tgt := 246) k336_275 (by decide) ?_
    refine sx_pick (lo2 := [(0, .ref 129), (3, .int x8)]) [1, 0] rfl ?_
    exact hk246 x8 _ _ h
def l336_246 : Nat → Int32 × Mem → Option (Mem) :=
  fixN (fun self x => b336_246 (fun v3 μ => self (v3, μ)) (x.1) (x.2))
theorem l336_246_ok {L : Nat} (n : Nat) (v3 : Int32) (μ : Mem) (res : Mem) (h : l336_246 n (v3, μ) = some res) : Sx 336 246 [(0, .ref 129), (3, .int v3)] [] 0 0 (mk L μ) (mk L res, none) := by
  have key := fixN_ind (P := fun x res => Sx 336 246 [(0, .ref 129), (3, .int (x.1))] [] 0 0 (mk L (x.2)) (mk L res, none)) (F := fun self x => b336_246 (fun v3 μ => self (v3, μ)) (x.1) (x.2)) (fun self hself x res h => b336_246_ok (fun v3 μ => self (v3, μ)) (fun v3 μ res hh => hself (v3, μ) res hh) (x.1) (x.2) res h) n (v3, μ) res h
  exact key
def b336_309 (kl309 : Int32 → Int32 → Mem → Option (Mem)) (v3 : Int32) (v4 : Int32) (μ : Mem) : Option (Mem) :=
  if v3 ≤ v4 then
    (f305 (11 : Int32) (17 : Int32) μ).bind fun r2 =>
    some r2
  else
    (ldA 204 v4 μ).bind fun x4 =>
    (f303 x4 (4 : Int32) μ).bind fun r6 =>
    (f313 207 (((40 : Int32) * v4) + (2 : Int32)) r6).bind fun r8 =>
    (f303 (r8.2 &&& (16383 : Int32)) (2 : Int32) r8.1).bind fun r10 =>
    nm (v4 + (1 : Int32)) fun x12 =>
    kl309 v3 x12 r10
theorem b336_309_ok {L : Nat} (kl309 : Int32 → Int32 → Mem → Option (Mem)) (hk309 : (∀ (v3 : Int32) (v4 : Int32) (μ : Mem) (res : Mem), kl309 v3 v4 μ = some res → Sx 336 309 [(0, .ref 129), (3, .int v3), (4, .int v4)] [] 0 0 (mk L μ) (mk L res, none))) (v3 : Int32) (v4 : Int32) (μ : Mem) (res : Mem) (h : b336_309 kl309 v3 v4 μ = some res) : Sx 336 309 [(0, .ref 129), (3, .int v3), (4, .int v4)] [] 0 0 (mk L μ) (mk L res, none) := by
  unfold b336_309 at h
  refine sx_iload k336_309 rfl ?_
  refine sx_iload_n (i := 3) k336_311 rfl rfl ?_
  by_cases hb1 : v3 ≤ v4
  · rw [if_pos hb1] at h
    refine sx_icmp_ge (tgt := 357) k336_312 (by decide) (fun _ => ?_) (fun q => absurd hb1 q)
    refine sx_aload_n (i := 0) k336_357 rfl rfl ?_
    refine sx_bipush (v := 11) k336_358 (by decide) ?_
    refine sx_bipush (v := 17) k336_360 (by decide) ?_
    obtain ⟨r2, e3, h⟩ := Option.bind_eq_some_iff.mp h
    refine cx_V (sk := []) (vs := [.int (11 : Int32), .int (17 : Int32)]) st_336_305 k336_362 ow_336 cl_12_504 (by decide) rfl (Nat.le_of_ble_eq_true rfl) sk_129 (ok305 (11 : Int32) (17 : Int32) _ _ e3) (sk3 := []) rfl rfl ?_
    refine sx_goto (tgt := 385) k336_365 (by decide) ?_
    exact cx_retv k336_385 rt_336 h
  · rw [if_neg hb1] at h
    refine sx_icmp_ge (tgt := 357) k336_312 (by decide) (fun q => absurd q hb1) (fun _ => ?_)
    refine sx_aload_n (i := 0) k336_315 rfl rfl ?_
    refine sx_aload_n (i := 0) k336_316 rfl rfl ?_
    refine cx_getR (k := 131) k336_317 ow_336 fl_12_554 (by decide) sk_129 ft_11_131 sr_129_131 ?_
    refine sx_iload k336_320 rfl ?_
    obtain ⟨x4, e5, h⟩ := Option.bind_eq_some_iff.mp h
    refine cx_iald k336_322 sk_204 e5 ?_
    refine sx_iconst (v := 4) k336_323 (by decide) ?_
    obtain ⟨r6, e7, h⟩ := Option.bind_eq_some_iff.mp h
    refine cx_V (sk := []) (vs := [.int x4, .int (4 : Int32)]) st_336_303 k336_324 ow_336 cl_12_501 (by decide) rfl (Nat.le_of_ble_eq_true rfl) sk_129 (ok303 x4 (4 : Int32) _ _ e7) (sk3 := []) rfl rfl ?_
    refine sx_aload_n (i := 0) k336_327 rfl rfl ?_
    refine sx_aload_n (i := 0) k336_328 rfl rfl ?_
    refine sx_aload_n (i := 0) k336_329 rfl rfl ?_
    refine cx_getR (k := 134) k336_330 ow_336 fl_12_640 (by decide) sk_129 ft_11_134 sr_129_134 ?_
    refine sx_bipush (v := 40) k336_333 (by decide) ?_
    refine sx_iload k336_335 rfl ?_
    refine sx_imul k336_337 ?_
    refine sx_iconst (v := 2) k336_338 (by decide) ?_
    refine sx_iadd k336_339 ?_
    obtain ⟨r8, e9, h⟩ := Option.bind_eq_some_iff.mp h
    refine cx_V (sk := [.ref 129]) (vs := [.ref 207, .int (((40 : Int32) * v4) + (2 : Int32))]) st_336_313 k336_340 ow_336 cl_12_472 (by decide) rfl (Nat.le_of_ble_eq_true rfl) sk_129 (ok313 207 (((40 : Int32) * v4) + (2 : Int32)) sk_207 _ _ e9) (sk3 := [.int r8.2, .ref 129]) rfl rfl ?_
    refine sx_sipush (v := 16383) k336_343 (by decide) ?_
    refine sx_iand k336_346 ?_
    refine sx_iconst (v := 2) k336_347 (by decide) ?_
    obtain ⟨r10, e11, h⟩ := Option.bind_eq_some_iff.mp h
    refine cx_V (sk := []) (vs := [.int (r8.2 &&& (16383 : Int32)), .int (2 : Int32)]) st_336_303 k336_348 ow_336 cl_12_501 (by decide) rfl (Nat.le_of_ble_eq_true rfl) sk_129 (ok303 (r8.2 &&& (16383 : Int32)) (2 : Int32) _ _ e11) (sk3 := []) rfl rfl ?_
    refine cx_iinc (c := 1) (lo2 := fun x12 => [(4, .int x12), (0, .ref 129), (3, .int v3)]) k336_351 rfl (by decide) (by rw [mx_336]; decide) (fun _ => rfl) h (fun x12 h => ?_)
    refine sx_goto (tgt := 309) k336_354 (by decide) ?_
    refine sx_pick (lo2 := [(0, .ref 129), (3, .int v3), (4, .int x12)]) [1, 2, 0] rfl ?_
    exact hk309 v3 x12 _ _ h
def l336_309 : Nat → Int32 × Int32 × Mem → Option (Mem) :=
  fixN (fun self x => b336_309 (fun v3 v4 μ => self (v3, v4, μ)) (x.1) (x.2.1) (x.2.2))
theorem l336_309_ok {L : Nat} (n : Nat) (v3 : Int32) (v4 : Int32) (μ : Mem) (res : Mem) (h : l336_309 n (v3, v4, μ) = some res) : Sx 336 309 [(0, .ref 129), (3, .int v3), (4, .int v4)] [] 0 0 (mk L μ) (mk L res, none) := by
  have key := fixN_ind (P := fun x res => Sx 336 309 [(0, .ref 129), (3, .int (x.1)), (4, .int (x.2.1))] [] 0 0 (mk L (x.2.2)) (mk L res, none)) (F := fun self x => b336_309 (fun v3 v4 μ => self (v3, v4, μ)) (x.1) (x.2.1) (x.2.2)) (fun self hself x res h => b336_309_ok (fun v3 v4 μ => self (v3, v4, μ)) (fun v3 v4 μ res hh => hself (v3, v4, μ) res hh) (x.1) (x.2.1) (x.2.2) res h) n (v3, v4, μ) res h
  exact key
def c336_299 (s0 : Int32) (μ : Mem) : Option (Mem) :=
  (f303 s0 (1 : Int32) μ).bind fun r1 =>
  l336_309 gF (s0, (0 : Int32), r1)
theorem c336_299_ok {L : Nat} (s0 : Int32) (μ : Mem) (res : Mem) (h : c336_299 s0 μ = some res) : Sx 336 299 [(0, .ref 129)] [.int s0] 0 0 (mk L μ) (mk L res, none) := by
  unfold c336_299 at h
  refine cx_istore_n (lo2 := [(3, .int s0), (0, .ref 129)]) k336_299 rfl (by rw [mx_336]; decide) rfl ?_
  refine sx_aload_n (i := 0) k336_300 rfl rfl ?_
  refine sx_iload_n (i := 3) k336_301 rfl rfl ?_
  refine sx_iconst (v := 1) k336_302 (by decide) ?_
  obtain ⟨r1, e2, h⟩ := Option.bind_eq_some_iff.mp h
  refine cx_V (sk := []) (vs := [.int s0, .int (1 : Int32)]) st_336_303 k336_303 ow_336 cl_12_501 (by decide) rfl (Nat.le_of_ble_eq_true rfl) sk_129 (ok303 s0 (1 : Int32) _ _ e2) (sk3 := []) rfl rfl ?_
  refine sx_iconst (v := 0) k336_306 (by decide) ?_
  refine cx_istore (lo2 := [(4, .int (0 : Int32)), (3, .int s0), (0, .ref 129)]) k336_307 (by rw [mx_336]; decide) rfl ?_
  refine sx_pick (lo2 := [(0, .ref 129), (3, .int s0), (4, .int (0 : Int32))]) [2, 1, 0] rfl ?_
  exact l336_309_ok gF s0 (0 : Int32) _ _ h
def c336_384 (s1 : Int32) (s2 : Int32) (μ : Mem) : Option (Mem) :=
  (stZ 203 s1 s2 μ).bind fun m1 =>
  some m1
theorem c336_384_ok {L : Nat} (s1 : Int32) (s2 : Int32) (μ : Mem) (res : Mem) (h : c336_384 s1 s2 μ = some res) : Sx 336 384 [] [.int s2, .int s1, .ref 203] 0 0 (mk L μ) (mk L res, none) := by
  unfold c336_384 at h
  obtain ⟨m1, e2, h⟩ := Option.bind_eq_some_iff.mp h
  refine cx_zast k336_384 sk_203 e2 ?_
  exact cx_retv k336_385 rt_336 h
/-- CraftHouseModel.doesSchedule(II)V -/
def f336 (p1 : Int32) (p2 : Int32) (μ : Mem) : Option (Mem) :=
  if p1 = (1 : Int32) then
    if p1 = (1 : Int32) then
      c336_91 (1 : Int32) μ
    else
      c336_91 (0 : Int32) μ
  else if p1 = (2 : Int32) then
    if p1 = (1 : Int32) then
      c336_91 (1 : Int32) μ
    else
      c336_91 (0 : Int32) μ
  else if p1 = (3 : Int32) then
    (pfI 129 130 (0 : Int32) μ).bind fun m5 =>
    some m5
  else if p1 = (4 : Int32) then
    (f314 182 (12 : Int32) μ).bind fun r8 =>
    l336_121 gF (p2, r8.2, (r8.1.1 129 130), r8.1)
  else if p1 = (5 : Int32) then
    (f313 182 (11 : Int32) μ).bind fun r11 =>
    (f333 r11.2 r11.1).bind fun r13 =>
    (f334 r13.2 r13.1).bind fun r15 =>
    some r15
  else if p1 = (6 : Int32) then
    if p1 = (21 : Int32) then
      c336_384 p2 (1 : Int32) μ
    else
      c336_384 p2 (0 : Int32) μ
  else if p1 = (7 : Int32) then
    if p1 = (21 : Int32) then
      c336_384 p2 (1 : Int32) μ
    else
      c336_384 p2 (0 : Int32) μ
  else if p1 = (8 : Int32) then
    if p1 = (21 : Int32) then
      c336_384 p2 (1 : Int32) μ
    else
      c336_384 p2 (0 : Int32) μ
  else if p1 = (9 : Int32) then
    if p1 = (21 : Int32) then
      c336_384 p2 (1 : Int32) μ
    else
      c336_384 p2 (0 : Int32) μ
  else if p1 = (10 : Int32) then
    if p1 = (21 : Int32) then
      c336_384 p2 (1 : Int32) μ
    else
      c336_384 p2 (0 : Int32) μ
  else if p1 = (11 : Int32) then
    if p1 = (21 : Int32) then
      c336_384 p2 (1 : Int32) μ
    else
      c336_384 p2 (0 : Int32) μ
  else if p1 = (12 : Int32) then
    if p1 = (21 : Int32) then
      c336_384 p2 (1 : Int32) μ
    else
      c336_384 p2 (0 : Int32) μ
  else if p1 = (13 : Int32) then
    if p1 = (21 : Int32) then
      c336_384 p2 (1 : Int32) μ
    else
      c336_384 p2 (0 : Int32) μ
  else if p1 = (14 : Int32) then
    if p1 = (21 : Int32) then
      c336_384 p2 (1 : Int32) μ
    else
      c336_384 p2 (0 : Int32) μ
  else if p1 = (15 : Int32) then
    l336_246 gF ((0 : Int32), μ)
  else if p1 = (16 : Int32) then
    if (8 : Int32) ≤ (μ.1 129 130) then
      c336_299 (8 : Int32) μ
    else
      c336_299 (μ.1 129 130) μ
  else 
    if p1 = (21 : Int32) then
      c336_384 p2 (1 : Int32) μ
    else
      c336_384 p2 (0 : Int32) μ
theorem ok336 {L : Nat} (p1 : Int32) (p2 : Int32) (μ : Mem) (res : Mem) (h : f336 p1 p2 μ = some res) : Mx 336 [.ref 129, .int p1, .int p2] (mk L μ) (mk L res, none) := by
  refine Mx_of ml_336 (by rw [mx_336]; exact Nat.le_of_ble_eq_true rfl) ?_
  show Sx 336 0 [(0, .ref 129), (1, .int p1), (2, .int p2)] [] 0 0 (mk L μ) _
  unfold f336 at h
  refine sx_iload_n (i := 1) k336_0 rfl rfl ?_
  by_cases hb2 : p1 = (1 : Int32)
  · rw [if_pos hb2] at h
    refine sx_tableIn (off := 79) (tgt := 80) k336_1 (by rw [hb2]; decide) (by rw [hb2]; decide) (by rw [hb2]; rfl) (by decide) ?_
    refine sx_aload_n (i := 0) k336_80 rfl rfl ?_
    refine sx_iload_n (i := 1) k336_81 rfl rfl ?_
    refine sx_iconst (v := 1) k336_82 (by decide) ?_
    by_cases hb1 : p1 = (1 : Int32)
    · rw [if_pos hb1] at h
      refine sx_icmp_ne (tgt := 90) k336_83 (by decide) (fun q => absurd hb1 q) (fun _ => ?_)
      refine sx_iconst (v := 1) k336_86 (by decide) ?_
      refine sx_goto (tgt := 91) k336_87 (by decide) ?_
      refine sx_pick (lo2 := []) [] rfl ?_
      exact c336_91_ok (1 : Int32) _ _ h
    · rw [if_neg hb1] at h
      refine sx_icmp_ne (tgt := 90) k336_83 (by decide) (fun _ => ?_) (fun q => absurd q hb1)
      refine sx_iconst (v := 0) k336_90 (by decide) ?_
      refine sx_pick (lo2 := []) [] rfl ?_
      exact c336_91_ok (0 : Int32) _ _ h
  · rw [if_neg hb2] at h
    by_cases hb4 : p1 = (2 : Int32)
    · rw [if_pos hb4] at h
      refine sx_tableIn (off := 79) (tgt := 80) k336_1 (by rw [hb4]; decide) (by rw [hb4]; decide) (by rw [hb4]; rfl) (by decide) ?_
      refine sx_aload_n (i := 0) k336_80 rfl rfl ?_
      refine sx_iload_n (i := 1) k336_81 rfl rfl ?_
      refine sx_iconst (v := 1) k336_82 (by decide) ?_
      by_cases hb3 : p1 = (1 : Int32)
      · rw [if_pos hb3] at h
        refine sx_icmp_ne (tgt := 90) k336_83 (by decide) (fun q => absurd hb3 q) (fun _ => ?_)
        refine sx_iconst (v := 1) k336_86 (by decide) ?_
        refine sx_goto (tgt := 91) k336_87 (by decide) ?_
        refine sx_pick (lo2 := []) [] rfl ?_
        exact c336_91_ok (1 : Int32) _ _ h
      · rw [if_neg hb3] at h
        refine sx_icmp_ne (tgt := 90) k336_83 (by decide) (fun _ => ?_) (fun q => absurd q hb3)
        refine sx_iconst (v := 0) k336_90 (by decide) ?_
        refine sx_pick (lo2 := []) [] rfl ?_
        exact c336_91_ok (0 : Int32) _ _ h
    · rw [if_neg hb4] at h
      by_cases hb7 : p1 = (3 : Int32)
      · rw [if_pos hb7] at h
        refine sx_tableIn (off := 96) (tgt := 97) k336_1 (by rw [hb7]; decide) (by rw [hb7]; decide) (by rw [hb7]; rfl) (by decide) ?_
        refine sx_aload_n (i := 0) k336_97 rfl rfl ?_
        refine sx_iconst (v := 0) k336_98 (by decide) ?_
        obtain ⟨m5, e6, h⟩ := Option.bind_eq_some_iff.mp h
        refine cx_putI (k := 130) k336_99 ow_336 fl_12_402 (by decide) sk_129 nf_11_130 fu_11_130 e6 ?_
        refine sx_goto (tgt := 385) k336_102 (by decide) ?_
        exact cx_retv k336_385 rt_336 h
      · rw [if_neg hb7] at h
        by_cases hb10 : p1 = (4 : Int32)
        · rw [if_pos hb10] at h
          refine sx_tableIn (off := 104) (tgt := 105) k336_1 (by rw [hb10]; decide) (by rw [hb10]; decide) (by rw [hb10]; rfl) (by decide) ?_
          refine sx_aload_n (i := 0) k336_105 rfl rfl ?_
          refine cx_getR (k := 105) k336_106 ow_336 fl_12_513 (by decide) sk_129 ft_11_105 sr_129_105 ?_
          refine sx_bipush (v := 12) k336_109 (by decide) ?_
          obtain ⟨r8, e9, h⟩ := Option.bind_eq_some_iff.mp h
          refine cx_S (sk := []) (vs := [.ref 182, .int (12 : Int32)]) st_336_314 k336_111 ow_336 cl_12_545 (by decide) rfl (Nat.le_of_ble_eq_true rfl) (ok314 182 (12 : Int32) sk_182 _ _ e9) (sk3 := [.int r8.2]) rfl rfl ?_
          refine cx_istore_n (lo2 := [(3, .int r8.2), (0, .ref 129), (1, .int p1), (2, .int p2)]) k336_114 rfl (by rw [mx_336]; decide) rfl ?_
          refine sx_aload_n (i := 0) k336_115 rfl rfl ?_
          refine cx_getI (k := 130) k336_116 ow_336 fl_12_402 (by decide) sk_129 ft_11_130 ?_
          refine cx_istore (lo2 := [(4, .int (r8.1.1 129 130)), (3, .int r8.2), (0, .ref 129), (1, .int p1), (2, .int p2)]) k336_119 (by rw [mx_336]; decide) rfl ?_
          refine sx_pick (lo2 := [(0, .ref 129), (2, .int p2), (3, .int r8.2), (4, .int (r8.1.1 129 130))]) [2, 4, 1, 0] rfl ?_
          exact l336_121_ok gF p2 r8.2 (r8.1.1 129 130) _ _ h
        · rw [if_neg hb10] at h
          by_cases hb17 : p1 = (5 : Int32)
          · rw [if_pos hb17] at h
            refine sx_tableIn (off := 222) (tgt := 223) k336_1 (by rw [hb17]; decide) (by rw [hb17]; decide) (by rw [hb17]; rfl) (by decide) ?_
            refine sx_aload_n (i := 0) k336_223 rfl rfl ?_
            refine sx_aload_n (i := 0) k336_224 rfl rfl ?_
            refine sx_aload_n (i := 0) k336_225 rfl rfl ?_
            refine sx_aload_n (i := 0) k336_226 rfl rfl ?_
            refine cx_getR (k := 105) k336_227 ow_336 fl_12_513 (by decide) sk_129 ft_11_105 sr_129_105 ?_
            refine sx_bipush (v := 11) k336_230 (by decide) ?_
            obtain ⟨r11, e12, h⟩ := Option.bind_eq_some_iff.mp h
            refine cx_V (sk := [.ref 129, .ref 129]) (vs := [.ref 182, .int (11 : Int32)]) st_336_313 k336_232 ow_336 cl_12_472 (by decide) rfl (Nat.le_of_ble_eq_true rfl) sk_129 (ok313 182 (11 : Int32) sk_182 _ _ e12) (sk3 := [.int r11.2, .ref 129, .ref 129]) rfl rfl ?_
            obtain ⟨r13, e14, h⟩ := Option.bind_eq_some_iff.mp h
            refine cx_V (sk := [.ref 129]) (vs := [.int r11.2]) st_336_333 k336_235 ow_336 cl_12_551 (by decide) rfl (Nat.le_of_ble_eq_true rfl) sk_129 (ok333 r11.2 _ _ e14) (sk3 := [.int r13.2, .ref 129]) rfl rfl ?_
            obtain ⟨r15, e16, h⟩ := Option.bind_eq_some_iff.mp h
            refine cx_V (sk := []) (vs := [.int r13.2]) st_336_334 k336_238 ow_336 cl_12_655 (by decide) rfl (Nat.le_of_ble_eq_true rfl) sk_129 (ok334 r13.2 _ _ e16) (sk3 := []) rfl rfl ?_
            refine sx_goto (tgt := 385) k336_241 (by decide) ?_
            exact cx_retv k336_385 rt_336 h
          · rw [if_neg hb17] at h
            by_cases hb19 : p1 = (6 : Int32)
            · rw [if_pos hb19] at h
              refine sx_tableIn (off := 367) (tgt := 368) k336_1 (by rw [hb19]; decide) (by rw [hb19]; decide) (by rw [hb19]; rfl) (by decide) ?_
              refine sx_aload_n (i := 0) k336_368 rfl rfl ?_
              refine cx_getR (k := 129) k336_369 ow_336 fl_12_658 (by decide) sk_129 ft_11_129 sr_129_129 ?_
              refine sx_iload_n (i := 2) k336_372 rfl rfl ?_
              refine sx_iload_n (i := 1) k336_373 rfl rfl ?_
              refine sx_bipush (v := 21) k336_374 (by decide) ?_
              by_cases hb18 : p1 = (21 : Int32)
              · rw [if_pos hb18] at h
                refine sx_icmp_ne (tgt := 383) k336_376 (by decide) (fun q => absurd hb18 q) (fun _ => ?_)
                refine sx_iconst (v := 1) k336_379 (by decide) ?_
                refine sx_goto (tgt := 384) k336_380 (by decide) ?_
                refine sx_pick (lo2 := []) [] rfl ?_
                exact c336_384_ok p2 (1 : Int32) _ _ h
              · rw [if_neg hb18] at h
                refine sx_icmp_ne (tgt := 383) k336_376 (by decide) (fun _ => ?_) (fun q => absurd q hb18)
                refine sx_iconst (v := 0) k336_383 (by decide) ?_
                refine sx_pick (lo2 := []) [] rfl ?_
                exact c336_384_ok p2 (0 : Int32) _ _ h
            · rw [if_neg hb19] at h
              by_cases hb21 : p1 = (7 : Int32)
              · rw [if_pos hb21] at h
                refine sx_tableIn (off := 367) (tgt := 368) k336_1 (by rw [hb21]; decide) (by rw [hb21]; decide) (by rw [hb21]; rfl) (by decide) ?_
                refine sx_aload_n (i := 0) k336_368 rfl rfl ?_
                refine cx_getR (k := 129) k336_369 ow_336 fl_12_658 (by decide) sk_129 ft_11_129 sr_129_129 ?_
                refine sx_iload_n (i := 2) k336_372 rfl rfl ?_
                refine sx_iload_n (i := 1) k336_373 rfl rfl ?_
                refine sx_bipush (v := 21) k336_374 (by decide) ?_
                by_cases hb20 : p1 = (21 : Int32)
                · rw [if_pos hb20] at h
                  refine sx_icmp_ne (tgt := 383) k336_376 (by decide) (fun q => absurd hb20 q) (fun _ => ?_)
                  refine sx_iconst (v := 1) k336_379 (by decide) ?_
                  refine sx_goto (tgt := 384) k336_380 (by decide) ?_
                  refine sx_pick (lo2 := []) [] rfl ?_
                  exact c336_384_ok p2 (1 : Int32) _ _ h
                · rw [if_neg hb20] at h
                  refine sx_icmp_ne (tgt := 383) k336_376 (by decide) (fun _ => ?_) (fun q => absurd q hb20)
                  refine sx_iconst (v := 0) k336_383 (by decide) ?_
                  refine sx_pick (lo2 := []) [] rfl ?_
                  exact c336_384_ok p2 (0 : Int32) _ _ h
              · rw [if_neg hb21] at h
                by_cases hb23 : p1 = (8 : Int32)
                · rw [if_pos hb23] at h
                  refine sx_tableIn (off := 367) (tgt := 368) k336_1 (by rw [hb23]; decide) (by rw [hb23]; decide) (by rw [hb23]; rfl) (by decide) ?_
                  refine sx_aload_n (i := 0) k336_368 rfl rfl ?_
                  refine cx_getR (k := 129) k336_369 ow_336 fl_12_658 (by decide) sk_129 ft_11_129 sr_129_129 ?_
                  refine sx_iload_n (i := 2) k336_372 rfl rfl ?_
                  refine sx_iload_n (i := 1) k336_373 rfl rfl ?_
                  refine sx_bipush (v := 21) k336_374 (by decide) ?_
                  by_cases hb22 : p1 = (21 : Int32)
                  · rw [if_pos hb22] at h
                    refine sx_icmp_ne (tgt := 383) k336_376 (by decide) (fun q => absurd hb22 q) (fun _ => ?_)
                    refine sx_iconst (v := 1) k336_379 (by decide) ?_
                    refine sx_goto (tgt := 384) k336_380 (by decide) ?_
                    refine sx_pick (lo2 := []) [] rfl ?_
                    exact c336_384_ok p2 (1 : Int32) _ _ h
                  · rw [if_neg hb22] at h
                    refine sx_icmp_ne (tgt := 383) k336_376 (by decide) (fun _ => ?_) (fun q => absurd q hb22)
                    refine sx_iconst (v := 0) k336_383 (by decide) ?_
                    refine sx_pick (lo2 := []) [] rfl ?_
                    exact c336_384_ok p2 (0 : Int32) _ _ h
                · rw [if_neg hb23] at h
                  by_cases hb25 : p1 = (9 : Int32)
                  · rw [if_pos hb25] at h
                    refine sx_tableIn (off := 367) (tgt := 368) k336_1 (by rw [hb25]; decide) (by rw [hb25]; decide) (by rw [hb25]; rfl) (by decide) ?_
                    refine sx_aload_n (i := 0) k336_368 rfl rfl ?_
                    refine cx_getR (k := 129) k336_369 ow_336 fl_12_658 (by decide) sk_129 ft_11_129 sr_129_129 ?_
                    refine sx_iload_n (i := 2) k336_372 rfl rfl ?_
                    refine sx_iload_n (i := 1) k336_373 rfl rfl ?_
                    refine sx_bipush (v := 21) k336_374 (by decide) ?_
                    by_cases hb24 : p1 = (21 : Int32)
                    · rw [if_pos hb24] at h
                      refine sx_icmp_ne (tgt := 383) k336_376 (by decide) (fun q => absurd hb24 q) (fun _ => ?_)
                      refine sx_iconst (v := 1) k336_379 (by decide) ?_
                      refine sx_goto (tgt := 384) k336_380 (by decide) ?_
                      refine sx_pick (lo2 := []) [] rfl ?_
                      exact c336_384_ok p2 (1 : Int32) _ _ h
                    · rw [if_neg hb24] at h
                      refine sx_icmp_ne (tgt := 383) k336_376 (by decide) (fun _ => ?_) (fun q => absurd q hb24)
                      refine sx_iconst (v := 0) k336_383 (by decide) ?_
                      refine sx_pick (lo2 := []) [] rfl ?_
                      exact c336_384_ok p2 (0 : Int32) _ _ h
                  · rw [if_neg hb25] at h
                    by_cases hb27 : p1 = (10 : Int32)
                    · rw [if_pos hb27] at h
                      refine sx_tableIn (off := 367) (tgt := 368) k336_1 (by rw [hb27]; decide) (by rw [hb27]; decide) (by rw [hb27]; rfl) (by decide) ?_
                      refine sx_aload_n (i := 0) k336_368 rfl rfl ?_
                      refine cx_getR (k := 129) k336_369 ow_336 fl_12_658 (by decide) sk_129 ft_11_129 sr_129_129 ?_
                      refine sx_iload_n (i := 2) k336_372 rfl rfl ?_
                      refine sx_iload_n (i := 1) k336_373 rfl rfl ?_
                      refine sx_bipush (v := 21) k336_374 (by decide) ?_
                      by_cases hb26 : p1 = (21 : Int32)
                      · rw [if_pos hb26] at h
                        refine sx_icmp_ne (tgt := 383) k336_376 (by decide) (fun q => absurd hb26 q) (fun _ => ?_)
                        refine sx_iconst (v := 1) k336_379 (by decide) ?_
                        refine sx_goto (tgt := 384) k336_380 (by decide) ?_
                        refine sx_pick (lo2 := []) [] rfl ?_
                        exact c336_384_ok p2 (1 : Int32) _ _ h
                      · rw [if_neg hb26] at h
                        refine sx_icmp_ne (tgt := 383) k336_376 (by decide) (fun _ => ?_) (fun q => absurd q hb26)
                        refine sx_iconst (v := 0) k336_383 (by decide) ?_
                        refine sx_pick (lo2 := []) [] rfl ?_
                        exact c336_384_ok p2 (0 : Int32) _ _ h
                    · rw [if_neg hb27] at h
                      by_cases hb29 : p1 = (11 : Int32)
                      · rw [if_pos hb29] at h
                        refine sx_tableIn (off := 367) (tgt := 368) k336_1 (by rw [hb29]; decide) (by rw [hb29]; decide) (by rw [hb29]; rfl) (by decide) ?_
                        refine sx_aload_n (i := 0) k336_368 rfl rfl ?_
                        refine cx_getR (k := 129) k336_369 ow_336 fl_12_658 (by decide) sk_129 ft_11_129 sr_129_129 ?_
                        refine sx_iload_n (i := 2) k336_372 rfl rfl ?_
                        refine sx_iload_n (i := 1) k336_373 rfl rfl ?_
                        refine sx_bipush (v := 21) k336_374 (by decide) ?_
                        by_cases hb28 : p1 = (21 : Int32)
                        · rw [if_pos hb28] at h
                          refine sx_icmp_ne (tgt := 383) k336_376 (by decide) (fun q => absurd hb28 q) (fun _ => ?_)
                          refine sx_iconst (v := 1) k336_379 (by decide) ?_
                          refine sx_goto (tgt := 384) k336_380 (by decide) ?_
                          refine sx_pick (lo2 := []) [] rfl ?_
                          exact c336_384_ok p2 (1 : Int32) _ _ h
                        · rw [if_neg hb28] at h
                          refine sx_icmp_ne (tgt := 383) k336_376 (by decide) (fun _ => ?_) (fun q => absurd q hb28)
                          refine sx_iconst (v := 0) k336_383 (by decide) ?_
                          refine sx_pick (lo2 := []) [] rfl ?_
                          exact c336_384_ok p2 (0 : Int32) _ _ h
                      · rw [if_neg hb29] at h
                        by_cases hb31 : p1 = (12 : Int32)
                        · rw [if_pos hb31] at h
                          refine sx_tableIn (off := 367) (tgt := 368) k336_1 (by rw [hb31]; decide) (by rw [hb31]; decide) (by rw [hb31]; rfl) (by decide) ?_
                          refine sx_aload_n (i := 0) k336_368 rfl rfl ?_
                          refine cx_getR (k := 129) k336_369 ow_336 fl_12_658 (by decide) sk_129 ft_11_129 sr_129_129 ?_
                          refine sx_iload_n (i := 2) k336_372 rfl rfl ?_
                          refine sx_iload_n (i := 1) k336_373 rfl rfl ?_
                          refine sx_bipush (v := 21) k336_374 (by decide) ?_
                          by_cases hb30 : p1 = (21 : Int32)
                          · rw [if_pos hb30] at h
                            refine sx_icmp_ne (tgt := 383) k336_376 (by decide) (fun q => absurd hb30 q) (fun _ => ?_)
                            refine sx_iconst (v := 1) k336_379 (by decide) ?_
                            refine sx_goto (tgt := 384) k336_380 (by decide) ?_
                            refine sx_pick (lo2 := []) [] rfl ?_
                            exact c336_384_ok p2 (1 : Int32) _ _ h
                          · rw [if_neg hb30] at h
                            refine sx_icmp_ne (tgt := 383) k336_376 (by decide) (fun _ => ?_) (fun q => absurd q hb30)
                            refine sx_iconst (v := 0) k336_383 (by decide) ?_
                            refine sx_pick (lo2 := []) [] rfl ?_
                            exact c336_384_ok p2 (0 : Int32) _ _ h
                        · rw [if_neg hb31] at h
                          by_cases hb33 : p1 = (13 : Int32)
                          · rw [if_pos hb33] at h
                            refine sx_tableIn (off := 367) (tgt := 368) k336_1 (by rw [hb33]; decide) (by rw [hb33]; decide) (by rw [hb33]; rfl) (by decide) ?_
                            refine sx_aload_n (i := 0) k336_368 rfl rfl ?_
                            refine cx_getR (k := 129) k336_369 ow_336 fl_12_658 (by decide) sk_129 ft_11_129 sr_129_129 ?_
                            refine sx_iload_n (i := 2) k336_372 rfl rfl ?_
                            refine sx_iload_n (i := 1) k336_373 rfl rfl ?_
                            refine sx_bipush (v := 21) k336_374 (by decide) ?_
                            by_cases hb32 : p1 = (21 : Int32)
                            · rw [if_pos hb32] at h
                              refine sx_icmp_ne (tgt := 383) k336_376 (by decide) (fun q => absurd hb32 q) (fun _ => ?_)
                              refine sx_iconst (v := 1) k336_379 (by decide) ?_
                              refine sx_goto (tgt := 384) k336_380 (by decide) ?_
                              refine sx_pick (lo2 := []) [] rfl ?_
                              exact c336_384_ok p2 (1 : Int32) _ _ h
                            · rw [if_neg hb32] at h
                              refine sx_icmp_ne (tgt := 383) k336_376 (by decide) (fun _ => ?_) (fun q => absurd q hb32)
                              refine sx_iconst (v := 0) k336_383 (by decide) ?_
                              refine sx_pick (lo2 := []) [] rfl ?_
                              exact c336_384_ok p2 (0 : Int32) _ _ h
                          · rw [if_neg hb33] at h
                            by_cases hb35 : p1 = (14 : Int32)
                            · rw [if_pos hb35] at h
                              refine sx_tableIn (off := 367) (tgt := 368) k336_1 (by rw [hb35]; decide) (by rw [hb35]; decide) (by rw [hb35]; rfl) (by decide) ?_
                              refine sx_aload_n (i := 0) k336_368 rfl rfl ?_
                              refine cx_getR (k := 129) k336_369 ow_336 fl_12_658 (by decide) sk_129 ft_11_129 sr_129_129 ?_
                              refine sx_iload_n (i := 2) k336_372 rfl rfl ?_
                              refine sx_iload_n (i := 1) k336_373 rfl rfl ?_
                              refine sx_bipush (v := 21) k336_374 (by decide) ?_
                              by_cases hb34 : p1 = (21 : Int32)
                              · rw [if_pos hb34] at h
                                refine sx_icmp_ne (tgt := 383) k336_376 (by decide) (fun q => absurd hb34 q) (fun _ => ?_)
                                refine sx_iconst (v := 1) k336_379 (by decide) ?_
                                refine sx_goto (tgt := 384) k336_380 (by decide) ?_
                                refine sx_pick (lo2 := []) [] rfl ?_
                                exact c336_384_ok p2 (1 : Int32) _ _ h
                              · rw [if_neg hb34] at h
                                refine sx_icmp_ne (tgt := 383) k336_376 (by decide) (fun _ => ?_) (fun q => absurd q hb34)
                                refine sx_iconst (v := 0) k336_383 (by decide) ?_
                                refine sx_pick (lo2 := []) [] rfl ?_
                                exact c336_384_ok p2 (0 : Int32) _ _ h
                            · rw [if_neg hb35] at h
                              by_cases hb36 : p1 = (15 : Int32)
                              · rw [if_pos hb36] at h
                                refine sx_tableIn (off := 243) (tgt := 244) k336_1 (by rw [hb36]; decide) (by rw [hb36]; decide) (by rw [hb36]; rfl) (by decide) ?_
                                refine sx_iconst (v := 0) k336_244 (by decide) ?_
                                refine cx_istore_n (lo2 := [(3, .int (0 : Int32)), (0, .ref 129), (1, .int p1), (2, .int p2)]) k336_245 rfl (by rw [mx_336]; decide) rfl ?_
                                refine sx_pick (lo2 := [(0, .ref 129), (3, .int (0 : Int32))]) [1, 0] rfl ?_
                                exact l336_246_ok gF (0 : Int32) _ _ h
                              · rw [if_neg hb36] at h
                                by_cases hb38 : p1 = (16 : Int32)
                                · rw [if_pos hb38] at h
                                  refine sx_tableIn (off := 280) (tgt := 281) k336_1 (by rw [hb38]; decide) (by rw [hb38]; decide) (by rw [hb38]; rfl) (by decide) ?_
                                  refine sx_aload_n (i := 0) k336_281 rfl rfl ?_
                                  refine cx_getI (k := 130) k336_282 ow_336 fl_12_402 (by decide) sk_129 ft_11_130 ?_
                                  refine sx_bipush (v := 8) k336_285 (by decide) ?_
                                  by_cases hb37 : (8 : Int32) ≤ (μ.1 129 130)
                                  · rw [if_pos hb37] at h
                                    refine sx_icmp_ge (tgt := 297) k336_287 (by decide) (fun _ => ?_) (fun q => absurd hb37 q)
                                    refine sx_bipush (v := 8) k336_297 (by decide) ?_
                                    refine sx_pick (lo2 := [(0, .ref 129)]) [0] rfl ?_
                                    exact c336_299_ok (8 : Int32) _ _ h
                                  · rw [if_neg hb37] at h
                                    refine sx_icmp_ge (tgt := 297) k336_287 (by decide) (fun q => absurd q hb37) (fun _ => ?_)
                                    refine sx_aload_n (i := 0) k336_290 rfl rfl ?_
                                    refine cx_getI (k := 130) k336_291 ow_336 fl_12_402 (by decide) sk_129 ft_11_130 ?_
                                    refine sx_goto (tgt := 299) k336_294 (by decide) ?_
                                    refine sx_pick (lo2 := [(0, .ref 129)]) [0] rfl ?_
                                    exact c336_299_ok (μ.1 129 130) _ _ h
                                · rw [if_neg hb38] at h
                                  refine sx_tableOut (tgt := 368) k336_1 (sw_out (n := 16) (fun j hj => ?_)) (by decide) ?_
                                  · intro hj2
                                    exact sw_no [(1 : Int32), (2 : Int32), (3 : Int32), (4 : Int32), (5 : Int32), (6 : Int32), (7 : Int32), (8 : Int32), (9 : Int32), (10 : Int32), (11 : Int32), (12 : Int32), (13 : Int32), (14 : Int32), (15 : Int32), (16 : Int32)] (by decide) hj hj2 ⟨hb2, hb4, hb7, hb10, hb17, hb19, hb21, hb23, hb25, hb27, hb29, hb31, hb33, hb35, hb36, hb38, trivial⟩
                                  ·
                                    refine sx_aload_n (i := 0) k336_368 rfl rfl ?_
                                    refine cx_getR (k := 129) k336_369 ow_336 fl_12_658 (by decide) sk_129 ft_11_129 sr_129_129 ?_
                                    refine sx_iload_n (i := 2) k336_372 rfl rfl ?_
                                    refine sx_iload_n (i := 1) k336_373 rfl rfl ?_
                                    refine sx_bipush (v := 21) k336_374 (by decide) ?_
                                    by_cases hb39 : p1 = (21 : Int32)
                                    · rw [if_pos hb39] at h
                                      refine sx_icmp_ne (tgt := 383) k336_376 (by decide) (fun q => absurd hb39 q) (fun _ => ?_)
                                      refine sx_iconst (v := 1) k336_379 (by decide) ?_
                                      refine sx_goto (tgt := 384) k336_380 (by decide) ?_
                                      refine sx_pick (lo2 := []) [] rfl ?_
                                      exact c336_384_ok p2 (1 : Int32) _ _ h
                                    · rw [if_neg hb39] at h
                                      refine sx_icmp_ne (tgt := 383) k336_376 (by decide) (fun _ => ?_) (fun q => absurd q hb39)
                                      refine sx_iconst (v := 0) k336_383 (by decide) ?_
                                      refine sx_pick (lo2 := []) [] rfl ?_
                                      exact c336_384_ok p2 (0 : Int32) _ _ h
theorem k337_0 : decode (gb 337) 0 = .ok (.iload_n 1, 1) := by decide +kernel
theorem k337_1 : decode (gb 337) 1 = .ok (.bipush 12, 2) := by decide +kernel
theorem k337_3 : decode (gb 337) 3 = .ok (.if_icmp .ne 54, 3) := by decide +kernel
theorem k337_6 : decode (gb 337) 6 = .ok (.aload_n 0, 1) := by decide +kernel
theorem k337_7 : decode (gb 337) 7 = .ok (.getfield 444, 3) := by decide +kernel
theorem k337_10 : decode (gb 337) 10 = .ok (.iload_n 2, 1) := by decide +kernel
theorem k337_11 : decode (gb 337) 11 = .ok (.aload_n 0, 1) := by decide +kernel
theorem k337_12 : decode (gb 337) 12 = .ok (.getfield 513, 3) := by decide +kernel
theorem k337_15 : decode (gb 337) 15 = .ok (.bipush 12, 2) := by decide +kernel
theorem k337_17 : decode (gb 337) 17 = .ok (.iaload, 1) := by decide +kernel
theorem k337_18 : decode (gb 337) 18 = .ok (.iastore, 1) := by decide +kernel
theorem k337_19 : decode (gb 337) 19 = .ok (.aload_n 0, 1) := by decide +kernel
theorem k337_20 : decode (gb 337) 20 = .ok (.getfield 417, 3) := by decide +kernel
theorem k337_23 : decode (gb 337) 23 = .ok (.iload_n 2, 1) := by decide +kernel
theorem k337_24 : decode (gb 337) 24 = .ok (.iconst 0, 1) := by decide +kernel
theorem k337_25 : decode (gb 337) 25 = .ok (.bastore, 1) := by decide +kernel
theorem k337_26 : decode (gb 337) 26 = .ok (.aload_n 0, 1) := by decide +kernel
theorem k337_27 : decode (gb 337) 27 = .ok (.getfield 456, 3) := by decide +kernel
theorem k337_30 : decode (gb 337) 30 = .ok (.iload_n 2, 1) := by decide +kernel
theorem k337_31 : decode (gb 337) 31 = .ok (.iconst 0, 1) := by decide +kernel
theorem k337_32 : decode (gb 337) 32 = .ok (.iastore, 1) := by decide +kernel
theorem k337_33 : decode (gb 337) 33 = .ok (.aload_n 0, 1) := by decide +kernel
theorem k337_34 : decode (gb 337) 34 = .ok (.getfield 447, 3) := by decide +kernel
theorem k337_37 : decode (gb 337) 37 = .ok (.iload_n 2, 1) := by decide +kernel
theorem k337_38 : decode (gb 337) 38 = .ok (.iconst 0, 1) := by decide +kernel
theorem k337_39 : decode (gb 337) 39 = .ok (.iastore, 1) := by decide +kernel
theorem k337_40 : decode (gb 337) 40 = .ok (.aload_n 0, 1) := by decide +kernel
theorem k337_41 : decode (gb 337) 41 = .ok (.getfield 450, 3) := by decide +kernel
theorem k337_44 : decode (gb 337) 44 = .ok (.iload_n 2, 1) := by decide +kernel
theorem k337_45 : decode (gb 337) 45 = .ok (.iconst 0, 1) := by decide +kernel
theorem k337_46 : decode (gb 337) 46 = .ok (.iastore, 1) := by decide +kernel
theorem k337_47 : decode (gb 337) 47 = .ok (.aload_n 0, 1) := by decide +kernel
theorem k337_48 : decode (gb 337) 48 = .ok (.getfield 438, 3) := by decide +kernel
theorem k337_51 : decode (gb 337) 51 = .ok (.iload_n 2, 1) := by decide +kernel
theorem k337_52 : decode (gb 337) 52 = .ok (.iconst 0, 1) := by decide +kernel
theorem k337_53 : decode (gb 337) 53 = .ok (.iastore, 1) := by decide +kernel
theorem k337_54 : decode (gb 337) 54 = .ok (.goto 288, 3) := by decide +kernel
theorem k337_57 : decode (gb 337) 57 = .ok (.iload_n 1, 1) := by decide +kernel
theorem k337_58 : decode (gb 337) 58 = .ok (.iconst 1, 1) := by decide +kernel
theorem k337_59 : decode (gb 337) 59 = .ok (.if_icmp .eq 8, 3) := by decide +kernel
theorem k337_62 : decode (gb 337) 62 = .ok (.iload_n 1, 1) := by decide +kernel
theorem k337_63 : decode (gb 337) 63 = .ok (.iconst 2, 1) := by decide +kernel
theorem k337_64 : decode (gb 337) 64 = .ok (.if_icmp .ne 22, 3) := by decide +kernel
theorem k337_67 : decode (gb 337) 67 = .ok (.aload_n 0, 1) := by decide +kernel
theorem k337_68 : decode (gb 337) 68 = .ok (.getfield 417, 3) := by decide +kernel
theorem k337_71 : decode (gb 337) 71 = .ok (.iload_n 2, 1) := by decide +kernel
theorem k337_72 : decode (gb 337) 72 = .ok (.iload_n 1, 1) := by decide +kernel
theorem k337_73 : decode (gb 337) 73 = .ok (.iconst 1, 1) := by decide +kernel
theorem k337_74 : decode (gb 337) 74 = .ok (.if_icmp .ne 7, 3) := by decide +kernel
theorem k337_77 : decode (gb 337) 77 = .ok (.iconst 1, 1) := by decide +kernel
theorem k337_78 : decode (gb 337) 78 = .ok (.goto 4, 3) := by decide +kernel
theorem k337_81 : decode (gb 337) 81 = .ok (.iconst 0, 1) := by decide +kernel
theorem k337_82 : decode (gb 337) 82 = .ok (.bastore, 1) := by decide +kernel
theorem k337_83 : decode (gb 337) 83 = .ok (.goto 259, 3) := by decide +kernel
theorem k337_86 : decode (gb 337) 86 = .ok (.iload_n 1, 1) := by decide +kernel
theorem k337_87 : decode (gb 337) 87 = .ok (.iconst 3, 1) := by decide +kernel
theorem k337_88 : decode (gb 337) 88 = .ok (.if_icmp .ne 73, 3) := by decide +kernel
theorem k337_91 : decode (gb 337) 91 = .ok (.aload_n 0, 1) := by decide +kernel
theorem k337_92 : decode (gb 337) 92 = .ok (.iload_n 2, 1) := by decide +kernel
theorem k337_93 : decode (gb 337) 93 = .ok (.aload_n 0, 1) := by decide +kernel
theorem k337_94 : decode (gb 337) 94 = .ok (.getfield 513, 3) := by decide +kernel
theorem k337_97 : decode (gb 337) 97 = .ok (.bipush 12, 2) := by decide +kernel
theorem k337_99 : decode (gb 337) 99 = .ok (.iaload, 1) := by decide +kernel
theorem k337_100 : decode (gb 337) 100 = .ok (.aload_n 0, 1) := by decide +kernel
theorem k337_101 : decode (gb 337) 101 = .ok (.getfield 513, 3) := by decide +kernel
theorem k337_104 : decode (gb 337) 104 = .ok (.bipush 13, 2) := by decide +kernel
theorem k337_106 : decode (gb 337) 106 = .ok (.iaload, 1) := by decide +kernel
theorem k337_107 : decode (gb 337) 107 = .ok (.invokevirtual 420, 3) := by decide +kernel
theorem k337_110 : decode (gb 337) 110 = .ok (.ifCond .ne 232, 3) := by decide +kernel
theorem k337_113 : decode (gb 337) 113 = .ok (.aload_n 0, 1) := by decide +kernel
theorem k337_114 : decode (gb 337) 114 = .ok (.getfield 441, 3) := by decide +kernel
theorem k337_117 : decode (gb 337) 117 = .ok (.bipush 6, 2) := by decide +kernel
theorem k337_119 : decode (gb 337) 119 = .ok (.iload_n 2, 1) := by decide +kernel
theorem k337_120 : decode (gb 337) 120 = .ok (.imul, 1) := by decide +kernel
theorem k337_121 : decode (gb 337) 121 = .ok (.aload_n 0, 1) := by decide +kernel
theorem k337_122 : decode (gb 337) 122 = .ok (.getfield 438, 3) := by decide +kernel
theorem k337_125 : decode (gb 337) 125 = .ok (.iload_n 2, 1) := by decide +kernel
theorem k337_126 : decode (gb 337) 126 = .ok (.iaload, 1) := by decide +kernel
theorem k337_127 : decode (gb 337) 127 = .ok (.iadd, 1) := by decide +kernel
theorem k337_128 : decode (gb 337) 128 = .ok (.sipush 256, 3) := by decide +kernel
theorem k337_131 : decode (gb 337) 131 = .ok (.aload_n 0, 1) := by decide +kernel
theorem k337_132 : decode (gb 337) 132 = .ok (.getfield 513, 3) := by decide +kernel
theorem k337_135 : decode (gb 337) 135 = .ok (.bipush 12, 2) := by decide +kernel
theorem k337_137 : decode (gb 337) 137 = .ok (.iaload, 1) := by decide +kernel
theorem k337_138 : decode (gb 337) 138 = .ok (.imul, 1) := by decide +kernel
theorem k337_139 : decode (gb 337) 139 = .ok (.aload_n 0, 1) := by decide +kernel
theorem k337_140 : decode (gb 337) 140 = .ok (.getfield 513, 3) := by decide +kernel
theorem k337_143 : decode (gb 337) 143 = .ok (.bipush 13, 2) := by decide +kernel
theorem k337_145 : decode (gb 337) 145 = .ok (.iaload, 1) := by decide +kernel
theorem k337_146 : decode (gb 337) 146 = .ok (.iadd, 1) := by decide +kernel
theorem k337_147 : decode (gb 337) 147 = .ok (.iastore, 1) := by decide +kernel
theorem k337_148 : decode (gb 337) 148 = .ok (.aload_n 0, 1) := by decide +kernel
theorem k337_149 : decode (gb 337) 149 = .ok (.getfield 438, 3) := by decide +kernel
theorem k337_152 : decode (gb 337) 152 = .ok (.iload_n 2, 1) := by decide +kernel
theorem k337_153 : decode (gb 337) 153 = .ok (.dup2, 1) := by decide +kernel
theorem k337_154 : decode (gb 337) 154 = .ok (.iaload, 1) := by decide +kernel
theorem k337_155 : decode (gb 337) 155 = .ok (.iconst 1, 1) := by decide +kernel
theorem k337_156 : decode (gb 337) 156 = .ok (.iadd, 1) := by decide +kernel
theorem k337_157 : decode (gb 337) 157 = .ok (.iastore, 1) := by decide +kernel
theorem k337_158 : decode (gb 337) 158 = .ok (.goto 184, 3) := by decide +kernel
theorem k337_161 : decode (gb 337) 161 = .ok (.iload_n 1, 1) := by decide +kernel
theorem k337_162 : decode (gb 337) 162 = .ok (.bipush 9, 2) := by decide +kernel
theorem k337_164 : decode (gb 337) 164 = .ok (.if_icmp .ne 140, 3) := by decide +kernel
theorem k337_167 : decode (gb 337) 167 = .ok (.aload_n 0, 1) := by decide +kernel
theorem k337_168 : decode (gb 337) 168 = .ok (.iconst 0, 1) := by decide +kernel
theorem k337_169 : decode (gb 337) 169 = .ok (.putfield 559, 3) := by decide +kernel
theorem k337_172 : decode (gb 337) 172 = .ok (.iconst 0, 1) := by decide +kernel
theorem k337_173 : decode (gb 337) 173 = .ok (.istore_n 3, 1) := by decide +kernel
theorem k337_174 : decode (gb 337) 174 = .ok (.iload_n 3, 1) := by decide +kernel
theorem k337_175 : decode (gb 337) 175 = .ok (.aload_n 0, 1) := by decide +kernel
theorem k337_176 : decode (gb 337) 176 = .ok (.getfield 456, 3) := by decide +kernel
theorem k337_179 : decode (gb 337) 179 = .ok (.iload_n 2, 1) := by decide +kernel
theorem k337_180 : decode (gb 337) 180 = .ok (.iaload, 1) := by decide +kernel
theorem k337_181 : decode (gb 337) 181 = .ok (.if_icmp .ge 120, 3) := by decide +kernel
theorem k337_184 : decode (gb 337) 184 = .ok (.aload_n 0, 1) := by decide +kernel
theorem k337_185 : decode (gb 337) 185 = .ok (.getfield 559, 3) := by decide +kernel
theorem k337_188 : decode (gb 337) 188 = .ok (.bipush 40, 2) := by decide +kernel
theorem k337_190 : decode (gb 337) 190 = .ok (.if_icmp .ge 111, 3) := by decide +kernel
theorem k337_193 : decode (gb 337) 193 = .ok (.bipush 90, 2) := by decide +kernel
theorem k337_195 : decode (gb 337) 195 = .ok (.iload_n 2, 1) := by decide +kernel
theorem k337_196 : decode (gb 337) 196 = .ok (.imul, 1) := by decide +kernel
theorem k337_197 : decode (gb 337) 197 = .ok (.iload_n 3, 1) := by decide +kernel
theorem k337_198 : decode (gb 337) 198 = .ok (.iadd, 1) := by decide +kernel
theorem k337_199 : decode (gb 337) 199 = .ok (.istore 4, 2) := by decide +kernel
theorem k337_201 : decode (gb 337) 201 = .ok (.aload_n 0, 1) := by decide +kernel
theorem k337_202 : decode (gb 337) 202 = .ok (.getfield 465, 3) := by decide +kernel
theorem k337_205 : decode (gb 337) 205 = .ok (.iload 4, 2) := by decide +kernel
theorem k337_207 : decode (gb 337) 207 = .ok (.iaload, 1) := by decide +kernel
theorem k337_208 : decode (gb 337) 208 = .ok (.aload_n 0, 1) := by decide +kernel
theorem k337_209 : decode (gb 337) 209 = .ok (.getfield 513, 3) := by decide +kernel
theorem k337_212 : decode (gb 337) 212 = .ok (.bipush 12, 2) := by decide +kernel
theorem k337_214 : decode (gb 337) 214 = .ok (.invokestatic 545, 3) := by decide +kernel
theorem k337_217 : decode (gb 337) 217 = .ok (.if_icmp .lt 78, 3) := by decide +kernel
theorem k337_220 : decode (gb 337) 220 = .ok (.aload_n 0, 1) := by decide +kernel
theorem k337_221 : decode (gb 337) 221 = .ok (.getfield 465, 3) := by decide +kernel
theorem k337_224 : decode (gb 337) 224 = .ok (.iload 4, 2) := by decide +kernel
theorem k337_226 : decode (gb 337) 226 = .ok (.iaload, 1) := by decide +kernel
theorem k337_227 : decode (gb 337) 227 = .ok (.aload_n 0, 1) := by decide +kernel
theorem k337_228 : decode (gb 337) 228 = .ok (.getfield 513, 3) := by decide +kernel
theorem k337_231 : decode (gb 337) 231 = .ok (.bipush 16, 2) := by decide +kernel
theorem k337_233 : decode (gb 337) 233 = .ok (.invokestatic 545, 3) := by decide +kernel
theorem k337_236 : decode (gb 337) 236 = .ok (.if_icmp .gt 59, 3) := by decide +kernel
theorem k337_239 : decode (gb 337) 239 = .ok (.aload_n 0, 1) := by decide +kernel
theorem k337_240 : decode (gb 337) 240 = .ok (.getfield 661, 3) := by decide +kernel
theorem k337_243 : decode (gb 337) 243 = .ok (.aload_n 0, 1) := by decide +kernel
theorem k337_244 : decode (gb 337) 244 = .ok (.getfield 559, 3) := by decide +kernel
theorem k337_247 : decode (gb 337) 247 = .ok (.aload_n 0, 1) := by decide +kernel
theorem k337_248 : decode (gb 337) 248 = .ok (.getfield 462, 3) := by decide +kernel
theorem k337_251 : decode (gb 337) 251 = .ok (.iload 4, 2) := by decide +kernel
theorem k337_253 : decode (gb 337) 253 = .ok (.iaload, 1) := by decide +kernel
theorem k337_254 : decode (gb 337) 254 = .ok (.iastore, 1) := by decide +kernel
theorem k337_255 : decode (gb 337) 255 = .ok (.aload_n 0, 1) := by decide +kernel
theorem k337_256 : decode (gb 337) 256 = .ok (.getfield 459, 3) := by decide +kernel
theorem k337_259 : decode (gb 337) 259 = .ok (.bipush 100, 2) := by decide +kernel
theorem k337_261 : decode (gb 337) 261 = .ok (.iload 4, 2) := by decide +kernel
theorem k337_263 : decode (gb 337) 263 = .ok (.imul, 1) := by decide +kernel
theorem k337_264 : decode (gb 337) 264 = .ok (.aload_n 0, 1) := by decide +kernel
theorem k337_265 : decode (gb 337) 265 = .ok (.getfield 664, 3) := by decide +kernel
theorem k337_268 : decode (gb 337) 268 = .ok (.bipush 100, 2) := by decide +kernel
theorem k337_270 : decode (gb 337) 270 = .ok (.aload_n 0, 1) := by decide +kernel
theorem k337_271 : decode (gb 337) 271 = .ok (.getfield 559, 3) := by decide +kernel
theorem k337_274 : decode (gb 337) 274 = .ok (.imul, 1) := by decide +kernel
theorem k337_275 : decode (gb 337) 275 = .ok (.aload_n 0, 1) := by decide +kernel
theorem k337_276 : decode (gb 337) 276 = .ok (.getfield 462, 3) := by decide +kernel
theorem k337_279 : decode (gb 337) 279 = .ok (.iload 4, 2) := by decide +kernel
theorem k337_281 : decode (gb 337) 281 = .ok (.iaload, 1) := by decide +kernel
theorem k337_282 : decode (gb 337) 282 = .ok (.invokestatic 228, 3) := by decide +kernel
theorem k337_285 : decode (gb 337) 285 = .ok (.aload_n 0, 1) := by decide +kernel
theorem k337_286 : decode (gb 337) 286 = .ok (.dup, 1) := by decide +kernel
theorem k337_287 : decode (gb 337) 287 = .ok (.getfield 559, 3) := by decide +kernel
theorem k337_290 : decode (gb 337) 290 = .ok (.iconst 1, 1) := by decide +kernel
theorem k337_291 : decode (gb 337) 291 = .ok (.iadd, 1) := by decide +kernel
theorem k337_292 : decode (gb 337) 292 = .ok (.putfield 559, 3) := by decide +kernel
theorem k337_295 : decode (gb 337) 295 = .ok (.iinc 3 1, 3) := by decide +kernel
theorem k337_298 : decode (gb 337) 298 = .ok (.goto (-124), 3) := by decide +kernel
theorem k337_301 : decode (gb 337) 301 = .ok (.goto 41, 3) := by decide +kernel
theorem k337_304 : decode (gb 337) 304 = .ok (.aload_n 0, 1) := by decide +kernel
theorem k337_305 : decode (gb 337) 305 = .ok (.getfield 456, 3) := by decide +kernel
theorem k337_308 : decode (gb 337) 308 = .ok (.iload_n 2, 1) := by decide +kernel
theorem k337_309 : decode (gb 337) 309 = .ok (.iaload, 1) := by decide +kernel
theorem k337_310 : decode (gb 337) 310 = .ok (.ifCond .le 32, 3) := by decide +kernel
theorem k337_313 : decode (gb 337) 313 = .ok (.aload_n 0, 1) := by decide +kernel
theorem k337_314 : decode (gb 337) 314 = .ok (.getfield 465, 3) := by decide +kernel
theorem k337_317 : decode (gb 337) 317 = .ok (.bipush 90, 2) := by decide +kernel
theorem k337_319 : decode (gb 337) 319 = .ok (.iload_n 2, 1) := by decide +kernel
theorem k337_320 : decode (gb 337) 320 = .ok (.imul, 1) := by decide +kernel
theorem k337_321 : decode (gb 337) 321 = .ok (.iaload, 1) := by decide +kernel
theorem k337_322 : decode (gb 337) 322 = .ok (.aload_n 0, 1) := by decide +kernel
theorem k337_323 : decode (gb 337) 323 = .ok (.getfield 513, 3) := by decide +kernel
theorem k337_326 : decode (gb 337) 326 = .ok (.bipush 12, 2) := by decide +kernel
theorem k337_328 : decode (gb 337) 328 = .ok (.invokestatic 545, 3) := by decide +kernel
theorem k337_331 : decode (gb 337) 331 = .ok (.if_icmp .gt 11, 3) := by decide +kernel
theorem k337_334 : decode (gb 337) 334 = .ok (.aload_n 0, 1) := by decide +kernel
theorem k337_335 : decode (gb 337) 335 = .ok (.iload_n 2, 1) := by decide +kernel
theorem k337_336 : decode (gb 337) 336 = .ok (.invokevirtual 453, 3) := by decide +kernel
theorem k337_339 : decode (gb 337) 339 = .ok (.goto (-35), 3) := by decide +kernel
theorem k337_342 : decode (gb 337) 342 = .ok (.return_, 1) := by decide +kernel
def c337_82 (s1 : Int32) (s2 : Int32) (μ : Mem) : Option (Mem) :=
  (stZ 170 s1 s2 μ).bind fun m1 =>
  some m1
theorem c337_82_ok {L : Nat} (s1 : Int32) (s2 : Int32) (μ : Mem) (res : Mem) (h : c337_82 s1 s2 μ = some res) : Sx 337 82 [] [.int s2, .int s1, .ref 170] 0 0 (mk L μ) (mk L res, none) := by
  unfold c337_82 at h
  obtain ⟨m1, e2, h⟩ := Option.bind_eq_some_iff.mp h
  refine cx_zast k337_82 sk_170 e2 ?_
  refine sx_goto (tgt := 342) k337_83 (by decide) ?_
  exact cx_retv k337_342 rt_337 h
def c337_67 (v1 : Int32) (v2 : Int32) (μ : Mem) : Option (Mem) :=
  if v1 = (1 : Int32) then
    c337_82 v2 (1 : Int32) μ
  else
    c337_82 v2 (0 : Int32) μ
theorem c337_67_ok {L : Nat} (v1 : Int32) (v2 : Int32) (μ : Mem) (res : Mem) (h : c337_67 v1 v2 μ = some res) : Sx 337 67 [(0, .ref 129), (1, .int v1), (2, .int v2)] [] 0 0 (mk L μ) (mk L res, none) := by
  unfold c337_67 at h
  refine sx_aload_n (i := 0) k337_67 rfl rfl ?_
  refine cx_getR (k := 92) k337_68 ow_337 fl_12_417 (by decide) sk_129 ft_11_92 sr_129_92 ?_
  refine sx_iload_n (i := 2) k337_71 rfl rfl ?_
  refine sx_iload_n (i := 1) k337_72 rfl rfl ?_
  refine sx_iconst (v := 1) k337_73 (by decide) ?_
  by_cases hb1 : v1 = (1 : Int32)
  · rw [if_pos hb1] at h
    refine sx_icmp_ne (tgt := 81) k337_74 (by decide) (fun q => absurd hb1 q) (fun _ => ?_)
    refine sx_iconst (v := 1) k337_77 (by decide) ?_
    refine sx_goto (tgt := 82) k337_78 (by decide) ?_
    refine sx_pick (lo2 := []) [] rfl ?_
    exact c337_82_ok v2 (1 : Int32) _ _ h
  · rw [if_neg hb1] at h
    refine sx_icmp_ne (tgt := 81) k337_74 (by decide) (fun _ => ?_) (fun q => absurd q hb1)
    refine sx_iconst (v := 0) k337_81 (by decide) ?_
    refine sx_pick (lo2 := []) [] rfl ?_
    exact c337_82_ok v2 (0 : Int32) _ _ h
def c337_295 (kl174 : Int32 → Int32 → Mem → Option (Mem)) (v2 : Int32) (v3 : Int32) (μ : Mem) : Option (Mem) :=
  nm (v3 + (1 : Int32)) fun x1 =>
  kl174 v2 x1 μ
theorem c337_295_ok {L : Nat} (kl174 : Int32 → Int32 → Mem → Option (Mem)) (hk174 : (∀ (v2 : Int32) (v3 : Int32) (μ : Mem) (res : Mem), kl174 v2 v3 μ = some res → Sx 337 174 [(0, .ref 129), (2, .int v2), (3, .int v3)] [] 0 0 (mk L μ) (mk L res, none))) (v2 : Int32) (v3 : Int32) (μ : Mem) (res : Mem) (h : c337_295 kl174 v2 v3 μ = some res) : Sx 337 295 [(0, .ref 129), (2, .int v2), (3, .int v3)] [] 0 0 (mk L μ) (mk L res, none) := by
  unfold c337_295 at h
  refine cx_iinc (c := 1) (lo2 := fun x1 => [(3, .int x1), (0, .ref 129), (2, .int v2)]) k337_295 rfl (by decide) (by rw [mx_337]; decide) (fun _ => rfl) h (fun x1 h => ?_)
  refine sx_goto (tgt := 174) k337_298 (by decide) ?_
  refine sx_pick (lo2 := [(0, .ref 129), (2, .int v2), (3, .int x1)]) [1, 2, 0] rfl ?_
  exact hk174 v2 x1 _ _ h
def c337_301 (μ : Mem) : Option (Mem) :=
  some μ
theorem c337_301_ok {L : Nat} (μ : Mem) (res : Mem) (h : c337_301 μ = some res) : Sx 337 301 [] [] 0 0 (mk L μ) (mk L res, none) := by
  unfold c337_301 at h
  refine sx_goto (tgt := 342) k337_301 (by decide) ?_
  exact cx_retv k337_342 rt_337 h
def b337_174 (kl174 : Int32 → Int32 → Mem → Option (Mem)) (v2 : Int32) (v3 : Int32) (μ : Mem) : Option (Mem) :=
  (ldA 171 v2 μ).bind fun x1 =>
  if x1 ≤ v3 then
    c337_301 μ
  else
    if (40 : Int32) ≤ (μ.1 129 90) then
      c337_301 μ
    else
      nm (((90 : Int32) * v2) + v3) fun x5 =>
      (ldA 178 x5 μ).bind fun x6 =>
      (f314 182 (12 : Int32) μ).bind fun r8 =>
      if x6 < r8.2 then
        c337_295 kl174 v2 v3 r8.1
      else
        (ldA 178 x5 r8.1).bind fun x11 =>
        (f314 182 (16 : Int32) r8.1).bind fun r13 =>
        if r13.2 < x11 then
          c337_295 kl174 v2 v3 r13.1
        else
          (ldA 177 x5 r13.1).bind fun x16 =>
          (stA 168 (r13.1.1 129 90) x16 r13.1).bind fun m18 =>
          (ldA 177 x5 m18).bind fun x20 =>
          (f273 176 ((100 : Int32) * x5) 167 ((100 : Int32) * (m18.1 129 90)) x20 m18).bind fun r22 =>
          (pfI 129 90 ((r22.1 129 90) + (1 : Int32)) r22).bind fun m24 =>
          c337_295 kl174 v2 v3 m24
theorem b337_174_ok {L : Nat} (kl174 : Int32 → Int32 → Mem → Option (Mem)) (hk174 : (∀ (v2 : Int32) (v3 : Int32) (μ : Mem) (res : Mem), kl174 v2 v3 μ = some res → Sx 337 174 [(0, .ref 129), (2, .int v2), (3, .int v3)] [] 0 0 (mk L μ) (mk L res, none))) (v2 : Int32) (v3 : Int32) (μ : Mem) (res : Mem) (h : b337_174 kl174 v2 v3 μ = some res) : Sx 337 174 [(0, .ref 129), (2, .int v2), (3, .int v3)] [] 0 0 (mk L μ) (mk L res, none) := by
  unfold b337_174 at h
  refine sx_iload_n (i := 3) k337_174 rfl rfl ?_
  refine sx_aload_n (i := 0) k337_175 rfl rfl ?_
  refine cx_getR (k := 93) k337_176 ow_337 fl_12_456 (by decide) sk_129 ft_11_93 sr_129_93 ?_
  refine sx_iload_n (i := 2) k337_179 rfl rfl ?_
  obtain ⟨x1, e2, h⟩ := Option.bind_eq_some_iff.mp h
  refine cx_iald k337_180 sk_171 e2 ?_
  by_cases hb3 : x1 ≤ v3
  · rw [if_pos hb3] at h
    refine sx_icmp_ge (tgt := 301) k337_181 (by decide) (fun _ => ?_) (fun q => absurd hb3 q)
    refine sx_pick (lo2 := []) [] rfl ?_
    exact c337_301_ok _ _ h
  · rw [if_neg hb3] at h
    refine sx_icmp_ge (tgt := 301) k337_181 (by decide) (fun q => absurd q hb3) (fun _ => ?_)
    refine sx_aload_n (i := 0) k337_184 rfl rfl ?_
    refine cx_getI (k := 90) k337_185 ow_337 fl_12_559 (by decide) sk_129 ft_11_90 ?_
    refine sx_bipush (v := 40) k337_188 (by decide) ?_
    by_cases hb4 : (40 : Int32) ≤ (μ.1 129 90)
    · rw [if_pos hb4] at h
      refine sx_icmp_ge (tgt := 301) k337_190 (by decide) (fun _ => ?_) (fun q => absurd hb4 q)
      refine sx_pick (lo2 := []) [] rfl ?_
      exact c337_301_ok _ _ h
    · rw [if_neg hb4] at h
      refine sx_icmp_ge (tgt := 301) k337_190 (by decide) (fun q => absurd q hb4) (fun _ => ?_)
      refine sx_bipush (v := 90) k337_193 (by decide) ?_
      refine sx_iload_n (i := 2) k337_195 rfl rfl ?_
      refine sx_imul k337_196 ?_
      refine sx_iload_n (i := 3) k337_197 rfl rfl ?_
      refine sx_iadd k337_198 ?_
      refine cx_nm h (fun x5 h => ?_)
      refine cx_istore (lo2 := [(4, .int x5), (0, .ref 129), (2, .int v2), (3, .int v3)]) k337_199 (by rw [mx_337]; decide) rfl ?_
      refine sx_aload_n (i := 0) k337_201 rfl rfl ?_
      refine cx_getR (k := 100) k337_202 ow_337 fl_12_465 (by decide) sk_129 ft_11_100 sr_129_100 ?_
      refine sx_iload k337_205 rfl ?_
      obtain ⟨x6, e7, h⟩ := Option.bind_eq_some_iff.mp h
      refine cx_iald k337_207 sk_178 e7 ?_
      refine sx_aload_n (i := 0) k337_208 rfl rfl ?_
      refine cx_getR (k := 105) k337_209 ow_337 fl_12_513 (by decide) sk_129 ft_11_105 sr_129_105 ?_
      refine sx_bipush (v := 12) k337_212 (by decide) ?_
      obtain ⟨r8, e9, h⟩ := Option.bind_eq_some_iff.mp h
      refine cx_S (sk := [.int x6]) (vs := [.ref 182, .int (12 : Int32)]) st_337_314 k337_214 ow_337 cl_12_545 (by decide) rfl (Nat.le_of_ble_eq_true rfl) (ok314 182 (12 : Int32) sk_182 _ _ e9) (sk3 := [.int r8.2, .int x6]) rfl rfl ?_
      by_cases hb10 : x6 < r8.2
      · rw [if_pos hb10] at h
        refine sx_icmp_lt (tgt := 295) k337_217 (by decide) (fun _ => ?_) (fun q => absurd hb10 q)
        refine sx_pick (lo2 := [(0, .ref 129), (2, .int v2), (3, .int v3)]) [1, 2, 3] rfl ?_
        exact c337_295_ok kl174 hk174 v2 v3 _ _ h
      · rw [if_neg hb10] at h
        refine sx_icmp_lt (tgt := 295) k337_217 (by decide) (fun q => absurd q hb10) (fun _ => ?_)
        refine sx_aload_n (i := 0) k337_220 rfl rfl ?_
        refine cx_getR (k := 100) k337_221 ow_337 fl_12_465 (by decide) sk_129 ft_11_100 sr_129_100 ?_
        refine sx_iload k337_224 rfl ?_
        obtain ⟨x11, e12, h⟩ := Option.bind_eq_some_iff.mp h
        refine cx_iald k337_226 sk_178 e12 ?_
        refine sx_aload_n (i := 0) k337_227 rfl rfl ?_
        refine cx_getR (k := 105) k337_228 ow_337 fl_12_513 (by decide) sk_129 ft_11_105 sr_129_105 ?_
        refine sx_bipush (v := 16) k337_231 (by decide) ?_
        obtain ⟨r13, e14, h⟩ := Option.bind_eq_some_iff.mp h
        refine cx_S (sk := [.int x11]) (vs := [.ref 182, .int (16 : Int32)]) st_337_314 k337_233 ow_337 cl_12_545 (by decide) rfl (Nat.le_of_ble_eq_true rfl) (ok314 182 (16 : Int32) sk_182 _ _ e14) (sk3 := [.int r13.2, .int x11]) rfl rfl ?_
        by_cases hb15 : r13.2 < x11
        · rw [if_pos hb15] at h
          refine sx_icmp_gt (tgt := 295) k337_236 (by decide) (fun _ => ?_) (fun q => absurd hb15 q)
          refine sx_pick (lo2 := [(0, .ref 129), (2, .int v2), (3, .int v3)]) [1, 2, 3] rfl ?_
          exact c337_295_ok kl174 hk174 v2 v3 _ _ h
        · rw [if_neg hb15] at h
          refine sx_icmp_gt (tgt := 295) k337_236 (by decide) (fun q => absurd q hb15) (fun _ => ?_)
          refine sx_aload_n (i := 0) k337_239 rfl rfl ?_
          refine cx_getR (k := 89) k337_240 ow_337 fl_12_661 (by decide) sk_129 ft_11_89 sr_129_89 ?_
          refine sx_aload_n (i := 0) k337_243 rfl rfl ?_
          refine cx_getI (k := 90) k337_244 ow_337 fl_12_559 (by decide) sk_129 ft_11_90 ?_
          refine sx_aload_n (i := 0) k337_247 rfl rfl ?_
          refine cx_getR (k := 99) k337_248 ow_337 fl_12_462 (by decide) sk_129 ft_11_99 sr_129_99 ?_
          refine sx_iload k337_251 rfl ?_
          obtain ⟨x16, e17, h⟩ := Option.bind_eq_some_iff.mp h
          refine cx_iald k337_253 sk_177 e17 ?_
          obtain ⟨m18, e19, h⟩ := Option.bind_eq_some_iff.mp h
          refine cx_iast k337_254 sk_168 e19 ?_
          refine sx_aload_n (i := 0) k337_255 rfl rfl ?_
          refine cx_getR (k := 98) k337_256 ow_337 fl_12_459 (by decide) sk_129 ft_11_98 sr_129_98 ?_
          refine sx_bipush (v := 100) k337_259 (by decide) ?_
          refine sx_iload k337_261 rfl ?_
          refine sx_imul k337_263 ?_
          refine sx_aload_n (i := 0) k337_264 rfl rfl ?_
          refine cx_getR (k := 88) k337_265 ow_337 fl_12_664 (by decide) sk_129 ft_11_88 sr_129_88 ?_
          refine sx_bipush (v := 100) k337_268 (by decide) ?_
          refine sx_aload_n (i := 0) k337_270 rfl rfl ?_
          refine cx_getI (k := 90) k337_271 ow_337 fl_12_559 (by decide) sk_129 ft_11_90 ?_
          refine sx_imul k337_274 ?_
          refine sx_aload_n (i := 0) k337_275 rfl rfl ?_
          refine cx_getR (k := 99) k337_276 ow_337 fl_12_462 (by decide) sk_129 ft_11_99 sr_129_99 ?_
          refine sx_iload k337_279 rfl ?_
          obtain ⟨x20, e21, h⟩ := Option.bind_eq_some_iff.mp h
          refine cx_iald k337_281 sk_177 e21 ?_
          obtain ⟨r22, e23, h⟩ := Option.bind_eq_some_iff.mp h
          refine cx_S (sk := []) (vs := [.ref 176, .int ((100 : Int32) * x5), .ref 167, .int ((100 : Int32) * (m18.1 129 90)), .int x20]) st_337_273 k337_282 ow_337 cl_12_228 (by decide) rfl (Nat.le_of_ble_eq_true rfl) (ok273 176 ((100 : Int32) * x5) 167 ((100 : Int32) * (m18.1 129 90)) x20 sk_176 sk_167 _ _ e23) (sk3 := []) rfl rfl ?_
          refine sx_aload_n (i := 0) k337_285 rfl rfl ?_
          refine sx_dup k337_286 rfl ?_
          refine cx_getI (k := 90) k337_287 ow_337 fl_12_559 (by decide) sk_129 ft_11_90 ?_
          refine sx_iconst (v := 1) k337_290 (by decide) ?_
          refine sx_iadd k337_291 ?_
          obtain ⟨m24, e25, h⟩ := Option.bind_eq_some_iff.mp h
          refine cx_putI (k := 90) k337_292 ow_337 fl_12_559 (by decide) sk_129 nf_11_90 fu_11_90 e25 ?_
          refine sx_pick (lo2 := [(0, .ref 129), (2, .int v2), (3, .int v3)]) [1, 2, 3] rfl ?_
          exact c337_295_ok kl174 hk174 v2 v3 _ _ h
def l337_174 : Nat → Int32 × Int32 × Mem → Option (Mem) :=
  fixN (fun self x => b337_174 (fun v2 v3 μ => self (v2, v3, μ)) (x.1) (x.2.1) (x.2.2))
theorem l337_174_ok {L : Nat} (n : Nat) (v2 : Int32) (v3 : Int32) (μ : Mem) (res : Mem) (h : l337_174 n (v2, v3, μ) = some res) : Sx 337 174 [(0, .ref 129), (2, .int v2), (3, .int v3)] [] 0 0 (mk L μ) (mk L res, none) := by
  have key := fixN_ind (P := fun x res => Sx 337 174 [(0, .ref 129), (2, .int (x.1)), (3, .int (x.2.1))] [] 0 0 (mk L (x.2.2)) (mk L res, none)) (F := fun self x => b337_174 (fun v2 v3 μ => self (v2, v3, μ)) (x.1) (x.2.1) (x.2.2)) (fun self hself x res h => b337_174_ok (fun v2 v3 μ => self (v2, v3, μ)) (fun v2 v3 μ res hh => hself (v2, v3, μ) res hh) (x.1) (x.2.1) (x.2.2) res h) n (v2, v3, μ) res h
  exact key
def b337_304 (kl304 : Int32 → Mem → Option (Mem)) (v2 : Int32) (μ : Mem) : Option (Mem) :=
  (ldA 171 v2 μ).bind fun x1 =>
  if x1 ≤ 0 then
    some μ
  else
    (ldA 178 ((90 : Int32) * v2) μ).bind fun x4 =>
    (f314 182 (12 : Int32) μ).bind fun r6 =>
    if r6.2 < x4 then
      some r6.1
    else
      (f308 v2 r6.1).bind fun r9 =>
      kl304 v2 r9
theorem b337_304_ok {L : Nat} (kl304 : Int32 → Mem → Option (Mem)) (hk304 : (∀ (v2 : Int32) (μ : Mem) (res : Mem), kl304 v2 μ = some res → Sx 337 304 [(0, .ref 129), (2, .int v2)] [] 0 0 (mk L μ) (mk L res, none))) (v2 : Int32) (μ : Mem) (res : Mem) (h : b337_304 kl304 v2 μ = some res) : Sx 337 304 [(0, .ref 129), (2, .int v2)] [] 0 0 (mk L μ) (mk L res, none) := by
  unfold b337_304 at h
  refine sx_aload_n (i := 0) k337_304 rfl rfl ?_
  refine cx_getR (k := 93) k337_305 ow_337 fl_12_456 (by decide) sk_129 ft_11_93 sr_129_93 ?_
  refine sx_iload_n (i := 2) k337_308 rfl rfl ?_
  obtain ⟨x1, e2, h⟩ := Option.bind_eq_some_iff.mp h
  refine cx_iald k337_309 sk_171 e2 ?_
  by_cases hb3 : x1 ≤ 0
  · rw [if_pos hb3] at h
    refine sx_if_le (tgt := 342) k337_310 (by decide) (fun _ => ?_) (fun q => absurd hb3 q)
    exact cx_retv k337_342 rt_337 h
  · rw [if_neg hb3] at h
    refine sx_if_le (tgt := 342) k337_310 (by decide) (fun q => absurd q hb3) (fun _ => ?_)
    refine sx_aload_n (i := 0) k337_313 rfl rfl ?_
    refine cx_getR (k := 100) k337_314 ow_337 fl_12_465 (by decide) sk_129 ft_11_100 sr_129_100 ?_
    refine sx_bipush (v := 90) k337_317 (by decide) ?_
    refine sx_iload_n (i := 2) k337_319 rfl rfl ?_
    refine sx_imul k337_320 ?_
    obtain ⟨x4, e5, h⟩ := Option.bind_eq_some_iff.mp h
    refine cx_iald k337_321 sk_178 e5 ?_
    refine sx_aload_n (i := 0) k337_322 rfl rfl ?_
    refine cx_getR (k := 105) k337_323 ow_337 fl_12_513 (by decide) sk_129 ft_11_105 sr_129_105 ?_
    refine sx_bipush (v := 12) k337_326 (by decide) ?_
    obtain ⟨r6, e7, h⟩ := Option.bind_eq_some_iff.mp h
    refine cx_S (sk := [.int x4]) (vs := [.ref 182, .int (12 : Int32)]) st_337_314 k337_328 ow_337 cl_12_545 (by decide) rfl (Nat.le_of_ble_eq_true rfl) (ok314 182 (12 : Int32) sk_182 _ _ e7) (sk3 := [.int r6.2, .int x4]) rfl rfl ?_
    by_cases hb8 : r6.2 < x4
    · rw [if_pos hb8] at h
      refine sx_icmp_gt (tgt := 342) k337_331 (by decide) (fun _ => ?_) (fun q => absurd hb8 q)
      exact cx_retv k337_342 rt_337 h
    · rw [if_neg hb8] at h
      refine sx_icmp_gt (tgt := 342) k337_331 (by decide) (fun q => absurd q hb8) (fun _ => ?_)
      refine sx_aload_n (i := 0) k337_334 rfl rfl ?_
      refine sx_iload_n (i := 2) k337_335 rfl rfl ?_
      obtain ⟨r9, e10, h⟩ := Option.bind_eq_some_iff.mp h
      refine cx_V (sk := []) (vs := [.int v2]) st_337_308 k337_336 ow_337 cl_12_453 (by decide) rfl (Nat.le_of_ble_eq_true rfl) sk_129 (ok308 v2 _ _ e10) (sk3 := []) rfl rfl ?_
      refine sx_goto (tgt := 304) k337_339 (by decide) ?_
      refine sx_pick (lo2 := [(0, .ref 129), (2, .int v2)]) [0, 1] rfl ?_
      exact hk304 v2 _ _ h
def l337_304 : Nat → Int32 × Mem → Option (Mem) :=
  fixN (fun self x => b337_304 (fun v2 μ => self (v2, μ)) (x.1) (x.2))
theorem l337_304_ok {L : Nat} (n : Nat) (v2 : Int32) (μ : Mem) (res : Mem) (h : l337_304 n (v2, μ) = some res) : Sx 337 304 [(0, .ref 129), (2, .int v2)] [] 0 0 (mk L μ) (mk L res, none) := by
  have key := fixN_ind (P := fun x res => Sx 337 304 [(0, .ref 129), (2, .int (x.1))] [] 0 0 (mk L (x.2)) (mk L res, none)) (F := fun self x => b337_304 (fun v2 μ => self (v2, μ)) (x.1) (x.2)) (fun self hself x res h => b337_304_ok (fun v2 μ => self (v2, μ)) (fun v2 μ res hh => hself (v2, μ) res hh) (x.1) (x.2) res h) n (v2, μ) res h
  exact key
/-- CraftHouseModel.doesStore(II)V -/
def f337 (p1 : Int32) (p2 : Int32) (μ : Mem) : Option (Mem) :=
  if p1 = (12 : Int32) then
    (ldA 182 (12 : Int32) μ).bind fun x27 =>
    (stA 169 p2 x27 μ).bind fun m29 =>
    (stZ 170 p2 (0 : Int32) m29).bind fun m31 =>
    (stA 171 p2 (0 : Int32) m31).bind fun m33 =>
    (stA 172 p2 (0 : Int32) m33).bind fun m35 =>
    (stA 173 p2 (0 : Int32) m35).bind fun m37 =>
    (stA 174 p2 (0 : Int32) m37).bind fun m39 =>
    some m39
  else
    if p1 = (1 : Int32) then
      c337_67 p1 p2 μ
    else
      if p1 = (2 : Int32) then
        c337_67 p1 p2 μ
      else
        if p1 = (3 : Int32) then
          (ldA 182 (12 : Int32) μ).bind fun x8 =>
          (ldA 182 (13 : Int32) μ).bind fun x10 =>
          (f306 p2 x8 x10 μ).bind fun r12 =>
          if r12.2 = 0 then
            (ldA 174 p2 r12.1).bind fun x15 =>
            (ldA 182 (12 : Int32) r12.1).bind fun x17 =>
            (ldA 182 (13 : Int32) r12.1).bind fun x19 =>
            (stA 175 (((6 : Int32) * p2) + x15) (((256 : Int32) * x17) + x19) r12.1).bind fun m21 =>
            (ldA 174 p2 m21).bind fun x23 =>
            (stA 174 p2 (x23 + (1 : Int32)) m21).bind fun m25 =>
            some m25
          else
            some r12.1
        else
          if p1 = (9 : Int32) then
            (pfI 129 90 (0 : Int32) μ).bind fun m6 =>
            l337_174 gF (p2, (0 : Int32), m6)
          else
            l337_304 gF (p2, μ)
theorem ok337 {L : Nat} (p1 : Int32) (p2 : Int32) (μ : Mem) (res : Mem) (h : f337 p1 p2 μ = some res) : Mx 337 [.ref 129, .int p1, .int p2] (mk L μ) (mk L res, none) := by
  refine Mx_of ml_337 (by rw [mx_337]; exact Nat.le_of_ble_eq_true rfl) ?_
  show Sx 337 0 [(0, .ref 129), (1, .int p1), (2, .int p2)] [] 0 0 (mk L μ) _
  unfold f337 at h
  refine sx_iload_n (i := 1) k337_0 rfl rfl ?_
  refine sx_bipush (v := 12) k337_1 (by decide) ?_
  by_cases hb1 : p1 = (12 : Int32)
  · rw [if_pos hb1] at h
    refine sx_icmp_ne (tgt := 57) k337_3 (by decide) (fun q => absurd hb1 q) (fun _ => ?_)
    refine sx_aload_n (i := 0) k337_6 rfl rfl ?_
    refine cx_getR (k := 91) k337_7 ow_337 fl_12_444 (by decide) sk_129 ft_11_91 sr_129_91 ?_
    refine sx_iload_n (i := 2) k337_10 rfl rfl ?_
    refine sx_aload_n (i := 0) k337_11 rfl rfl ?_
    refine cx_getR (k := 105) k337_12 ow_337 fl_12_513 (by decide) sk_129 ft_11_105 sr_129_105 ?_
    refine sx_bipush (v := 12) k337_15 (by decide) ?_
    obtain ⟨x27, e28, h⟩ := Option.bind_eq_some_iff.mp h
    refine cx_iald k337_17 sk_182 e28 ?_
    obtain ⟨m29, e30, h⟩ := Option.bind_eq_some_iff.mp h
    refine cx_iast k337_18 sk_169 e30 ?_
    refine sx_aload_n (i := 0) k337_19 rfl rfl ?_
    refine cx_getR (k := 92) k337_20 ow_337 fl_12_417 (by decide) sk_129 ft_11_92 sr_129_92 ?_
    refine sx_iload_n (i := 2) k337_23 rfl rfl ?_
    refine sx_iconst (v := 0) k337_24 (by decide) ?_
    obtain ⟨m31, e32, h⟩ := Option.bind_eq_some_iff.mp h
    refine cx_zast k337_25 sk_170 e32 ?_
    refine sx_aload_n (i := 0) k337_26 rfl rfl ?_
    refine cx_getR (k := 93) k337_27 ow_337 fl_12_456 (by decide) sk_129 ft_11_93 sr_129_93 ?_
    refine sx_iload_n (i := 2) k337_30 rfl rfl ?_
    refine sx_iconst (v := 0) k337_31 (by decide) ?_
    obtain ⟨m33, e34, h⟩ := Option.bind_eq_some_iff.mp h
    refine cx_iast k337_32 sk_171 e34 ?_
    refine sx_aload_n (i := 0) k337_33 rfl rfl ?_
    refine cx_getR (k := 94) k337_34 ow_337 fl_12_447 (by decide) sk_129 ft_11_94 sr_129_94 ?_
    refine sx_iload_n (i := 2) k337_37 rfl rfl ?_
    refine sx_iconst (v := 0) k337_38 (by decide) ?_
    obtain ⟨m35, e36, h⟩ := Option.bind_eq_some_iff.mp h
    refine cx_iast k337_39 sk_172 e36 ?_
    refine sx_aload_n (i := 0) k337_40 rfl rfl ?_
    refine cx_getR (k := 95) k337_41 ow_337 fl_12_450 (by decide) sk_129 ft_11_95 sr_129_95 ?_
    refine sx_iload_n (i := 2) k337_44 rfl rfl ?_
    refine sx_iconst (v := 0) k337_45 (by decide) ?_
    obtain ⟨m37, e38, h⟩ := Option.bind_eq_some_iff.mp h
    refine cx_iast k337_46 sk_173 e38 ?_
    refine sx_aload_n (i := 0) k337_47 rfl rfl ?_
    refine cx_getR (k := 96) k337_48 ow_337 fl_12_438 (by decide) sk_129 ft_11_96 sr_129_96 ?_
    refine sx_iload_n (i := 2) k337_51 rfl rfl ?_
    refine sx_iconst (v := 0) k337_52 (by decide) ?_
    obtain ⟨m39, e40, h⟩ := Option.bind_eq_some_iff.mp h
    refine cx_iast k337_53 sk_174 e40 ?_
    refine sx_goto (tgt := 342) k337_54 (by decide) ?_
    exact cx_retv k337_342 rt_337 h
  · rw [if_neg hb1] at h
    refine sx_icmp_ne (tgt := 57) k337_3 (by decide) (fun _ => ?_) (fun q => absurd q hb1)
    refine sx_iload_n (i := 1) k337_57 rfl rfl ?_
    refine sx_iconst (v := 1) k337_58 (by decide) ?_
    by_cases hb2 : p1 = (1 : Int32)
    · rw [if_pos hb2] at h
      refine sx_icmp_eq (tgt := 67) k337_59 (by decide) (fun _ => ?_) (fun q => absurd hb2 q)
      refine sx_pick (lo2 := [(0, .ref 129), (1, .int p1), (2, .int p2)]) [0, 1, 2] rfl ?_
      exact c337_67_ok p1 p2 _ _ h
    · rw [if_neg hb2] at h
      refine sx_icmp_eq (tgt := 67) k337_59 (by decide) (fun q => absurd q hb2) (fun _ => ?_)
      refine sx_iload_n (i := 1) k337_62 rfl rfl ?_
      refine sx_iconst (v := 2) k337_63 (by decide) ?_
      by_cases hb3 : p1 = (2 : Int32)
      · rw [if_pos hb3] at h
        refine sx_icmp_ne (tgt := 86) k337_64 (by decide) (fun q => absurd hb3 q) (fun _ => ?_)
        refine sx_pick (lo2 := [(0, .ref 129), (1, .int p1), (2, .int p2)]) [0, 1, 2] rfl ?_
        exact c337_67_ok p1 p2 _ _ h
      · rw [if_neg hb3] at h
        refine sx_icmp_ne (tgt := 86) k337_64 (by decide) (fun _ => ?_) (fun q => absurd q hb3)
        refine sx_iload_n (i := 1) k337_86 rfl rfl ?_
        refine sx_iconst (v := 3) k337_87 (by decide) ?_
        by_cases hb4 : p1 = (3 : Int32)
        · rw [if_pos hb4] at h
          refine sx_icmp_ne (tgt := 161) k337_88 (by decide) (fun q => absurd hb4 q) (fun _ => ?_)
          refine sx_aload_n (i := 0) k337_91 rfl rfl ?_
          refine sx_iload_n (i := 2) k337_92 rfl rfl ?_
          refine sx_aload_n (i := 0) k337_93 rfl rfl ?_
          refine cx_getR (k := 105) k337_94 ow_337 fl_12_513 (by decide) sk_129 ft_11_105 sr_129_105 ?_
          refine sx_bipush (v := 12) k337_97 (by decide) ?_
          obtain ⟨x8, e9, h⟩ := Option.bind_eq_some_iff.mp h
          refine cx_iald k337_99 sk_182 e9 ?_
          refine sx_aload_n (i := 0) k337_100 rfl rfl ?_
          refine cx_getR (k := 105) k337_101 ow_337 fl_12_513 (by decide) sk_129 ft_11_105 sr_129_105 ?_
          refine sx_bipush (v := 13) k337_104 (by decide) ?_
          obtain ⟨x10, e11, h⟩ := Option.bind_eq_some_iff.mp h
          refine cx_iald k337_106 sk_182 e11 ?_
          obtain ⟨r12, e13, h⟩ := Option.bind_eq_some_iff.mp h
          refine cx_V (sk := []) (vs := [.int p2, .int x8, .int x10]) st_337_306 k337_107 ow_337 cl_12_420 (by decide) rfl (Nat.le_of_ble_eq_true rfl) sk_129 (ok306 p2 x8 x10 _ _ e13) (sk3 := [.int r12.2]) rfl rfl ?_
          by_cases hb14 : r12.2 = 0
          · rw [if_pos hb14] at h
            refine sx_if_ne (tgt := 342) k337_110 (by decide) (fun q => absurd hb14 q) (fun _ => ?_)
            refine sx_aload_n (i := 0) k337_113 rfl rfl ?_
            refine cx_getR (k := 97) k337_114 ow_337 fl_12_441 (by decide) sk_129 ft_11_97 sr_129_97 ?_
            refine sx_bipush (v := 6) k337_117 (by decide) ?_
            refine sx_iload_n (i := 2) k337_119 rfl rfl ?_
            refine sx_imul k337_120 ?_
            refine sx_aload_n (i := 0) k337_121 rfl rfl ?_
            refine cx_getR (k := 96) k337_122 ow_337 fl_12_438 (by decide) sk_129 ft_11_96 sr_129_96 ?_
            refine sx_iload_n (i := 2) k337_125 rfl rfl ?_
            obtain ⟨x15, e16, h⟩ := Option.bind_eq_some_iff.mp h
            refine cx_iald k337_126 sk_174 e16 ?_
            refine sx_iadd k337_127 ?_
            refine sx_sipush (v := 256) k337_128 (by decide) ?_
            refine sx_aload_n (i := 0) k337_131 rfl rfl ?_
            refine cx_getR (k := 105) k337_132 ow_337 fl_12_513 (by decide) sk_129 ft_11_105 sr_129_105 ?_
            refine sx_bipush (v := 12) k337_135 (by decide) ?_
            obtain ⟨x17, e18, h⟩ := Option.bind_eq_some_iff.mp h
            refine cx_iald k337_137 sk_182 e18 ?_
            refine sx_imul k337_138 ?_
            refine sx_aload_n (i := 0) k337_139 rfl rfl ?_
            refine cx_getR (k := 105) k337_140 ow_337 fl_12_513 (by decide) sk_129 ft_11_105 sr_129_105 ?_
            refine sx_bipush (v := 13) k337_143 (by decide) ?_
            obtain ⟨x19, e20, h⟩ := Option.bind_eq_some_iff.mp h
            refine cx_iald k337_145 sk_182 e20 ?_
            refine sx_iadd k337_146 ?_
            obtain ⟨m21, e22, h⟩ := Option.bind_eq_some_iff.mp h
            refine cx_iast k337_147 sk_175 e22 ?_
            refine sx_aload_n (i := 0) k337_148 rfl rfl ?_
            refine cx_getR (k := 96) k337_149 ow_337 fl_12_438 (by decide) sk_129 ft_11_96 sr_129_96 ?_
            refine sx_iload_n (i := 2) k337_152 rfl rfl ?_
            refine sx_dup2 k337_153 rfl rfl ?_
            obtain ⟨x23, e24, h⟩ := Option.bind_eq_some_iff.mp h
            refine cx_iald k337_154 sk_174 e24 ?_
            refine sx_iconst (v := 1) k337_155 (by decide) ?_
            refine sx_iadd k337_156 ?_
            obtain ⟨m25, e26, h⟩ := Option.bind_eq_some_iff.mp h
            refine cx_iast k337_157 sk_174 e26 ?_
            refine sx_goto (tgt := 342) k337_158 (by decide) ?_
            exact cx_retv k337_342 rt_337 h
          · rw [if_neg hb14] at h
            refine sx_if_ne (tgt := 342) k337_110 (by decide) (fun _ => ?_) (fun q => absurd q hb14)
            exact cx_retv k337_342 rt_337 h
        · rw [if_neg hb4] at h
          refine sx_icmp_ne (tgt := 161) k337_88 (by decide) (fun _ => ?_) (fun q => absurd q hb4)
          refine sx_iload_n (i := 1) k337_161 rfl rfl ?_
          refine sx_bipush (v := 9) k337_162 (by decide) ?_
          by_cases hb5 : p1 = (9 : Int32)
          · rw [if_pos hb5] at h
            refine sx_icmp_ne (tgt := 304) k337_164 (by decide) (fun q => absurd hb5 q) (fun _ => ?_)
            refine sx_aload_n (i := 0) k337_167 rfl rfl ?_
            refine sx_iconst (v := 0) k337_168 (by decide) ?_
            obtain ⟨m6, e7, h⟩ := Option.bind_eq_some_iff.mp h
            refine cx_putI (k := 90) k337_169 ow_337 fl_12_559 (by decide) sk_129 nf_11_90 fu_11_90 e7 ?_
            refine sx_iconst (v := 0) k337_172 (by decide) ?_
            refine cx_istore_n (lo2 := [(3, .int (0 : Int32)), (0, .ref 129), (1, .int p1), (2, .int p2)]) k337_173 rfl (by rw [mx_337]; decide) rfl ?_
            refine sx_pick (lo2 := [(0, .ref 129), (2, .int p2), (3, .int (0 : Int32))]) [1, 3, 0] rfl ?_
            exact l337_174_ok gF p2 (0 : Int32) _ _ h
          · rw [if_neg hb5] at h
            refine sx_icmp_ne (tgt := 304) k337_164 (by decide) (fun _ => ?_) (fun q => absurd q hb5)
            refine sx_pick (lo2 := [(0, .ref 129), (2, .int p2)]) [0, 2] rfl ?_
            exact l337_304_ok gF p2 _ _ h
theorem k325_0 : decode (gb 325) 0 = .ok (.aload_n 0, 1) := by decide +kernel
theorem k325_1 : decode (gb 325) 1 = .ok (.getfield 507, 3) := by decide +kernel
theorem k325_4 : decode (gb 325) 4 = .ok (.bipush 13, 2) := by decide +kernel
theorem k325_6 : decode (gb 325) 6 = .ok (.if_icmp .le 13, 3) := by decide +kernel
theorem k325_9 : decode (gb 325) 9 = .ok (.aload_n 0, 1) := by decide +kernel
theorem k325_10 : decode (gb 325) 10 = .ok (.getfield 513, 3) := by decide +kernel
theorem k325_13 : decode (gb 325) 13 = .ok (.bipush 11, 2) := by decide +kernel
theorem k325_15 : decode (gb 325) 15 = .ok (.iaload, 1) := by decide +kernel
theorem k325_16 : decode (gb 325) 16 = .ok (.goto 4, 3) := by decide +kernel
theorem k325_19 : decode (gb 325) 19 = .ok (.iconst 0, 1) := by decide +kernel
theorem k325_20 : decode (gb 325) 20 = .ok (.istore_n 3, 1) := by decide +kernel
theorem k325_21 : decode (gb 325) 21 = .ok (.iload_n 1, 1) := by decide +kernel
theorem k325_22 : decode (gb 325) 22 = .ok (.tableswitch 229 3 20 #[113, 229, 122, 105, 229, 142, 229, 229, 220, 202, 229, 229, 229, 229, 86, 229, 211, 96], 86) := by decide +kernel
theorem k325_108 : decode (gb 325) 108 = .ok (.aload_n 0, 1) := by decide +kernel
theorem k325_109 : decode (gb 325) 109 = .ok (.bipush 17, 2) := by decide +kernel
theorem k325_111 : decode (gb 325) 111 = .ok (.iconst 2, 1) := by decide +kernel
theorem k325_112 : decode (gb 325) 112 = .ok (.invokevirtual 504, 3) := by decide +kernel
theorem k325_115 : decode (gb 325) 115 = .ok (.goto 142, 3) := by decide +kernel
theorem k325_118 : decode (gb 325) 118 = .ok (.aload_n 0, 1) := by decide +kernel
theorem k325_119 : decode (gb 325) 119 = .ok (.iload_n 2, 1) := by decide +kernel
theorem k325_120 : decode (gb 325) 120 = .ok (.iload_n 3, 1) := by decide +kernel
theorem k325_121 : decode (gb 325) 121 = .ok (.invokevirtual 562, 3) := by decide +kernel
theorem k325_124 : decode (gb 325) 124 = .ok (.goto 133, 3) := by decide +kernel
theorem k325_127 : decode (gb 325) 127 = .ok (.aload_n 0, 1) := by decide +kernel
theorem k325_128 : decode (gb 325) 128 = .ok (.iload_n 2, 1) := by decide +kernel
theorem k325_129 : decode (gb 325) 129 = .ok (.invokevirtual 565, 3) := by decide +kernel
theorem k325_132 : decode (gb 325) 132 = .ok (.goto 125, 3) := by decide +kernel
theorem k325_135 : decode (gb 325) 135 = .ok (.aload_n 0, 1) := by decide +kernel
theorem k325_136 : decode (gb 325) 136 = .ok (.iload_n 2, 1) := by decide +kernel
theorem k325_137 : decode (gb 325) 137 = .ok (.iload_n 3, 1) := by decide +kernel
theorem k325_138 : decode (gb 325) 138 = .ok (.invokevirtual 568, 3) := by decide +kernel
theorem k325_141 : decode (gb 325) 141 = .ok (.goto 116, 3) := by decide +kernel
theorem k325_144 : decode (gb 325) 144 = .ok (.aload_n 0, 1) := by decide +kernel
theorem k325_145 : decode (gb 325) 145 = .ok (.getfield 571, 3) := by decide +kernel
theorem k325_148 : decode (gb 325) 148 = .ok (.iload_n 3, 1) := by decide +kernel
theorem k325_149 : decode (gb 325) 149 = .ok (.iload_n 2, 1) := by decide +kernel
theorem k325_150 : decode (gb 325) 150 = .ok (.bipush 6, 2) := by decide +kernel
theorem k325_152 : decode (gb 325) 152 = .ok (.if_icmp .ne 7, 3) := by decide +kernel
theorem k325_155 : decode (gb 325) 155 = .ok (.iconst 1, 1) := by decide +kernel
theorem k325_156 : decode (gb 325) 156 = .ok (.goto 4, 3) := by decide +kernel
theorem k325_159 : decode (gb 325) 159 = .ok (.iconst 0, 1) := by decide +kernel
theorem k325_160 : decode (gb 325) 160 = .ok (.bastore, 1) := by decide +kernel
theorem k325_161 : decode (gb 325) 161 = .ok (.goto 96, 3) := by decide +kernel
theorem k325_164 : decode (gb 325) 164 = .ok (.iload_n 3, 1) := by decide +kernel
theorem k325_165 : decode (gb 325) 165 = .ok (.iconst 1, 1) := by decide +kernel
theorem k325_166 : decode (gb 325) 166 = .ok (.if_icmp .ne 21, 3) := by decide +kernel
theorem k325_169 : decode (gb 325) 169 = .ok (.aload_n 0, 1) := by decide +kernel
theorem k325_170 : decode (gb 325) 170 = .ok (.getfield 126, 3) := by decide +kernel
theorem k325_173 : decode (gb 325) 173 = .ok (.iconst 0, 1) := by decide +kernel
theorem k325_174 : decode (gb 325) 174 = .ok (.aload_n 0, 1) := by decide +kernel
theorem k325_175 : decode (gb 325) 175 = .ok (.getfield 513, 3) := by decide +kernel
theorem k325_178 : decode (gb 325) 178 = .ok (.bipush 12, 2) := by decide +kernel
theorem k325_180 : decode (gb 325) 180 = .ok (.invokestatic 545, 3) := by decide +kernel
theorem k325_183 : decode (gb 325) 183 = .ok (.iastore, 1) := by decide +kernel
theorem k325_184 : decode (gb 325) 184 = .ok (.goto 73, 3) := by decide +kernel
theorem k325_187 : decode (gb 325) 187 = .ok (.iload_n 3, 1) := by decide +kernel
theorem k325_188 : decode (gb 325) 188 = .ok (.iconst 3, 1) := by decide +kernel
theorem k325_189 : decode (gb 325) 189 = .ok (.if_icmp .ne 68, 3) := by decide +kernel
theorem k325_192 : decode (gb 325) 192 = .ok (.aload_n 0, 1) := by decide +kernel
theorem k325_193 : decode (gb 325) 193 = .ok (.aload_n 0, 1) := by decide +kernel
theorem k325_194 : decode (gb 325) 194 = .ok (.getfield 513, 3) := by decide +kernel
theorem k325_197 : decode (gb 325) 197 = .ok (.bipush 12, 2) := by decide +kernel
theorem k325_199 : decode (gb 325) 199 = .ok (.invokestatic 545, 3) := by decide +kernel
theorem k325_202 : decode (gb 325) 202 = .ok (.bipush 31, 2) := by decide +kernel
theorem k325_204 : decode (gb 325) 204 = .ok (.iand, 1) := by decide +kernel
theorem k325_205 : decode (gb 325) 205 = .ok (.aload_n 0, 1) := by decide +kernel
theorem k325_206 : decode (gb 325) 206 = .ok (.getfield 513, 3) := by decide +kernel
theorem k325_209 : decode (gb 325) 209 = .ok (.bipush 12, 2) := by decide +kernel
theorem k325_211 : decode (gb 325) 211 = .ok (.invokestatic 545, 3) := by decide +kernel
theorem k325_214 : decode (gb 325) 214 = .ok (.aload_n 0, 1) := by decide +kernel
theorem k325_215 : decode (gb 325) 215 = .ok (.getfield 510, 3) := by decide +kernel
theorem k325_218 : decode (gb 325) 218 = .ok (.invokevirtual 574, 3) := by decide +kernel
theorem k325_221 : decode (gb 325) 221 = .ok (.goto 36, 3) := by decide +kernel
theorem k325_224 : decode (gb 325) 224 = .ok (.aload_n 0, 1) := by decide +kernel
theorem k325_225 : decode (gb 325) 225 = .ok (.iload_n 2, 1) := by decide +kernel
theorem k325_226 : decode (gb 325) 226 = .ok (.iload_n 3, 1) := by decide +kernel
theorem k325_227 : decode (gb 325) 227 = .ok (.invokevirtual 577, 3) := by decide +kernel
theorem k325_230 : decode (gb 325) 230 = .ok (.goto 27, 3) := by decide +kernel
theorem k325_233 : decode (gb 325) 233 = .ok (.aload_n 0, 1) := by decide +kernel
theorem k325_234 : decode (gb 325) 234 = .ok (.iload_n 2, 1) := by decide +kernel
theorem k325_235 : decode (gb 325) 235 = .ok (.iload_n 3, 1) := by decide +kernel
theorem k325_236 : decode (gb 325) 236 = .ok (.invokevirtual 580, 3) := by decide +kernel
theorem k325_239 : decode (gb 325) 239 = .ok (.goto 18, 3) := by decide +kernel
theorem k325_242 : decode (gb 325) 242 = .ok (.aload_n 0, 1) := by decide +kernel
theorem k325_243 : decode (gb 325) 243 = .ok (.iload_n 2, 1) := by decide +kernel
theorem k325_244 : decode (gb 325) 244 = .ok (.iload_n 3, 1) := by decide +kernel
theorem k325_245 : decode (gb 325) 245 = .ok (.invokevirtual 583, 3) := by decide +kernel
theorem k325_248 : decode (gb 325) 248 = .ok (.goto 9, 3) := by decide +kernel
theorem k325_251 : decode (gb 325) 251 = .ok (.aload_n 0, 1) := by decide +kernel
theorem k325_252 : decode (gb 325) 252 = .ok (.iload_n 2, 1) := by decide +kernel
theorem k325_253 : decode (gb 325) 253 = .ok (.iload_n 3, 1) := by decide +kernel
theorem k325_254 : decode (gb 325) 254 = .ok (.invokevirtual 586, 3) := by decide +kernel
theorem k325_257 : decode (gb 325) 257 = .ok (.return_, 1) := by decide +kernel
def c325_160 (s1 : Int32) (s2 : Int32) (μ : Mem) : Option (Mem) :=
  (stZ 190 s1 s2 μ).bind fun m1 =>
  some m1
theorem c325_160_ok {L : Nat} (s1 : Int32) (s2 : Int32) (μ : Mem) (res : Mem) (h : c325_160 s1 s2 μ = some res) : Sx 325 160 [] [.int s2, .int s1, .ref 190] 0 0 (mk L μ) (mk L res, none) := by
  unfold c325_160 at h
  obtain ⟨m1, e2, h⟩ := Option.bind_eq_some_iff.mp h
  refine cx_zast k325_160 sk_190 e2 ?_
  refine sx_goto (tgt := 257) k325_161 (by decide) ?_
  exact cx_retv k325_257 rt_325 h
def c325_20 (v1 : Int32) (v2 : Int32) (s0 : Int32) (μ : Mem) : Option (Mem) :=
  if v1 = (3 : Int32) then
    (f329 v2 s0 μ).bind fun r1 =>
    some r1
  else if v1 = (4 : Int32) then
    (f337 v2 s0 μ).bind fun r4 =>
    some r4
  else if v1 = (5 : Int32) then
    if v2 = (6 : Int32) then
      c325_160 s0 (1 : Int32) μ
    else
      c325_160 s0 (0 : Int32) μ
  else if v1 = (6 : Int32) then
    (f327 v2 μ).bind fun r9 =>
    some r9
  else if v1 = (7 : Int32) then
    (f337 v2 s0 μ).bind fun r12 =>
    some r12
  else if v1 = (8 : Int32) then
    if s0 = (1 : Int32) then
      (f314 182 (12 : Int32) μ).bind fun r23 =>
      (stA 162 (0 : Int32) r23.2 r23.1).bind fun m25 =>
      some m25
    else
      if s0 = (3 : Int32) then
        (f314 182 (12 : Int32) μ).bind fun r17 =>
        (f314 182 (12 : Int32) r17.1).bind fun r19 =>
        (f330 (r17.2 &&& (31 : Int32)) r19.2 (r19.1.1 129 107) r19.1).bind fun r21 =>
        some r21
      else
        some μ
  else if v1 = (9 : Int32) then
    (f337 v2 s0 μ).bind fun r28 =>
    some r28
  else if v1 = (10 : Int32) then
    (f337 v2 s0 μ).bind fun r31 =>
    some r31
  else if v1 = (11 : Int32) then
    (f336 v2 s0 μ).bind fun r34 =>
    some r34
  else if v1 = (12 : Int32) then
    (f331 v2 s0 μ).bind fun r37 =>
    some r37
  else if v1 = (13 : Int32) then
    (f337 v2 s0 μ).bind fun r40 =>
    some r40
  else if v1 = (14 : Int32) then
    (f337 v2 s0 μ).bind fun r43 =>
    some r43
  else if v1 = (15 : Int32) then
    (f337 v2 s0 μ).bind fun r46 =>
    some r46
  else if v1 = (16 : Int32) then
    (f337 v2 s0 μ).bind fun r49 =>
    some r49
  else if v1 = (17 : Int32) then
    (f305 (17 : Int32) (2 : Int32) μ).bind fun r52 =>
    some r52
  else if v1 = (18 : Int32) then
    (f337 v2 s0 μ).bind fun r55 =>
    some r55
  else if v1 = (19 : Int32) then
    (f332 v2 s0 μ).bind fun r58 =>
    some r58
  else if v1 = (20 : Int32) then
    (f326 v2 s0 μ).bind fun r61 =>
    some r61
  else 
    (f337 v2 s0 μ).bind fun r64 =>
    some r64
theorem c325_20_ok {L : Nat} (v1 : Int32) (v2 : Int32) (s0 : Int32) (μ : Mem) (res : Mem) (h : c325_20 v1 v2 s0 μ = some res) : Sx 325 20 [(0, .ref 129), (1, .int v1), (2, .int v2)] [.int s0] 0 0 (mk L μ) (mk L res, none) := by
  unfold c325_20 at h
  refine cx_istore_n (lo2 := [(3, .int s0), (0, .ref 129), (1, .int v1), (2, .int v2)]) k325_20 rfl (by rw [mx_325]; decide) rfl ?_
  refine sx_iload_n (i := 1) k325_21 rfl rfl ?_
  by_cases hb3 : v1 = (3 : Int32)
  · rw [if_pos hb3] at h
    refine sx_tableIn (off := 113) (tgt := 135) k325_22 (by rw [hb3]; decide) (by rw [hb3]; decide) (by rw [hb3]; rfl) (by decide) ?_
    refine sx_aload_n (i := 0) k325_135 rfl rfl ?_
    refine sx_iload_n (i := 2) k325_136 rfl rfl ?_
    refine sx_iload_n (i := 3) k325_137 rfl rfl ?_
    obtain ⟨r1, e2, h⟩ := Option.bind_eq_some_iff.mp h
    refine cx_V (sk := []) (vs := [.int v2, .int s0]) st_325_329 k325_138 ow_325 cl_12_568 (by decide) rfl (Nat.le_of_ble_eq_true rfl) sk_129 (ok329 v2 s0 _ _ e2) (sk3 := []) rfl rfl ?_
    refine sx_goto (tgt := 257) k325_141 (by decide) ?_
    exact cx_retv k325_257 rt_325 h
  · rw [if_neg hb3] at h
    by_cases hb6 : v1 = (4 : Int32)
    · rw [if_pos hb6] at h
      refine sx_tableIn (off := 229) (tgt := 251) k325_22 (by rw [hb6]; decide) (by rw [hb6]; decide) (by rw [hb6]; rfl) (by decide) ?_
      refine sx_aload_n (i := 0) k325_251 rfl rfl ?_
      refine sx_iload_n (i := 2) k325_252 rfl rfl ?_
      refine sx_iload_n (i := 3) k325_253 rfl rfl ?_
      obtain ⟨r4, e5, h⟩ := Option.bind_eq_some_iff.mp h
      refine cx_V (sk := []) (vs := [.int v2, .int s0]) st_325_337 k325_254 ow_325 cl_12_586 (by decide) rfl (Nat.le_of_ble_eq_true rfl) sk_129 (ok337 v2 s0 _ _ e5) (sk3 := []) rfl rfl ?_
      exact cx_retv k325_257 rt_325 h
    · rw [if_neg hb6] at h
      by_cases hb8 : v1 = (5 : Int32)
      · rw [if_pos hb8] at h
        refine sx_tableIn (off := 122) (tgt := 144) k325_22 (by rw [hb8]; decide) (by rw [hb8]; decide) (by rw [hb8]; rfl) (by decide) ?_
        refine sx_aload_n (i := 0) k325_144 rfl rfl ?_
        refine cx_getR (k := 115) k325_145 ow_325 fl_12_571 (by decide) sk_129 ft_11_115 sr_129_115 ?_
        refine sx_iload_n (i := 3) k325_148 rfl rfl ?_
        refine sx_iload_n (i := 2) k325_149 rfl rfl ?_
        refine sx_bipush (v := 6) k325_150 (by decide) ?_
        by_cases hb7 : v2 = (6 : Int32)
        · rw [if_pos hb7] at h
          refine sx_icmp_ne (tgt := 159) k325_152 (by decide) (fun q => absurd hb7 q) (fun _ => ?_)
          refine sx_iconst (v := 1) k325_155 (by decide) ?_
          refine sx_goto (tgt := 160) k325_156 (by decide) ?_
          refine sx_pick (lo2 := []) [] rfl ?_
          exact c325_160_ok s0 (1 : Int32) _ _ h
        · rw [if_neg hb7] at h
          refine sx_icmp_ne (tgt := 159) k325_152 (by decide) (fun _ => ?_) (fun q => absurd q hb7)
          refine sx_iconst (v := 0) k325_159 (by decide) ?_
          refine sx_pick (lo2 := []) [] rfl ?_
          exact c325_160_ok s0 (0 : Int32) _ _ h
      · rw [if_neg hb8] at h
        by_cases hb11 : v1 = (6 : Int32)
        · rw [if_pos hb11] at h
          refine sx_tableIn (off := 105) (tgt := 127) k325_22 (by rw [hb11]; decide) (by rw [hb11]; decide) (by rw [hb11]; rfl) (by decide) ?_
          refine sx_aload_n (i := 0) k325_127 rfl rfl ?_
          refine sx_iload_n (i := 2) k325_128 rfl rfl ?_
          obtain ⟨r9, e10, h⟩ := Option.bind_eq_some_iff.mp h
          refine cx_V (sk := []) (vs := [.int v2]) st_325_327 k325_129 ow_325 cl_12_565 (by decide) rfl (Nat.le_of_ble_eq_true rfl) sk_129 (ok327 v2 _ _ e10) (sk3 := []) rfl rfl ?_
          refine sx_goto (tgt := 257) k325_132 (by decide) ?_
          exact cx_retv k325_257 rt_325 h
        · rw [if_neg hb11] at h
          by_cases hb14 : v1 = (7 : Int32)
          · rw [if_pos hb14] at h
            refine sx_tableIn (off := 229) (tgt := 251) k325_22 (by rw [hb14]; decide) (by rw [hb14]; decide) (by rw [hb14]; rfl) (by decide) ?_
            refine sx_aload_n (i := 0) k325_251 rfl rfl ?_
            refine sx_iload_n (i := 2) k325_252 rfl rfl ?_
            refine sx_iload_n (i := 3) k325_253 rfl rfl ?_
            obtain ⟨r12, e13, h⟩ := Option.bind_eq_some_iff.mp h
            refine cx_V (sk := []) (vs := [.int v2, .int s0]) st_325_337 k325_254 ow_325 cl_12_586 (by decide) rfl (Nat.le_of_ble_eq_true rfl) sk_129 (ok337 v2 s0 _ _ e13) (sk3 := []) rfl rfl ?_
            exact cx_retv k325_257 rt_325 h
          · rw [if_neg hb14] at h
            by_cases hb27 : v1 = (8 : Int32)
            · rw [if_pos hb27] at h
              refine sx_tableIn (off := 142) (tgt := 164) k325_22 (by rw [hb27]; decide) (by rw [hb27]; decide) (by rw [hb27]; rfl) (by decide) ?_
              refine sx_iload_n (i := 3) k325_164 rfl rfl ?_
              refine sx_iconst (v := 1) k325_165 (by decide) ?_
              by_cases hb15 : s0 = (1 : Int32)
              · rw [if_pos hb15] at h
                refine sx_icmp_ne (tgt := 187) k325_166 (by decide) (fun q => absurd hb15 q) (fun _ => ?_)
                refine sx_aload_n (i := 0) k325_169 rfl rfl ?_
                refine cx_getR (k := 78) k325_170 ow_325 fl_12_126 (by decide) sk_129 ft_11_78 sr_129_78 ?_
                refine sx_iconst (v := 0) k325_173 (by decide) ?_
                refine sx_aload_n (i := 0) k325_174 rfl rfl ?_
                refine cx_getR (k := 105) k325_175 ow_325 fl_12_513 (by decide) sk_129 ft_11_105 sr_129_105 ?_
                refine sx_bipush (v := 12) k325_178 (by decide) ?_
                obtain ⟨r23, e24, h⟩ := Option.bind_eq_some_iff.mp h
                refine cx_S (sk := [.int (0 : Int32), .ref 162]) (vs := [.ref 182, .int (12 : Int32)]) st_325_314 k325_180 ow_325 cl_12_545 (by decide) rfl (Nat.le_of_ble_eq_true rfl) (ok314 182 (12 : Int32) sk_182 _ _ e24) (sk3 := [.int r23.2, .int (0 : Int32), .ref 162]) rfl rfl ?_
                obtain ⟨m25, e26, h⟩ := Option.bind_eq_some_iff.mp h
                refine cx_iast k325_183 sk_162 e26 ?_
                refine sx_goto (tgt := 257) k325_184 (by decide) ?_
                exact cx_retv k325_257 rt_325 h
              · rw [if_neg hb15] at h
                refine sx_icmp_ne (tgt := 187) k325_166 (by decide) (fun _ => ?_) (fun q => absurd q hb15)
                refine sx_iload_n (i := 3) k325_187 rfl rfl ?_
                refine sx_iconst (v := 3) k325_188 (by decide) ?_
                by_cases hb16 : s0 = (3 : Int32)
                · rw [if_pos hb16] at h
                  refine sx_icmp_ne (tgt := 257) k325_189 (by decide) (fun q => absurd hb16 q) (fun _ => ?_)
                  refine sx_aload_n (i := 0) k325_192 rfl rfl ?_
                  refine sx_aload_n (i := 0) k325_193 rfl rfl ?_
                  refine cx_getR (k := 105) k325_194 ow_325 fl_12_513 (by decide) sk_129 ft_11_105 sr_129_105 ?_
                  refine sx_bipush (v := 12) k325_197 (by decide) ?_
                  obtain ⟨r17, e18, h⟩ := Option.bind_eq_some_iff.mp h
                  refine cx_S (sk := [.ref 129]) (vs := [.ref 182, .int (12 : Int32)]) st_325_314 k325_199 ow_325 cl_12_545 (by decide) rfl (Nat.le_of_ble_eq_true rfl) (ok314 182 (12 : Int32) sk_182 _ _ e18) (sk3 := [.int r17.2, .ref 129]) rfl rfl ?_
                  refine sx_bipush (v := 31) k325_202 (by decide) ?_
                  refine sx_iand k325_204 ?_
                  refine sx_aload_n (i := 0) k325_205 rfl rfl ?_
                  refine cx_getR (k := 105) k325_206 ow_325 fl_12_513 (by decide) sk_129 ft_11_105 sr_129_105 ?_
                  refine sx_bipush (v := 12) k325_209 (by decide) ?_
                  obtain ⟨r19, e20, h⟩ := Option.bind_eq_some_iff.mp h
                  refine cx_S (sk := [.int (r17.2 &&& (31 : Int32)), .ref 129]) (vs := [.ref 182, .int (12 : Int32)]) st_325_314 k325_211 ow_325 cl_12_545 (by decide) rfl (Nat.le_of_ble_eq_true rfl) (ok314 182 (12 : Int32) sk_182 _ _ e20) (sk3 := [.int r19.2, .int (r17.2 &&& (31 : Int32)), .ref 129]) rfl rfl ?_
                  refine sx_aload_n (i := 0) k325_214 rfl rfl ?_
                  refine cx_getI (k := 107) k325_215 ow_325 fl_12_510 (by decide) sk_129 ft_11_107 ?_
                  obtain ⟨r21, e22, h⟩ := Option.bind_eq_some_iff.mp h
                  refine cx_V (sk := []) (vs := [.int (r17.2 &&& (31 : Int32)), .int r19.2, .int (r19.1.1 129 107)]) st_325_330 k325_218 ow_325 cl_12_574 (by decide) rfl (Nat.le_of_ble_eq_true rfl) sk_129 (ok330 (r17.2 &&& (31 : Int32)) r19.2 (r19.1.1 129 107) _ _ e22) (sk3 := []) rfl rfl ?_
                  refine sx_goto (tgt := 257) k325_221 (by decide) ?_
                  exact cx_retv k325_257 rt_325 h
                · rw [if_neg hb16] at h
                  refine sx_icmp_ne (tgt := 257) k325_189 (by decide) (fun _ => ?_) (fun q => absurd q hb16)
                  exact cx_retv k325_257 rt_325 h
            · rw [if_neg hb27] at h
              by_cases hb30 : v1 = (9 : Int32)
              · rw [if_pos hb30] at h
                refine sx_tableIn (off := 229) (tgt := 251) k325_22 (by rw [hb30]; decide) (by rw [hb30]; decide) (by rw [hb30]; rfl) (by decide) ?_
                refine sx_aload_n (i := 0) k325_251 rfl rfl ?_
                refine sx_iload_n (i := 2) k325_252 rfl rfl ?_
                refine sx_iload_n (i := 3) k325_253 rfl rfl ?_
                obtain ⟨r28, e29, h⟩ := Option.bind_eq_some_iff.mp h
                refine cx_V (sk := []) (vs := [.int v2, .int s0]) st_325_337 k325_254 ow_325 cl_12_586 (by decide) rfl (Nat.le_of_ble_eq_true rfl) sk_129 (ok337 v2 s0 _ _ e29) (sk3 := []) rfl rfl ?_
                exact cx_retv k325_257 rt_325 h
              · rw [if_neg hb30] at h
                by_cases hb33 : v1 = (10 : Int32)
                · rw [if_pos hb33] at h
                  refine sx_tableIn (off := 229) (tgt := 251) k325_22 (by rw [hb33]; decide) (by rw [hb33]; decide) (by rw [hb33]; rfl) (by decide) ?_
                  refine sx_aload_n (i := 0) k325_251 rfl rfl ?_
                  refine sx_iload_n (i := 2) k325_252 rfl rfl ?_
                  refine sx_iload_n (i := 3) k325_253 rfl rfl ?_
                  obtain ⟨r31, e32, h⟩ := Option.bind_eq_some_iff.mp h
                  refine cx_V (sk := []) (vs := [.int v2, .int s0]) st_325_337 k325_254 ow_325 cl_12_586 (by decide) rfl (Nat.le_of_ble_eq_true rfl) sk_129 (ok337 v2 s0 _ _ e32) (sk3 := []) rfl rfl ?_
                  exact cx_retv k325_257 rt_325 h
                · rw [if_neg hb33] at h
                  by_cases hb36 : v1 = (11 : Int32)
                  · rw [if_pos hb36] at h
                    refine sx_tableIn (off := 220) (tgt := 242) k325_22 (by rw [hb36]; decide) (by rw [hb36]; decide) (by rw [hb36]; rfl) (by decide) ?_
                    refine sx_aload_n (i := 0) k325_242 rfl rfl ?_
                    refine sx_iload_n (i := 2) k325_243 rfl rfl ?_
                    refine sx_iload_n (i := 3) k325_244 rfl rfl ?_
                    obtain ⟨r34, e35, h⟩ := Option.bind_eq_some_iff.mp h
                    refine cx_V (sk := []) (vs := [.int v2, .int s0]) st_325_336 k325_245 ow_325 cl_12_583 (by decide) rfl (Nat.le_of_ble_eq_true rfl) sk_129 (ok336 v2 s0 _ _ e35) (sk3 := []) rfl rfl ?_
                    refine sx_goto (tgt := 257) k325_248 (by decide) ?_
                    exact cx_retv k325_257 rt_325 h
                  · rw [if_neg hb36] at h
                    by_cases hb39 : v1 = (12 : Int32)
                    · rw [if_pos hb39] at h
                      refine sx_tableIn (off := 202) (tgt := 224) k325_22 (by rw [hb39]; decide) (by rw [hb39]; decide) (by rw [hb39]; rfl) (by decide) ?_
                      refine sx_aload_n (i := 0) k325_224 rfl rfl ?_
                      refine sx_iload_n (i := 2) k325_225 rfl rfl ?_
                      refine sx_iload_n (i := 3) k325_226 rfl rfl ?_
                      obtain ⟨r37, e38, h⟩ := Option.bind_eq_some_iff.mp h
                      refine cx_V (sk := []) (vs := [.int v2, .int s0]) st_325_331 k325_227 ow_325 cl_12_577 (by decide) rfl (Nat.le_of_ble_eq_true rfl) sk_129 (ok331 v2 s0 _ _ e38) (sk3 := []) rfl rfl ?_
                      refine sx_goto (tgt := 257) k325_230 (by decide) ?_
                      exact cx_retv k325_257 rt_325 h
                    · rw [if_neg hb39] at h
                      by_cases hb42 : v1 = (13 : Int32)
                      · rw [if_pos hb42] at h
                        refine sx_tableIn (off := 229) (tgt := 251) k325_22 (by rw [hb42]; decide) (by rw [hb42]; decide) (by rw [hb42]; rfl) (by decide) ?_
                        refine sx_aload_n (i := 0) k325_251 rfl rfl ?_
                        refine sx_iload_n (i := 2) k325_252 rfl rfl ?_
                        refine sx_iload_n (i := 3) k325_253 rfl rfl ?_
                        obtain ⟨r40, e41, h⟩ := Option.bind_eq_some_iff.mp h
                        refine cx_V (sk := []) (vs := [.int v2, .int s0]) st_325_337 k325_254 ow_325 cl_12_586 (by decide) rfl (Nat.le_of_ble_eq_true rfl) sk_129 (ok337 v2 s0 _ _ e41) (sk3 := []) rfl rfl ?_
                        exact cx_retv k325_257 rt_325 h
                      · rw [if_neg hb42] at h
                        by_cases hb45 : v1 = (14 : Int32)
                        · rw [if_pos hb45] at h
                          refine sx_tableIn (off := 229) (tgt := 251) k325_22 (by rw [hb45]; decide) (by rw [hb45]; decide) (by rw [hb45]; rfl) (by decide) ?_
                          refine sx_aload_n (i := 0) k325_251 rfl rfl ?_
                          refine sx_iload_n (i := 2) k325_252 rfl rfl ?_
                          refine sx_iload_n (i := 3) k325_253 rfl rfl ?_
                          obtain ⟨r43, e44, h⟩ := Option.bind_eq_some_iff.mp h
                          refine cx_V (sk := []) (vs := [.int v2, .int s0]) st_325_337 k325_254 ow_325 cl_12_586 (by decide) rfl (Nat.le_of_ble_eq_true rfl) sk_129 (ok337 v2 s0 _ _ e44) (sk3 := []) rfl rfl ?_
                          exact cx_retv k325_257 rt_325 h
                        · rw [if_neg hb45] at h
                          by_cases hb48 : v1 = (15 : Int32)
                          · rw [if_pos hb48] at h
                            refine sx_tableIn (off := 229) (tgt := 251) k325_22 (by rw [hb48]; decide) (by rw [hb48]; decide) (by rw [hb48]; rfl) (by decide) ?_
                            refine sx_aload_n (i := 0) k325_251 rfl rfl ?_
                            refine sx_iload_n (i := 2) k325_252 rfl rfl ?_
                            refine sx_iload_n (i := 3) k325_253 rfl rfl ?_
                            obtain ⟨r46, e47, h⟩ := Option.bind_eq_some_iff.mp h
                            refine cx_V (sk := []) (vs := [.int v2, .int s0]) st_325_337 k325_254 ow_325 cl_12_586 (by decide) rfl (Nat.le_of_ble_eq_true rfl) sk_129 (ok337 v2 s0 _ _ e47) (sk3 := []) rfl rfl ?_
                            exact cx_retv k325_257 rt_325 h
                          · rw [if_neg hb48] at h
                            by_cases hb51 : v1 = (16 : Int32)
                            · rw [if_pos hb51] at h
                              refine sx_tableIn (off := 229) (tgt := 251) k325_22 (by rw [hb51]; decide) (by rw [hb51]; decide) (by rw [hb51]; rfl) (by decide) ?_
                              refine sx_aload_n (i := 0) k325_251 rfl rfl ?_
                              refine sx_iload_n (i := 2) k325_252 rfl rfl ?_
                              refine sx_iload_n (i := 3) k325_253 rfl rfl ?_
                              obtain ⟨r49, e50, h⟩ := Option.bind_eq_some_iff.mp h
                              refine cx_V (sk := []) (vs := [.int v2, .int s0]) st_325_337 k325_254 ow_325 cl_12_586 (by decide) rfl (Nat.le_of_ble_eq_true rfl) sk_129 (ok337 v2 s0 _ _ e50) (sk3 := []) rfl rfl ?_
                              exact cx_retv k325_257 rt_325 h
                            · rw [if_neg hb51] at h
                              by_cases hb54 : v1 = (17 : Int32)
                              · rw [if_pos hb54] at h
                                refine sx_tableIn (off := 86) (tgt := 108) k325_22 (by rw [hb54]; decide) (by rw [hb54]; decide) (by rw [hb54]; rfl) (by decide) ?_
                                refine sx_aload_n (i := 0) k325_108 rfl rfl ?_
                                refine sx_bipush (v := 17) k325_109 (by decide) ?_
                                refine sx_iconst (v := 2) k325_111 (by decide) ?_
                                obtain ⟨r52, e53, h⟩ := Option.bind_eq_some_iff.mp h
                                refine cx_V (sk := []) (vs := [.int (17 : Int32), .int (2 : Int32)]) st_325_305 k325_112 ow_325 cl_12_504 (by decide) rfl (Nat.le_of_ble_eq_true rfl) sk_129 (ok305 (17 : Int32) (2 : Int32) _ _ e53) (sk3 := []) rfl rfl ?_
                                refine sx_goto (tgt := 257) k325_115 (by decide) ?_
                                exact cx_retv k325_257 rt_325 h
                              · rw [if_neg hb54] at h
                                by_cases hb57 : v1 = (18 : Int32)
                                · rw [if_pos hb57] at h
                                  refine sx_tableIn (off := 229) (tgt := 251) k325_22 (by rw [hb57]; decide) (by rw [hb57]; decide) (by rw [hb57]; rfl) (by decide) ?_
                                  refine sx_aload_n (i := 0) k325_251 rfl rfl ?_
                                  refine sx_iload_n (i := 2) k325_252 rfl rfl ?_
                                  refine sx_iload_n (i := 3) k325_253 rfl rfl ?_
                                  obtain ⟨r55, e56, h⟩ := Option.bind_eq_some_iff.mp h
                                  refine cx_V (sk := []) (vs := [.int v2, .int s0]) st_325_337 k325_254 ow_325 cl_12_586 (by decide) rfl (Nat.le_of_ble_eq_true rfl) sk_129 (ok337 v2 s0 _ _ e56) (sk3 := []) rfl rfl ?_
                                  exact cx_retv k325_257 rt_325 h
                                · rw [if_neg hb57] at h
                                  by_cases hb60 : v1 = (19 : Int32)
                                  · rw [if_pos hb60] at h
                                    refine sx_tableIn (off := 211) (tgt := 233) k325_22 (by rw [hb60]; decide) (by rw [hb60]; decide) (by rw [hb60]; rfl) (by decide) ?_
                                    refine sx_aload_n (i := 0) k325_233 rfl rfl ?_
                                    refine sx_iload_n (i := 2) k325_234 rfl rfl ?_
                                    refine sx_iload_n (i := 3) k325_235 rfl rfl ?_
                                    obtain ⟨r58, e59, h⟩ := Option.bind_eq_some_iff.mp h
                                    refine cx_V (sk := []) (vs := [.int v2, .int s0]) st_325_332 k325_236 ow_325 cl_12_580 (by decide) rfl (Nat.le_of_ble_eq_true rfl) sk_129 (ok332 v2 s0 _ _ e59) (sk3 := []) rfl rfl ?_
                                    refine sx_goto (tgt := 257) k325_239 (by decide) ?_
                                    exact cx_retv k325_257 rt_325 h
                                  · rw [if_neg hb60] at h
                                    by_cases hb63 : v1 = (20 : Int32)
                                    · rw [if_pos hb63] at h
                                      refine sx_tableIn (off := 96) (tgt := 118) k325_22 (by rw [hb63]; decide) (by rw [hb63]; decide) (by rw [hb63]; rfl) (by decide) ?_
                                      refine sx_aload_n (i := 0) k325_118 rfl rfl ?_
                                      refine sx_iload_n (i := 2) k325_119 rfl rfl ?_
                                      refine sx_iload_n (i := 3) k325_120 rfl rfl ?_
                                      obtain ⟨r61, e62, h⟩ := Option.bind_eq_some_iff.mp h
                                      refine cx_V (sk := []) (vs := [.int v2, .int s0]) st_325_326 k325_121 ow_325 cl_12_562 (by decide) rfl (Nat.le_of_ble_eq_true rfl) sk_129 (ok326 v2 s0 _ _ e62) (sk3 := []) rfl rfl ?_
                                      refine sx_goto (tgt := 257) k325_124 (by decide) ?_
                                      exact cx_retv k325_257 rt_325 h
                                    · rw [if_neg hb63] at h
                                      refine sx_tableOut (tgt := 251) k325_22 (sw_out (n := 18) (fun j hj => ?_)) (by decide) ?_
                                      · intro hj2
                                        exact sw_no [(3 : Int32), (4 : Int32), (5 : Int32), (6 : Int32), (7 : Int32), (8 : Int32), (9 : Int32), (10 : Int32), (11 : Int32), (12 : Int32), (13 : Int32), (14 : Int32), (15 : Int32), (16 : Int32), (17 : Int32), (18 : Int32), (19 : Int32), (20 : Int32)] (by decide) hj hj2 ⟨hb3, hb6, hb8, hb11, hb14, hb27, hb30, hb33, hb36, hb39, hb42, hb45, hb48, hb51, hb54, hb57, hb60, hb63, trivial⟩
                                      ·
                                        refine sx_aload_n (i := 0) k325_251 rfl rfl ?_
                                        refine sx_iload_n (i := 2) k325_252 rfl rfl ?_
                                        refine sx_iload_n (i := 3) k325_253 rfl rfl ?_
                                        obtain ⟨r64, e65, h⟩ := Option.bind_eq_some_iff.mp h
                                        refine cx_V (sk := []) (vs := [.int v2, .int s0]) st_325_337 k325_254 ow_325 cl_12_586 (by decide) rfl (Nat.le_of_ble_eq_true rfl) sk_129 (ok337 v2 s0 _ _ e65) (sk3 := []) rfl rfl ?_
                                        exact cx_retv k325_257 rt_325 h
/-- CraftHouseModel.does(II)V -/
def f325 (p1 : Int32) (p2 : Int32) (μ : Mem) : Option (Mem) :=
  if (μ.1 129 106) ≤ (13 : Int32) then
    c325_20 p1 p2 (0 : Int32) μ
  else
    (ldA 182 (11 : Int32) μ).bind fun x2 =>
    c325_20 p1 p2 x2 μ
theorem ok325 {L : Nat} (p1 : Int32) (p2 : Int32) (μ : Mem) (res : Mem) (h : f325 p1 p2 μ = some res) : Mx 325 [.ref 129, .int p1, .int p2] (mk L μ) (mk L res, none) := by
  refine Mx_of ml_325 (by rw [mx_325]; exact Nat.le_of_ble_eq_true rfl) ?_
  show Sx 325 0 [(0, .ref 129), (1, .int p1), (2, .int p2)] [] 0 0 (mk L μ) _
  unfold f325 at h
  refine sx_aload_n (i := 0) k325_0 rfl rfl ?_
  refine cx_getI (k := 106) k325_1 ow_325 fl_12_507 (by decide) sk_129 ft_11_106 ?_
  refine sx_bipush (v := 13) k325_4 (by decide) ?_
  by_cases hb1 : (μ.1 129 106) ≤ (13 : Int32)
  · rw [if_pos hb1] at h
    refine sx_icmp_le (tgt := 19) k325_6 (by decide) (fun _ => ?_) (fun q => absurd hb1 q)
    refine sx_iconst (v := 0) k325_19 (by decide) ?_
    refine sx_pick (lo2 := [(0, .ref 129), (1, .int p1), (2, .int p2)]) [0, 1, 2] rfl ?_
    exact c325_20_ok p1 p2 (0 : Int32) _ _ h
  · rw [if_neg hb1] at h
    refine sx_icmp_le (tgt := 19) k325_6 (by decide) (fun q => absurd q hb1) (fun _ => ?_)
    refine sx_aload_n (i := 0) k325_9 rfl rfl ?_
    refine cx_getR (k := 105) k325_10 ow_325 fl_12_513 (by decide) sk_129 ft_11_105 sr_129_105 ?_
    refine sx_bipush (v := 11) k325_13 (by decide) ?_
    obtain ⟨x2, e3, h⟩ := Option.bind_eq_some_iff.mp h
    refine cx_iald k325_15 sk_182 e3 ?_
    refine sx_goto (tgt := 20) k325_16 (by decide) ?_
    refine sx_pick (lo2 := [(0, .ref 129), (1, .int p1), (2, .int p2)]) [0, 1, 2] rfl ?_
    exact c325_20_ok p1 p2 x2 _ _ h
theorem k319_0 : decode (gb 319) 0 = .ok (.aload_n 0, 1) := by decide +kernel
theorem k319_1 : decode (gb 319) 1 = .ok (.aload_n 0, 1) := by decide +kernel
theorem k319_2 : decode (gb 319) 2 = .ok (.getfield 495, 3) := by decide +kernel
theorem k319_5 : decode (gb 319) 5 = .ok (.iconst 0, 1) := by decide +kernel
theorem k319_6 : decode (gb 319) 6 = .ok (.iaload, 1) := by decide +kernel
theorem k319_7 : decode (gb 319) 7 = .ok (.putfield 507, 3) := by decide +kernel
theorem k319_10 : decode (gb 319) 10 = .ok (.aload_n 0, 1) := by decide +kernel
theorem k319_11 : decode (gb 319) 11 = .ok (.aload_n 0, 1) := by decide +kernel
theorem k319_12 : decode (gb 319) 12 = .ok (.getfield 498, 3) := by decide +kernel
theorem k319_15 : decode (gb 319) 15 = .ok (.iconst 0, 1) := by decide +kernel
theorem k319_16 : decode (gb 319) 16 = .ok (.iaload, 1) := by decide +kernel
theorem k319_17 : decode (gb 319) 17 = .ok (.putfield 510, 3) := by decide +kernel
theorem k319_20 : decode (gb 319) 20 = .ok (.aload_n 0, 1) := by decide +kernel
theorem k319_21 : decode (gb 319) 21 = .ok (.getfield 492, 3) := by decide +kernel
theorem k319_24 : decode (gb 319) 24 = .ok (.iconst 0, 1) := by decide +kernel
theorem k319_25 : decode (gb 319) 25 = .ok (.aload_n 0, 1) := by decide +kernel
theorem k319_26 : decode (gb 319) 26 = .ok (.getfield 513, 3) := by decide +kernel
theorem k319_29 : decode (gb 319) 29 = .ok (.iconst 0, 1) := by decide +kernel
theorem k319_30 : decode (gb 319) 30 = .ok (.aload_n 0, 1) := by decide +kernel
theorem k319_31 : decode (gb 319) 31 = .ok (.getfield 507, 3) := by decide +kernel
theorem k319_34 : decode (gb 319) 34 = .ok (.invokestatic 228, 3) := by decide +kernel
theorem k319_37 : decode (gb 319) 37 = .ok (.aload_n 0, 1) := by decide +kernel
theorem k319_38 : decode (gb 319) 38 = .ok (.dup, 1) := by decide +kernel
theorem k319_39 : decode (gb 319) 39 = .ok (.getfield 148, 3) := by decide +kernel
theorem k319_42 : decode (gb 319) 42 = .ok (.iconst 1, 1) := by decide +kernel
theorem k319_43 : decode (gb 319) 43 = .ok (.isub, 1) := by decide +kernel
theorem k319_44 : decode (gb 319) 44 = .ok (.putfield 148, 3) := by decide +kernel
theorem k319_47 : decode (gb 319) 47 = .ok (.iconst 0, 1) := by decide +kernel
theorem k319_48 : decode (gb 319) 48 = .ok (.istore_n 1, 1) := by decide +kernel
theorem k319_49 : decode (gb 319) 49 = .ok (.iload_n 1, 1) := by decide +kernel
theorem k319_50 : decode (gb 319) 50 = .ok (.aload_n 0, 1) := by decide +kernel
theorem k319_51 : decode (gb 319) 51 = .ok (.getfield 148, 3) := by decide +kernel
theorem k319_54 : decode (gb 319) 54 = .ok (.if_icmp .ge 64, 3) := by decide +kernel
theorem k319_57 : decode (gb 319) 57 = .ok (.aload_n 0, 1) := by decide +kernel
theorem k319_58 : decode (gb 319) 58 = .ok (.getfield 495, 3) := by decide +kernel
theorem k319_61 : decode (gb 319) 61 = .ok (.iload_n 1, 1) := by decide +kernel
theorem k319_62 : decode (gb 319) 62 = .ok (.aload_n 0, 1) := by decide +kernel
theorem k319_63 : decode (gb 319) 63 = .ok (.getfield 495, 3) := by decide +kernel
theorem k319_66 : decode (gb 319) 66 = .ok (.iload_n 1, 1) := by decide +kernel
theorem k319_67 : decode (gb 319) 67 = .ok (.iconst 1, 1) := by decide +kernel
theorem k319_68 : decode (gb 319) 68 = .ok (.iadd, 1) := by decide +kernel
theorem k319_69 : decode (gb 319) 69 = .ok (.iaload, 1) := by decide +kernel
theorem k319_70 : decode (gb 319) 70 = .ok (.iastore, 1) := by decide +kernel
theorem k319_71 : decode (gb 319) 71 = .ok (.aload_n 0, 1) := by decide +kernel
theorem k319_72 : decode (gb 319) 72 = .ok (.getfield 498, 3) := by decide +kernel
theorem k319_75 : decode (gb 319) 75 = .ok (.iload_n 1, 1) := by decide +kernel
theorem k319_76 : decode (gb 319) 76 = .ok (.aload_n 0, 1) := by decide +kernel
theorem k319_77 : decode (gb 319) 77 = .ok (.getfield 498, 3) := by decide +kernel
theorem k319_80 : decode (gb 319) 80 = .ok (.iload_n 1, 1) := by decide +kernel
theorem k319_81 : decode (gb 319) 81 = .ok (.iconst 1, 1) := by decide +kernel
theorem k319_82 : decode (gb 319) 82 = .ok (.iadd, 1) := by decide +kernel
theorem k319_83 : decode (gb 319) 83 = .ok (.iaload, 1) := by decide +kernel
theorem k319_84 : decode (gb 319) 84 = .ok (.iastore, 1) := by decide +kernel
theorem k319_85 : decode (gb 319) 85 = .ok (.aload_n 0, 1) := by decide +kernel
theorem k319_86 : decode (gb 319) 86 = .ok (.getfield 492, 3) := by decide +kernel
theorem k319_89 : decode (gb 319) 89 = .ok (.bipush 64, 2) := by decide +kernel
theorem k319_91 : decode (gb 319) 91 = .ok (.iload_n 1, 1) := by decide +kernel
theorem k319_92 : decode (gb 319) 92 = .ok (.iconst 1, 1) := by decide +kernel
theorem k319_93 : decode (gb 319) 93 = .ok (.iadd, 1) := by decide +kernel
theorem k319_94 : decode (gb 319) 94 = .ok (.imul, 1) := by decide +kernel
theorem k319_95 : decode (gb 319) 95 = .ok (.aload_n 0, 1) := by decide +kernel
theorem k319_96 : decode (gb 319) 96 = .ok (.getfield 492, 3) := by decide +kernel
theorem k319_99 : decode (gb 319) 99 = .ok (.bipush 64, 2) := by decide +kernel
theorem k319_101 : decode (gb 319) 101 = .ok (.iload_n 1, 1) := by decide +kernel
theorem k319_102 : decode (gb 319) 102 = .ok (.imul, 1) := by decide +kernel
theorem k319_103 : decode (gb 319) 103 = .ok (.aload_n 0, 1) := by decide +kernel
theorem k319_104 : decode (gb 319) 104 = .ok (.getfield 495, 3) := by decide +kernel
theorem k319_107 : decode (gb 319) 107 = .ok (.iload_n 1, 1) := by decide +kernel
theorem k319_108 : decode (gb 319) 108 = .ok (.iaload, 1) := by decide +kernel
theorem k319_109 : decode (gb 319) 109 = .ok (.invokestatic 228, 3) := by decide +kernel
theorem k319_112 : decode (gb 319) 112 = .ok (.iinc 1 1, 3) := by decide +kernel
theorem k319_115 : decode (gb 319) 115 = .ok (.goto (-66), 3) := by decide +kernel
theorem k319_118 : decode (gb 319) 118 = .ok (.aload_n 0, 1) := by decide +kernel
theorem k319_119 : decode (gb 319) 119 = .ok (.iconst 0, 1) := by decide +kernel
theorem k319_120 : decode (gb 319) 120 = .ok (.putfield 142, 3) := by decide +kernel
theorem k319_123 : decode (gb 319) 123 = .ok (.aload_n 0, 1) := by decide +kernel
theorem k319_124 : decode (gb 319) 124 = .ok (.getfield 513, 3) := by decide +kernel
theorem k319_127 : decode (gb 319) 127 = .ok (.iconst 2, 1) := by decide +kernel
theorem k319_128 : decode (gb 319) 128 = .ok (.iaload, 1) := by decide +kernel
theorem k319_129 : decode (gb 319) 129 = .ok (.istore_n 1, 1) := by decide +kernel
theorem k319_130 : decode (gb 319) 130 = .ok (.aload_n 0, 1) := by decide +kernel
theorem k319_131 : decode (gb 319) 131 = .ok (.getfield 513, 3) := by decide +kernel
theorem k319_134 : decode (gb 319) 134 = .ok (.iconst 3, 1) := by decide +kernel
theorem k319_135 : decode (gb 319) 135 = .ok (.iaload, 1) := by decide +kernel
theorem k319_136 : decode (gb 319) 136 = .ok (.istore_n 2, 1) := by decide +kernel
theorem k319_137 : decode (gb 319) 137 = .ok (.aload_n 0, 1) := by decide +kernel
theorem k319_138 : decode (gb 319) 138 = .ok (.getfield 513, 3) := by decide +kernel
theorem k319_141 : decode (gb 319) 141 = .ok (.bipush 6, 2) := by decide +kernel
theorem k319_143 : decode (gb 319) 143 = .ok (.iaload, 1) := by decide +kernel
theorem k319_144 : decode (gb 319) 144 = .ok (.bipush 15, 2) := by decide +kernel
theorem k319_146 : decode (gb 319) 146 = .ok (.iand, 1) := by decide +kernel
theorem k319_147 : decode (gb 319) 147 = .ok (.istore_n 3, 1) := by decide +kernel
theorem k319_148 : decode (gb 319) 148 = .ok (.aload_n 0, 1) := by decide +kernel
theorem k319_149 : decode (gb 319) 149 = .ok (.aload_n 0, 1) := by decide +kernel
theorem k319_150 : decode (gb 319) 150 = .ok (.getfield 513, 3) := by decide +kernel
theorem k319_153 : decode (gb 319) 153 = .ok (.bipush 7, 2) := by decide +kernel
theorem k319_155 : decode (gb 319) 155 = .ok (.iaload, 1) := by decide +kernel
theorem k319_156 : decode (gb 319) 156 = .ok (.aload_n 0, 1) := by decide +kernel
theorem k319_157 : decode (gb 319) 157 = .ok (.getfield 513, 3) := by decide +kernel
theorem k319_160 : decode (gb 319) 160 = .ok (.bipush 8, 2) := by decide +kernel
theorem k319_162 : decode (gb 319) 162 = .ok (.iaload, 1) := by decide +kernel
theorem k319_163 : decode (gb 319) 163 = .ok (.invokevirtual 516, 3) := by decide +kernel
theorem k319_166 : decode (gb 319) 166 = .ok (.istore 4, 2) := by decide +kernel
theorem k319_168 : decode (gb 319) 168 = .ok (.iload 4, 2) := by decide +kernel
theorem k319_170 : decode (gb 319) 170 = .ok (.ifCond .le 24, 3) := by decide +kernel
theorem k319_173 : decode (gb 319) 173 = .ok (.aload_n 0, 1) := by decide +kernel
theorem k319_174 : decode (gb 319) 174 = .ok (.getfield 126, 3) := by decide +kernel
theorem k319_177 : decode (gb 319) 177 = .ok (.bipush 19, 2) := by decide +kernel
theorem k319_179 : decode (gb 319) 179 = .ok (.dup2, 1) := by decide +kernel
theorem k319_180 : decode (gb 319) 180 = .ok (.iaload, 1) := by decide +kernel
theorem k319_181 : decode (gb 319) 181 = .ok (.iconst 1, 1) := by decide +kernel
theorem k319_182 : decode (gb 319) 182 = .ok (.iadd, 1) := by decide +kernel
theorem k319_183 : decode (gb 319) 183 = .ok (.iastore, 1) := by decide +kernel
theorem k319_184 : decode (gb 319) 184 = .ok (.aload_n 0, 1) := by decide +kernel
theorem k319_185 : decode (gb 319) 185 = .ok (.iconst 4, 1) := by decide +kernel
theorem k319_186 : decode (gb 319) 186 = .ok (.iload_n 1, 1) := by decide +kernel
theorem k319_187 : decode (gb 319) 187 = .ok (.iload_n 2, 1) := by decide +kernel
theorem k319_188 : decode (gb 319) 188 = .ok (.iload 4, 2) := by decide +kernel
theorem k319_190 : decode (gb 319) 190 = .ok (.invokevirtual 488, 3) := by decide +kernel
theorem k319_193 : decode (gb 319) 193 = .ok (.return_, 1) := by decide +kernel
theorem k319_194 : decode (gb 319) 194 = .ok (.iload_n 3, 1) := by decide +kernel
theorem k319_195 : decode (gb 319) 195 = .ok (.iconst 4, 1) := by decide +kernel
theorem k319_196 : decode (gb 319) 196 = .ok (.iand, 1) := by decide +kernel
theorem k319_197 : decode (gb 319) 197 = .ok (.ifCond .eq 11, 3) := by decide +kernel
theorem k319_200 : decode (gb 319) 200 = .ok (.aload_n 0, 1) := by decide +kernel
theorem k319_201 : decode (gb 319) 201 = .ok (.iconst 3, 1) := by decide +kernel
theorem k319_202 : decode (gb 319) 202 = .ok (.iload_n 1, 1) := by decide +kernel
theorem k319_203 : decode (gb 319) 203 = .ok (.iload_n 2, 1) := by decide +kernel
theorem k319_204 : decode (gb 319) 204 = .ok (.iconst 0, 1) := by decide +kernel
theorem k319_205 : decode (gb 319) 205 = .ok (.invokevirtual 488, 3) := by decide +kernel
theorem k319_208 : decode (gb 319) 208 = .ok (.aload_n 0, 1) := by decide +kernel
theorem k319_209 : decode (gb 319) 209 = .ok (.getfield 513, 3) := by decide +kernel
theorem k319_212 : decode (gb 319) 212 = .ok (.bipush 7, 2) := by decide +kernel
theorem k319_214 : decode (gb 319) 214 = .ok (.iaload, 1) := by decide +kernel
theorem k319_215 : decode (gb 319) 215 = .ok (.bipush 8, 2) := by decide +kernel
theorem k319_217 : decode (gb 319) 217 = .ok (.if_icmp .ne 36, 3) := by decide +kernel
theorem k319_220 : decode (gb 319) 220 = .ok (.aload_n 0, 1) := by decide +kernel
theorem k319_221 : decode (gb 319) 221 = .ok (.getfield 513, 3) := by decide +kernel
theorem k319_224 : decode (gb 319) 224 = .ok (.bipush 11, 2) := by decide +kernel
theorem k319_226 : decode (gb 319) 226 = .ok (.iaload, 1) := by decide +kernel
theorem k319_227 : decode (gb 319) 227 = .ok (.iconst 2, 1) := by decide +kernel
theorem k319_228 : decode (gb 319) 228 = .ok (.if_icmp .ne 25, 3) := by decide +kernel
theorem k319_231 : decode (gb 319) 231 = .ok (.aload_n 0, 1) := by decide +kernel
theorem k319_232 : decode (gb 319) 232 = .ok (.getfield 126, 3) := by decide +kernel
theorem k319_235 : decode (gb 319) 235 = .ok (.bipush 19, 2) := by decide +kernel
theorem k319_237 : decode (gb 319) 237 = .ok (.dup2, 1) := by decide +kernel
theorem k319_238 : decode (gb 319) 238 = .ok (.iaload, 1) := by decide +kernel
theorem k319_239 : decode (gb 319) 239 = .ok (.iconst 1, 1) := by decide +kernel
theorem k319_240 : decode (gb 319) 240 = .ok (.iadd, 1) := by decide +kernel
theorem k319_241 : decode (gb 319) 241 = .ok (.iastore, 1) := by decide +kernel
theorem k319_242 : decode (gb 319) 242 = .ok (.aload_n 0, 1) := by decide +kernel
theorem k319_243 : decode (gb 319) 243 = .ok (.bipush 8, 2) := by decide +kernel
theorem k319_245 : decode (gb 319) 245 = .ok (.iload_n 1, 1) := by decide +kernel
theorem k319_246 : decode (gb 319) 246 = .ok (.iload_n 2, 1) := by decide +kernel
theorem k319_247 : decode (gb 319) 247 = .ok (.bipush 16, 2) := by decide +kernel
theorem k319_249 : decode (gb 319) 249 = .ok (.invokevirtual 488, 3) := by decide +kernel
theorem k319_252 : decode (gb 319) 252 = .ok (.return_, 1) := by decide +kernel
theorem k319_253 : decode (gb 319) 253 = .ok (.aload_n 0, 1) := by decide +kernel
theorem k319_254 : decode (gb 319) 254 = .ok (.aload_n 0, 1) := by decide +kernel
theorem k319_255 : decode (gb 319) 255 = .ok (.getfield 513, 3) := by decide +kernel
theorem k319_258 : decode (gb 319) 258 = .ok (.bipush 7, 2) := by decide +kernel
theorem k319_260 : decode (gb 319) 260 = .ok (.iaload, 1) := by decide +kernel
theorem k319_261 : decode (gb 319) 261 = .ok (.aload_n 0, 1) := by decide +kernel
theorem k319_262 : decode (gb 319) 262 = .ok (.getfield 513, 3) := by decide +kernel
theorem k319_265 : decode (gb 319) 265 = .ok (.bipush 8, 2) := by decide +kernel
theorem k319_267 : decode (gb 319) 267 = .ok (.iaload, 1) := by decide +kernel
theorem k319_268 : decode (gb 319) 268 = .ok (.invokevirtual 520, 3) := by decide +kernel
theorem k319_271 : decode (gb 319) 271 = .ok (.iload_n 3, 1) := by decide +kernel
theorem k319_272 : decode (gb 319) 272 = .ok (.iconst 1, 1) := by decide +kernel
theorem k319_273 : decode (gb 319) 273 = .ok (.iand, 1) := by decide +kernel
theorem k319_274 : decode (gb 319) 274 = .ok (.ifCond .eq 12, 3) := by decide +kernel
theorem k319_277 : decode (gb 319) 277 = .ok (.aload_n 0, 1) := by decide +kernel
theorem k319_278 : decode (gb 319) 278 = .ok (.bipush 7, 2) := by decide +kernel
theorem k319_280 : decode (gb 319) 280 = .ok (.iload_n 1, 1) := by decide +kernel
theorem k319_281 : decode (gb 319) 281 = .ok (.iload_n 2, 1) := by decide +kernel
theorem k319_282 : decode (gb 319) 282 = .ok (.iconst 0, 1) := by decide +kernel
theorem k319_283 : decode (gb 319) 283 = .ok (.invokevirtual 488, 3) := by decide +kernel
theorem k319_286 : decode (gb 319) 286 = .ok (.aload_n 0, 1) := by decide +kernel
theorem k319_287 : decode (gb 319) 287 = .ok (.getfield 126, 3) := by decide +kernel
theorem k319_290 : decode (gb 319) 290 = .ok (.bipush 20, 2) := by decide +kernel
theorem k319_292 : decode (gb 319) 292 = .ok (.dup2, 1) := by decide +kernel
theorem k319_293 : decode (gb 319) 293 = .ok (.iaload, 1) := by decide +kernel
theorem k319_294 : decode (gb 319) 294 = .ok (.iconst 1, 1) := by decide +kernel
theorem k319_295 : decode (gb 319) 295 = .ok (.iadd, 1) := by decide +kernel
theorem k319_296 : decode (gb 319) 296 = .ok (.iastore, 1) := by decide +kernel
theorem k319_297 : decode (gb 319) 297 = .ok (.return_, 1) := by decide +kernel
def c319_286 (μ : Mem) : Option (Mem) :=
  (ldA 162 (20 : Int32) μ).bind fun x1 =>
  (stA 162 (20 : Int32) (x1 + (1 : Int32)) μ).bind fun m3 =>
  some m3
theorem c319_286_ok {L : Nat} (μ : Mem) (res : Mem) (h : c319_286 μ = some res) : Sx 319 286 [(0, .ref 129)] [] 0 0 (mk L μ) (mk L res, none) := by
  unfold c319_286 at h
  refine sx_aload_n (i := 0) k319_286 rfl rfl ?_
  refine cx_getR (k := 78) k319_287 ow_319 fl_12_126 (by decide) sk_129 ft_11_78 sr_129_78 ?_
  refine sx_bipush (v := 20) k319_290 (by decide) ?_
  refine sx_dup2 k319_292 rfl rfl ?_
  obtain ⟨x1, e2, h⟩ := Option.bind_eq_some_iff.mp h
  refine cx_iald k319_293 sk_162 e2 ?_
  refine sx_iconst (v := 1) k319_294 (by decide) ?_
  refine sx_iadd k319_295 ?_
  obtain ⟨m3, e4, h⟩ := Option.bind_eq_some_iff.mp h
  refine cx_iast k319_296 sk_162 e4 ?_
  exact cx_retv k319_297 rt_319 h
def c319_253 (v1 : Int32) (v2 : Int32) (v3 : Int32) (μ : Mem) : Option (Mem) :=
  (ldA 182 (7 : Int32) μ).bind fun x1 =>
  (ldA 182 (8 : Int32) μ).bind fun x3 =>
  (f325 x1 x3 μ).bind fun r5 =>
  if (v3 &&& (1 : Int32)) = 0 then
    c319_286 r5
  else
    (f318 (7 : Int32) v1 v2 (0 : Int32) r5).bind fun r8 =>
    c319_286 r8
theorem c319_253_ok {L : Nat} (v1 : Int32) (v2 : Int32) (v3 : Int32) (μ : Mem) (res : Mem) (h : c319_253 v1 v2 v3 μ = some res) : Sx 319 253 [(0, .ref 129), (1, .int v1), (2, .int v2), (3, .int v3)] [] 0 0 (mk L μ) (mk L res, none) := by
  unfold c319_253 at h
  refine sx_aload_n (i := 0) k319_253 rfl rfl ?_
  refine sx_aload_n (i := 0) k319_254 rfl rfl ?_
  refine cx_getR (k := 105) k319_255 ow_319 fl_12_513 (by decide) sk_129 ft_11_105 sr_129_105 ?_
  refine sx_bipush (v := 7) k319_258 (by decide) ?_
  obtain ⟨x1, e2, h⟩ := Option.bind_eq_some_iff.mp h
  refine cx_iald k319_260 sk_182 e2 ?_
  refine sx_aload_n (i := 0) k319_261 rfl rfl ?_
  refine cx_getR (k := 105) k319_262 ow_319 fl_12_513 (by decide) sk_129 ft_11_105 sr_129_105 ?_
  refine sx_bipush (v := 8) k319_265 (by decide) ?_
  obtain ⟨x3, e4, h⟩ := Option.bind_eq_some_iff.mp h
  refine cx_iald k319_267 sk_182 e4 ?_
  obtain ⟨r5, e6, h⟩ := Option.bind_eq_some_iff.mp h
  refine cx_V (sk := []) (vs := [.int x1, .int x3]) st_319_325 k319_268 ow_319 cl_12_520 (by decide) rfl (Nat.le_of_ble_eq_true rfl) sk_129 (ok325 x1 x3 _ _ e6) (sk3 := []) rfl rfl ?_
  refine sx_iload_n (i := 3) k319_271 rfl rfl ?_
  refine sx_iconst (v := 1) k319_272 (by decide) ?_
  refine sx_iand k319_273 ?_
  by_cases hb7 : (v3 &&& (1 : Int32)) = 0
  · rw [if_pos hb7] at h
    refine sx_if_eq (tgt := 286) k319_274 (by decide) (fun _ => ?_) (fun q => absurd hb7 q)
    refine sx_pick (lo2 := [(0, .ref 129)]) [0] rfl ?_
    exact c319_286_ok _ _ h
  · rw [if_neg hb7] at h
    refine sx_if_eq (tgt := 286) k319_274 (by decide) (fun q => absurd q hb7) (fun _ => ?_)
    refine sx_aload_n (i := 0) k319_277 rfl rfl ?_
    refine sx_bipush (v := 7) k319_278 (by decide) ?_
    refine sx_iload_n (i := 1) k319_280 rfl rfl ?_
    refine sx_iload_n (i := 2) k319_281 rfl rfl ?_
    refine sx_iconst (v := 0) k319_282 (by decide) ?_
    obtain ⟨r8, e9, h⟩ := Option.bind_eq_some_iff.mp h
    refine cx_V (sk := []) (vs := [.int (7 : Int32), .int v1, .int v2, .int (0 : Int32)]) st_319_318 k319_283 ow_319 cl_12_488 (by decide) rfl (Nat.le_of_ble_eq_true rfl) sk_129 (ok318 (7 : Int32) v1 v2 (0 : Int32) _ _ e9) (sk3 := []) rfl rfl ?_
    refine sx_pick (lo2 := [(0, .ref 129)]) [0] rfl ?_
    exact c319_286_ok _ _ h
def c319_208 (v1 : Int32) (v2 : Int32) (v3 : Int32) (μ : Mem) : Option (Mem) :=
  (ldA 182 (7 : Int32) μ).bind fun x1 =>
  if x1 = (8 : Int32) then
    (ldA 182 (11 : Int32) μ).bind fun x4 =>
    if x4 = (2 : Int32) then
      (ldA 162 (19 : Int32) μ).bind fun x7 =>
      (stA 162 (19 : Int32) (x7 + (1 : Int32)) μ).bind fun m9 =>
      (f318 (8 : Int32) v1 v2 (16 : Int32) m9).bind fun r11 =>
      some r11
    else
      c319_253 v1 v2 v3 μ
  else
    c319_253 v1 v2 v3 μ
theorem c319_208_ok {L : Nat} (v1 : Int32) (v2 : Int32) (v3 : Int32) (μ : Mem) (res : Mem) (h : c319_208 v1 v2 v3 μ = some res) : Sx 319 208 [(0, .ref 129), (1, .int v1), (2, .int v2), (3, .int v3)] [] 0 0 (mk L μ) (mk L res, none) := by
  unfold c319_208 at h
  refine sx_aload_n (i := 0) k319_208 rfl rfl ?_
  refine cx_getR (k := 105) k319_209 ow_319 fl_12_513 (by decide) sk_129 ft_11_105 sr_129_105 ?_
  refine sx_bipush (v := 7) k319_212 (by decide) ?_
  obtain ⟨x1, e2, h⟩ := Option.bind_eq_some_iff.mp h
  refine cx_iald k319_214 sk_182 e2 ?_
  refine sx_bipush (v := 8) k319_215 (by decide) ?_
  by_cases hb3 : x1 = (8 : Int32)
  · rw [if_pos hb3] at h
    refine sx_icmp_ne (tgt := 253) k319_217 (by decide) (fun q => absurd hb3 q) (fun _ => ?_)
    refine sx_aload_n (i := 0) k319_220 rfl rfl ?_
    refine cx_getR (k := 105) k319_221 ow_319 fl_12_513 (by decide) sk_129 ft_11_105 sr_129_105 ?_
    refine sx_bipush (v := 11) k319_224 (by decide) ?_
    obtain ⟨x4, e5, h⟩ := Option.bind_eq_some_iff.mp h
    refine cx_iald k319_226 sk_182 e5 ?_
    refine sx_iconst (v := 2) k319_227 (by decide) ?_
    by_cases hb6 : x4 = (2 : Int32)
    · rw [if_pos hb6] at h
      refine sx_icmp_ne (tgt := 253) k319_228 (by decide) (fun q => absurd hb6 q) (fun _ => ?_)
      refine sx_aload_n (i := 0) k319_231 rfl rfl ?_
      refine cx_getR (k := 78) k319_232 ow_319 fl_12_126 (by decide) sk_129 ft_11_78 sr_129_78 ?_
      refine sx_bipush (v := 19) k319_235 (by decide) ?_
      refine sx_dup2 k319_237 rfl rfl ?_
      obtain ⟨x7, e8, h⟩ := Option.bind_eq_some_iff.mp h
      refine cx_iald k319_238 sk_162 e8 ?_
      refine sx_iconst (v := 1) k319_239 (by decide) ?_
      refine sx_iadd k319_240 ?_
      obtain ⟨m9, e10, h⟩ := Option.bind_eq_some_iff.mp h
      refine cx_iast k319_241 sk_162 e10 ?_
      refine sx_aload_n (i := 0) k319_242 rfl rfl ?_
      refine sx_bipush (v := 8) k319_243 (by decide) ?_
      refine sx_iload_n (i := 1) k319_245 rfl rfl ?_
      refine sx_iload_n (i := 2) k319_246 rfl rfl ?_
      refine sx_bipush (v := 16) k319_247 (by decide) ?_
      obtain ⟨r11, e12, h⟩ := Option.bind_eq_some_iff.mp h
      refine cx_V (sk := []) (vs := [.int (8 : Int32), .int v1, .int v2, .int (16 : Int32)]) st_319_318 k319_249 ow_319 cl_12_488 (by decide) rfl (Nat.le_of_ble_eq_true rfl) sk_129 (ok318 (8 : Int32) v1 v2 (16 : Int32) _ _ e12) (sk3 := []) rfl rfl ?_
      exact cx_retv k319_252 rt_319 h
    · rw [if_neg hb6] at h
      refine sx_icmp_ne (tgt := 253) k319_228 (by decide) (fun _ => ?_) (fun q => absurd q hb6)
      refine sx_pick (lo2 := [(0, .ref 129), (1, .int v1), (2, .int v2), (3, .int v3)]) [0, 1, 2, 3] rfl ?_
      exact c319_253_ok v1 v2 v3 _ _ h
  · rw [if_neg hb3] at h
    refine sx_icmp_ne (tgt := 253) k319_217 (by decide) (fun _ => ?_) (fun q => absurd q hb3)
    refine sx_pick (lo2 := [(0, .ref 129), (1, .int v1), (2, .int v2), (3, .int v3)]) [0, 1, 2, 3] rfl ?_
    exact c319_253_ok v1 v2 v3 _ _ h
def b319_49 (kl49 : Int32 → Mem → Option (Mem)) (v1 : Int32) (μ : Mem) : Option (Mem) :=
  if (μ.1 129 104) ≤ v1 then
    (pfZ 129 21 (0 : Int32) μ).bind fun m2 =>
    (ldA 182 (2 : Int32) m2).bind fun x4 =>
    (ldA 182 (3 : Int32) m2).bind fun x6 =>
    (ldA 182 (6 : Int32) m2).bind fun x8 =>
    nm (x8 &&& (15 : Int32)) fun x10 =>
    (ldA 182 (7 : Int32) m2).bind fun x11 =>
    (ldA 182 (8 : Int32) m2).bind fun x13 =>
    (f321 x11 x13 m2).bind fun r15 =>
    if r15.2 ≤ 0 then
      if (x10 &&& (4 : Int32)) = 0 then
        c319_208 x4 x6 x10 r15.1
      else
        (f318 (3 : Int32) x4 x6 (0 : Int32) r15.1).bind fun r19 =>
        c319_208 x4 x6 x10 r19
    else
      (ldA 162 (19 : Int32) r15.1).bind fun x21 =>
      (stA 162 (19 : Int32) (x21 + (1 : Int32)) r15.1).bind fun m23 =>
      (f318 (4 : Int32) x4 x6 r15.2 m23).bind fun r25 =>
      some r25
  else
    (ldA 180 (v1 + (1 : Int32)) μ).bind fun x27 =>
    (stA 180 v1 x27 μ).bind fun m29 =>
    (ldA 181 (v1 + (1 : Int32)) m29).bind fun x31 =>
    (stA 181 v1 x31 m29).bind fun m33 =>
    (ldA 180 v1 m33).bind fun x35 =>
    (f273 179 ((64 : Int32) * (v1 + (1 : Int32))) 179 ((64 : Int32) * v1) x35 m33).bind fun r37 =>
    nm (v1 + (1 : Int32)) fun x39 =>
    kl49 x39 r37
theorem b319_49_ok {L : Nat} (kl49 : Int32 → Mem → Option (Mem)) (hk49 : (∀ (v1 : Int32) (μ : Mem) (res : Mem), kl49 v1 μ = some res → Sx 319 49 [(0, .ref 129), (1, .int v1)] [] 0 0 (mk L μ) (mk L res, none))) (v1 : Int32) (μ : Mem) (res : Mem) (h : b319_49 kl49 v1 μ = some res) : Sx 319 49 [(0, .ref 129), (1, .int v1)] [] 0 0 (mk L μ) (mk L res, none) := by
  unfold b319_49 at h
  refine sx_iload_n (i := 1) k319_49 rfl rfl ?_
  refine sx_aload_n (i := 0) k319_50 rfl rfl ?_
  refine cx_getI (k := 104) k319_51 ow_319 fl_12_148 (by decide) sk_129 ft_11_104 ?_
  by_cases hb1 : (μ.1 129 104) ≤ v1
  · rw [if_pos hb1] at h
    refine sx_icmp_ge (tgt := 118) k319_54 (by decide) (fun _ => ?_) (fun q => absurd hb1 q)
    refine sx_aload_n (i := 0) k319_118 rfl rfl ?_
    refine sx_iconst (v := 0) k319_119 (by decide) ?_
    obtain ⟨m2, e3, h⟩ := Option.bind_eq_some_iff.mp h
    refine cx_putZ (k := 21) k319_120 ow_319 fl_12_142 (by decide) sk_129 nf_11_21 fu_11_21 e3 ?_
    refine sx_aload_n (i := 0) k319_123 rfl rfl ?_
    refine cx_getR (k := 105) k319_124 ow_319 fl_12_513 (by decide) sk_129 ft_11_105 sr_129_105 ?_
    refine sx_iconst (v := 2) k319_127 (by decide) ?_
    obtain ⟨x4, e5, h⟩ := Option.bind_eq_some_iff.mp h
    refine cx_iald k319_128 sk_182 e5 ?_
    refine cx_istore_n (lo2 := [(1, .int x4), (0, .ref 129)]) k319_129 rfl (by rw [mx_319]; decide) rfl ?_
    refine sx_aload_n (i := 0) k319_130 rfl rfl ?_
    refine cx_getR (k := 105) k319_131 ow_319 fl_12_513 (by decide) sk_129 ft_11_105 sr_129_105 ?_
    refine sx_iconst (v := 3) k319_134 (by decide) ?_
    obtain ⟨x6, e7, h⟩ := Option.bind_eq_some_iff.mp h
    refine cx_iald k319_135 sk_182 e7 ?_
    refine cx_istore_n (lo2 := [(2, .int x6), (1, .int x4), (0, .ref 129)]) k319_136 rfl (by rw [mx_319]; decide) rfl ?_
    refine sx_aload_n (i := 0) k319_137 rfl rfl ?_
    refine cx_getR (k := 105) k319_138 ow_319 fl_12_513 (by decide) sk_129 ft_11_105 sr_129_105 ?_
    refine sx_bipush (v := 6) k319_141 (by decide) ?_
    obtain ⟨x8, e9, h⟩ := Option.bind_eq_some_iff.mp h
    refine cx_iald k319_143 sk_182 e9 ?_
    refine sx_bipush (v := 15) k319_144 (by decide) ?_
    refine sx_iand k319_146 ?_
    refine cx_nm h (fun x10 h => ?_)
    refine cx_istore_n (lo2 := [(3, .int x10), (2, .int x6), (1, .int x4), (0, .ref 129)]) k319_147 rfl (by rw [mx_319]; decide) rfl ?_
    refine sx_aload_n (i := 0) k319_148 rfl rfl ?_
    refine sx_aload_n (i := 0) k319_149 rfl rfl ?_
    refine cx_getR (k := 105) k319_150 ow_319 fl_12_513 (by decide) sk_129 ft_11_105 sr_129_105 ?_
    refine sx_bipush (v := 7) k319_153 (by decide) ?_
    obtain ⟨x11, e12, h⟩ := Option.bind_eq_some_iff.mp h
    refine cx_iald k319_155 sk_182 e12 ?_
    refine sx_aload_n (i := 0) k319_156 rfl rfl ?_
    refine cx_getR (k := 105) k319_157 ow_319 fl_12_513 (by decide) sk_129 ft_11_105 sr_129_105 ?_
    refine sx_bipush (v := 8) k319_160 (by decide) ?_
    obtain ⟨x13, e14, h⟩ := Option.bind_eq_some_iff.mp h
    refine cx_iald k319_162 sk_182 e14 ?_
    obtain ⟨r15, e16, h⟩ := Option.bind_eq_some_iff.mp h
    refine cx_V (sk := []) (vs := [.int x11, .int x13]) st_319_321 k319_163 ow_319 cl_12_516 (by decide) rfl (Nat.le_of_ble_eq_true rfl) sk_129 (ok321 x11 x13 _ _ e16) (sk3 := [.int r15.2]) rfl rfl ?_
    refine cx_istore (lo2 := [(4, .int r15.2), (3, .int x10), (2, .int x6), (1, .int x4), (0, .ref 129)]) k319_166 (by rw [mx_319]; decide) rfl ?_
    refine sx_iload k319_168 rfl ?_
    by_cases hb17 : r15.2 ≤ 0
    · rw [if_pos hb17] at h
      refine sx_if_le (tgt := 194) k319_170 (by decide) (fun _ => ?_) (fun q => absurd hb17 q)
      refine sx_iload_n (i := 3) k319_194 rfl rfl ?_
      refine sx_iconst (v := 4) k319_195 (by decide) ?_
      refine sx_iand k319_196 ?_
      by_cases hb18 : (x10 &&& (4 : Int32)) = 0
      · rw [if_pos hb18] at h
        refine sx_if_eq (tgt := 208) k319_197 (by decide) (fun _ => ?_) (fun q => absurd hb18 q)
        refine sx_pick (lo2 := [(0, .ref 129), (1, .int x4), (2, .int x6), (3, .int x10)]) [4, 3, 2, 1] rfl ?_
        exact c319_208_ok x4 x6 x10 _ _ h
      · rw [if_neg hb18] at h
        refine sx_if_eq (tgt := 208) k319_197 (by decide) (fun q => absurd q hb18) (fun _ => ?_)
        refine sx_aload_n (i := 0) k319_200 rfl rfl ?_
        refine sx_iconst (v := 3) k319_201 (by decide) ?_
        refine sx_iload_n (i := 1) k319_202 rfl rfl ?_
        refine sx_iload_n (i := 2) k319_203 rfl rfl ?_
        refine sx_iconst (v := 0) k319_204 (by decide) ?_
        obtain ⟨r19, e20, h⟩ := Option.bind_eq_some_iff.mp h
        refine cx_V (sk := []) (vs := [.int (3 : Int32), .int x4, .int x6, .int (0 : Int32)]) st_319_318 k319_205 ow_319 cl_12_488 (by decide) rfl (Nat.le_of_ble_eq_true rfl) sk_129 (ok318 (3 : Int32) x4 x6 (0 : Int32) _ _ e20) (sk3 := []) rfl rfl ?_
        refine sx_pick (lo2 := [(0, .ref 129), (1, .int x4), (2, .int x6), (3, .int x10)]) [4, 3, 2, 1] rfl ?_
        exact c319_208_ok x4 x6 x10 _ _ h
    · rw [if_neg hb17] at h
      refine sx_if_le (tgt := 194) k319_170 (by decide) (fun q => absurd q hb17) (fun _ => ?_)
      refine sx_aload_n (i := 0) k319_173 rfl rfl ?_
      refine cx_getR (k := 78) k319_174 ow_319 fl_12_126 (by decide) sk_129 ft_11_78 sr_129_78 ?_
      refine sx_bipush (v := 19) k319_177 (by decide) ?_
      refine sx_dup2 k319_179 rfl rfl ?_
      obtain ⟨x21, e22, h⟩ := Option.bind_eq_some_iff.mp h
      refine cx_iald k319_180 sk_162 e22 ?_
      refine sx_iconst (v := 1) k319_181 (by decide) ?_
      refine sx_iadd k319_182 ?_
      obtain ⟨m23, e24, h⟩ := Option.bind_eq_some_iff.mp h
      refine cx_iast k319_183 sk_162 e24 ?_
      refine sx_aload_n (i := 0) k319_184 rfl rfl ?_
      refine sx_iconst (v := 4) k319_185 (by decide) ?_
      refine sx_iload_n (i := 1) k319_186 rfl rfl ?_
      refine sx_iload_n (i := 2) k319_187 rfl rfl ?_
      refine sx_iload k319_188 rfl ?_
      obtain ⟨r25, e26, h⟩ := Option.bind_eq_some_iff.mp h
      refine cx_V (sk := []) (vs := [.int (4 : Int32), .int x4, .int x6, .int r15.2]) st_319_318 k319_190 ow_319 cl_12_488 (by decide) rfl (Nat.le_of_ble_eq_true rfl) sk_129 (ok318 (4 : Int32) x4 x6 r15.2 _ _ e26) (sk3 := []) rfl rfl ?_
      exact cx_retv k319_193 rt_319 h
  · rw [if_neg hb1] at h
    refine sx_icmp_ge (tgt := 118) k319_54 (by decide) (fun q => absurd q hb1) (fun _ => ?_)
    refine sx_aload_n (i := 0) k319_57 rfl rfl ?_
    refine cx_getR (k := 102) k319_58 ow_319 fl_12_495 (by decide) sk_129 ft_11_102 sr_129_102 ?_
    refine sx_iload_n (i := 1) k319_61 rfl rfl ?_
    refine sx_aload_n (i := 0) k319_62 rfl rfl ?_
    refine cx_getR (k := 102) k319_63 ow_319 fl_12_495 (by decide) sk_129 ft_11_102 sr_129_102 ?_
    refine sx_iload_n (i := 1) k319_66 rfl rfl ?_
    refine sx_iconst (v := 1) k319_67 (by decide) ?_
    refine sx_iadd k319_68 ?_
    obtain ⟨x27, e28, h⟩ := Option.bind_eq_some_iff.mp h
    refine cx_iald k319_69 sk_180 e28 ?_
    obtain ⟨m29, e30, h⟩ := Option.bind_eq_some_iff.mp h
    refine cx_iast k319_70 sk_180 e30 ?_
    refine sx_aload_n (i := 0) k319_71 rfl rfl ?_
    refine cx_getR (k := 103) k319_72 ow_319 fl_12_498 (by decide) sk_129 ft_11_103 sr_129_103 ?_
    refine sx_iload_n (i := 1) k319_75 rfl rfl ?_
    refine sx_aload_n (i := 0) k319_76 rfl rfl ?_
    refine cx_getR (k := 103) k319_77 ow_319 fl_12_498 (by decide) sk_129 ft_11_103 sr_129_103 ?_
    refine sx_iload_n (i := 1) k319_80 rfl rfl ?_
    refine sx_iconst (v := 1) k319_81 (by decide) ?_
    refine sx_iadd k319_82 ?_
    obtain ⟨x31, e32, h⟩ := Option.bind_eq_some_iff.mp h
    refine cx_iald k319_83 sk_181 e32 ?_
    obtain ⟨m33, e34, h⟩ := Option.bind_eq_some_iff.mp h
    refine cx_iast k319_84 sk_181 e34 ?_
    refine sx_aload_n (i := 0) k319_85 rfl rfl ?_
    refine cx_getR (k := 101) k319_86 ow_319 fl_12_492 (by decide) sk_129 ft_11_101 sr_129_101 ?_
    refine sx_bipush (v := 64) k319_89 (by decide) ?_
    refine sx_iload_n (i := 1) k319_91 rfl rfl ?_
    refine sx_iconst (v := 1) k319_92 (by decide) ?_
    refine sx_iadd k319_93 ?_
    refine sx_imul k319_94 ?_
    refine sx_aload_n (i := 0) k319_95 rfl rfl ?_
    refine cx_getR (k := 101) k319_96 ow_319 fl_12_492 (by decide) sk_129 ft_11_101 sr_129_101 ?_
    refine sx_bipush (v := 64) k319_99 (by decide) ?_
    refine sx_iload_n (i := 1) k319_101 rfl rfl ?_
    refine sx_imul k319_102 ?_
    refine sx_aload_n (i := 0) k319_103 rfl rfl ?_
    refine cx_getR (k := 102) k319_104 ow_319 fl_12_495 (by decide) sk_129 ft_11_102 sr_129_102 ?_
    refine sx_iload_n (i := 1) k319_107 rfl rfl ?_
    obtain ⟨x35, e36, h⟩ := Option.bind_eq_some_iff.mp h
    refine cx_iald k319_108 sk_180 e36 ?_
    obtain ⟨r37, e38, h⟩ := Option.bind_eq_some_iff.mp h
    refine cx_S (sk := []) (vs := [.ref 179, .int ((64 : Int32) * (v1 + (1 : Int32))), .ref 179, .int ((64 : Int32) * v1), .int x35]) st_319_273 k319_109 ow_319 cl_12_228 (by decide) rfl (Nat.le_of_ble_eq_true rfl) (ok273 179 ((64 : Int32) * (v1 + (1 : Int32))) 179 ((64 : Int32) * v1) x35 sk_179 sk_179 _ _ e38) (sk3 := []) rfl rfl ?_
    refine cx_iinc (c := 1) (lo2 := fun x39 => [(1, .int x39), (0, .ref 129)]) k319_112 rfl (by decide) (by rw [mx_319]; decide) (fun _ => rfl) h (fun x39 h => ?_)
    refine sx_goto (tgt := 49) k319_115 (by decide) ?_
    refine sx_pick (lo2 := [(0, .ref 129), (1, .int x39)]) [1, 0] rfl ?_
    exact hk49 x39 _ _ h
def l319_49 : Nat → Int32 × Mem → Option (Mem) :=
  fixN (fun self x => b319_49 (fun v1 μ => self (v1, μ)) (x.1) (x.2))
theorem l319_49_ok {L : Nat} (n : Nat) (v1 : Int32) (μ : Mem) (res : Mem) (h : l319_49 n (v1, μ) = some res) : Sx 319 49 [(0, .ref 129), (1, .int v1)] [] 0 0 (mk L μ) (mk L res, none) := by
  have key := fixN_ind (P := fun x res => Sx 319 49 [(0, .ref 129), (1, .int (x.1))] [] 0 0 (mk L (x.2)) (mk L res, none)) (F := fun self x => b319_49 (fun v1 μ => self (v1, μ)) (x.1) (x.2)) (fun self hself x res h => b319_49_ok (fun v1 μ => self (v1, μ)) (fun v1 μ res hh => hself (v1, μ) res hh) (x.1) (x.2) res h) n (v1, μ) res h
  exact key
/-- CraftHouseModel.doFirst()V -/
def f319 (μ : Mem) : Option (Mem) :=
  (ldA 180 (0 : Int32) μ).bind fun x1 =>
  (pfI 129 106 x1 μ).bind fun m3 =>
  (ldA 181 (0 : Int32) m3).bind fun x5 =>
  (pfI 129 107 x5 m3).bind fun m7 =>
  (f273 179 (0 : Int32) 182 (0 : Int32) (m7.1 129 106) m7).bind fun r9 =>
  (pfI 129 104 ((r9.1 129 104) - (1 : Int32)) r9).bind fun m11 =>
  l319_49 gF ((0 : Int32), m11)
theorem ok319 {L : Nat} (μ : Mem) (res : Mem) (h : f319 μ = some res) : Mx 319 [.ref 129] (mk L μ) (mk L res, none) := by
  refine Mx_of ml_319 (by rw [mx_319]; exact Nat.le_of_ble_eq_true rfl) ?_
  show Sx 319 0 [(0, .ref 129)] [] 0 0 (mk L μ) _
  unfold f319 at h
  refine sx_aload_n (i := 0) k319_0 rfl rfl ?_
  refine sx_aload_n (i := 0) k319_1 rfl rfl ?_
  refine cx_getR (k := 102) k319_2 ow_319 fl_12_495 (by decide) sk_129 ft_11_102 sr_129_102 ?_
  refine sx_iconst (v := 0) k319_5 (by decide) ?_
  obtain ⟨x1, e2, h⟩ := Option.bind_eq_some_iff.mp h
  refine cx_iald k319_6 sk_180 e2 ?_
  obtain ⟨m3, e4, h⟩ := Option.bind_eq_some_iff.mp h
  refine cx_putI (k := 106) k319_7 ow_319 fl_12_507 (by decide) sk_129 nf_11_106 fu_11_106 e4 ?_
  refine sx_aload_n (i := 0) k319_10 rfl rfl ?_
  refine sx_aload_n (i := 0) k319_11 rfl rfl ?_
  refine cx_getR (k := 103) k319_12 ow_319 fl_12_498 (by decide) sk_129 ft_11_103 sr_129_103 ?_
  refine sx_iconst (v := 0) k319_15 (by decide) ?_
  obtain ⟨x5, e6, h⟩ := Option.bind_eq_some_iff.mp h
  refine cx_iald k319_16 sk_181 e6 ?_
  obtain ⟨m7, e8, h⟩ := Option.bind_eq_some_iff.mp h
  refine cx_putI (k := 107) k319_17 ow_319 fl_12_510 (by decide) sk_129 nf_11_107 fu_11_107 e8 ?_
  refine sx_aload_n (i := 0) k319_20 rfl rfl ?_
  refine cx_getR (k := 101) k319_21 ow_319 fl_12_492 (by decide) sk_129 ft_11_101 sr_129_101 ?_
  refine sx_iconst (v := 0) k319_24 (by decide) ?_
  refine sx_aload_n (i := 0) k319_25 rfl rfl ?_
  refine cx_getR (k := 105) k319_26 ow_319 fl_12_513 (by decide) sk_129 ft_11_105 sr_129_105 ?_
  refine sx_iconst (v := 0) k319_29 (by decide) ?_
  refine sx_aload_n (i := 0) k319_30 rfl rfl ?_
  refine cx_getI (k := 106) k319_31 ow_319 fl_12_507 (by decide) sk_129 ft_11_106 ?_
  obtain ⟨r9, e10, h⟩ := Option.bind_eq_some_iff.mp h
  refine cx_S (sk := []) (vs := [.ref 179, .int (0 : Int32), .ref 182, .int (0 : Int32), .int (m7.1 129 106)]) st_319_273 k319_34 ow_319 cl_12_228 (by decide) rfl (Nat.le_of_ble_eq_true rfl) (ok273 179 (0 : Int32) 182 (0 : Int32) (m7.1 129 106) sk_179 sk_182 _ _ e10) (sk3 := []) rfl rfl ?_
  refine sx_aload_n (i := 0) k319_37 rfl rfl ?_
  refine sx_dup k319_38 rfl ?_
  refine cx_getI (k := 104) k319_39 ow_319 fl_12_148 (by decide) sk_129 ft_11_104 ?_
  refine sx_iconst (v := 1) k319_42 (by decide) ?_
  refine sx_isub k319_43 ?_
  obtain ⟨m11, e12, h⟩ := Option.bind_eq_some_iff.mp h
  refine cx_putI (k := 104) k319_44 ow_319 fl_12_148 (by decide) sk_129 nf_11_104 fu_11_104 e12 ?_
  refine sx_iconst (v := 0) k319_47 (by decide) ?_
  refine cx_istore_n (lo2 := [(1, .int (0 : Int32)), (0, .ref 129)]) k319_48 rfl (by rw [mx_319]; decide) rfl ?_
  refine sx_pick (lo2 := [(0, .ref 129), (1, .int (0 : Int32))]) [1, 0] rfl ?_
  exact l319_49_ok gF (0 : Int32) _ _ h
theorem k338_0 : decode (gb 338) 0 = .ok (.aload_n 0, 1) := by decide +kernel
theorem k338_1 : decode (gb 338) 1 = .ok (.getfield 402, 3) := by decide +kernel
theorem k338_4 : decode (gb 338) 4 = .ok (.ifCond .le 87, 3) := by decide +kernel
theorem k338_7 : decode (gb 338) 7 = .ok (.aload_n 0, 1) := by decide +kernel
theorem k338_8 : decode (gb 338) 8 = .ok (.getfield 554, 3) := by decide +kernel
theorem k338_11 : decode (gb 338) 11 = .ok (.iconst 0, 1) := by decide +kernel
theorem k338_12 : decode (gb 338) 12 = .ok (.iaload, 1) := by decide +kernel
theorem k338_13 : decode (gb 338) 13 = .ok (.aload_n 0, 1) := by decide +kernel
theorem k338_14 : decode (gb 338) 14 = .ok (.getfield 405, 3) := by decide +kernel
theorem k338_17 : decode (gb 338) 17 = .ok (.if_icmp .gt 74, 3) := by decide +kernel
theorem k338_20 : decode (gb 338) 20 = .ok (.aload_n 0, 1) := by decide +kernel
theorem k338_21 : decode (gb 338) 21 = .ok (.getfield 652, 3) := by decide +kernel
theorem k338_24 : decode (gb 338) 24 = .ok (.ifCond .eq 21, 3) := by decide +kernel
theorem k338_27 : decode (gb 338) 27 = .ok (.aload_n 0, 1) := by decide +kernel
theorem k338_28 : decode (gb 338) 28 = .ok (.getfield 658, 3) := by decide +kernel
theorem k338_31 : decode (gb 338) 31 = .ok (.aload_n 0, 1) := by decide +kernel
theorem k338_32 : decode (gb 338) 32 = .ok (.getfield 646, 3) := by decide +kernel
theorem k338_35 : decode (gb 338) 35 = .ok (.iconst 0, 1) := by decide +kernel
theorem k338_36 : decode (gb 338) 36 = .ok (.iaload, 1) := by decide +kernel
theorem k338_37 : decode (gb 338) 37 = .ok (.baload, 1) := by decide +kernel
theorem k338_38 : decode (gb 338) 38 = .ok (.ifCond .ne 7, 3) := by decide +kernel
theorem k338_41 : decode (gb 338) 41 = .ok (.iconst 1, 1) := by decide +kernel
theorem k338_42 : decode (gb 338) 42 = .ok (.goto 4, 3) := by decide +kernel
theorem k338_45 : decode (gb 338) 45 = .ok (.iconst 0, 1) := by decide +kernel
theorem k338_46 : decode (gb 338) 46 = .ok (.istore_n 1, 1) := by decide +kernel
theorem k338_47 : decode (gb 338) 47 = .ok (.aload_n 0, 1) := by decide +kernel
theorem k338_48 : decode (gb 338) 48 = .ok (.aload_n 0, 1) := by decide +kernel
theorem k338_49 : decode (gb 338) 49 = .ok (.getfield 649, 3) := by decide +kernel
theorem k338_52 : decode (gb 338) 52 = .ok (.iconst 0, 1) := by decide +kernel
theorem k338_53 : decode (gb 338) 53 = .ok (.iaload, 1) := by decide +kernel
theorem k338_54 : decode (gb 338) 54 = .ok (.putfield 164, 3) := by decide +kernel
theorem k338_57 : decode (gb 338) 57 = .ok (.aload_n 0, 1) := by decide +kernel
theorem k338_58 : decode (gb 338) 58 = .ok (.getfield 640, 3) := by decide +kernel
theorem k338_61 : decode (gb 338) 61 = .ok (.iconst 0, 1) := by decide +kernel
theorem k338_62 : decode (gb 338) 62 = .ok (.aload_n 0, 1) := by decide +kernel
theorem k338_63 : decode (gb 338) 63 = .ok (.getfield 167, 3) := by decide +kernel
theorem k338_66 : decode (gb 338) 66 = .ok (.iconst 0, 1) := by decide +kernel
theorem k338_67 : decode (gb 338) 67 = .ok (.aload_n 0, 1) := by decide +kernel
theorem k338_68 : decode (gb 338) 68 = .ok (.getfield 164, 3) := by decide +kernel
theorem k338_71 : decode (gb 338) 71 = .ok (.invokestatic 228, 3) := by decide +kernel
theorem k338_74 : decode (gb 338) 74 = .ok (.aload_n 0, 1) := by decide +kernel
theorem k338_75 : decode (gb 338) 75 = .ok (.iconst 0, 1) := by decide +kernel
theorem k338_76 : decode (gb 338) 76 = .ok (.invokevirtual 655, 3) := by decide +kernel
theorem k338_79 : decode (gb 338) 79 = .ok (.iload_n 1, 1) := by decide +kernel
theorem k338_80 : decode (gb 338) 80 = .ok (.ifCond .eq 8, 3) := by decide +kernel
theorem k338_83 : decode (gb 338) 83 = .ok (.aload_n 0, 1) := by decide +kernel
theorem k338_84 : decode (gb 338) 84 = .ok (.iconst 0, 1) := by decide +kernel
theorem k338_85 : decode (gb 338) 85 = .ok (.invokevirtual 170, 3) := by decide +kernel
theorem k338_88 : decode (gb 338) 88 = .ok (.goto (-88), 3) := by decide +kernel
theorem k338_91 : decode (gb 338) 91 = .ok (.return_, 1) := by decide +kernel
def c338_88 (kl0 : Mem → Option (Mem)) (μ : Mem) : Option (Mem) :=
  kl0 μ
theorem c338_88_ok {L : Nat} (kl0 : Mem → Option (Mem)) (hk0 : (∀ (μ : Mem) (res : Mem), kl0 μ = some res → Sx 338 0 [(0, .ref 129)] [] 0 0 (mk L μ) (mk L res, none))) (μ : Mem) (res : Mem) (h : c338_88 kl0 μ = some res) : Sx 338 88 [(0, .ref 129)] [] 0 0 (mk L μ) (mk L res, none) := by
  unfold c338_88 at h
  refine sx_goto (tgt := 0) k338_88 (by decide) ?_
  refine sx_pick (lo2 := [(0, .ref 129)]) [0] rfl ?_
  exact hk0 _ _ h
def c338_46 (kl0 : Mem → Option (Mem)) (s0 : Int32) (μ : Mem) : Option (Mem) :=
  (ldA 206 (0 : Int32) μ).bind fun x1 =>
  (pfI 129 27 x1 μ).bind fun m3 =>
  (f273 207 (0 : Int32) 140 (0 : Int32) (m3.1 129 27) m3).bind fun r5 =>
  (f334 (0 : Int32) r5).bind fun r7 =>
  if s0 = 0 then
    c338_88 kl0 r7
  else
    (f317 (0 : Int32) r7).bind fun r10 =>
    c338_88 kl0 r10
theorem c338_46_ok {L : Nat} (kl0 : Mem → Option (Mem)) (hk0 : (∀ (μ : Mem) (res : Mem), kl0 μ = some res → Sx 338 0 [(0, .ref 129)] [] 0 0 (mk L μ) (mk L res, none))) (s0 : Int32) (μ : Mem) (res : Mem) (h : c338_46 kl0 s0 μ = some res) : Sx 338 46 [(0, .ref 129)] [.int s0] 0 0 (mk L μ) (mk L res, none) := by
  unfold c338_46 at h
  refine cx_istore_n (lo2 := [(1, .int s0), (0, .ref 129)]) k338_46 rfl (by rw [mx_338]; decide) rfl ?_
  refine sx_aload_n (i := 0) k338_47 rfl rfl ?_
  refine sx_aload_n (i := 0) k338_48 rfl rfl ?_
  refine cx_getR (k := 133) k338_49 ow_338 fl_12_649 (by decide) sk_129 ft_11_133 sr_129_133 ?_
  refine sx_iconst (v := 0) k338_52 (by decide) ?_
  obtain ⟨x1, e2, h⟩ := Option.bind_eq_some_iff.mp h
  refine cx_iald k338_53 sk_206 e2 ?_
  obtain ⟨m3, e4, h⟩ := Option.bind_eq_some_iff.mp h
  refine cx_putI (k := 27) k338_54 ow_338 fl_12_164 (by decide) sk_129 nf_11_27 fu_11_27 e4 ?_
  refine sx_aload_n (i := 0) k338_57 rfl rfl ?_
  refine cx_getR (k := 134) k338_58 ow_338 fl_12_640 (by decide) sk_129 ft_11_134 sr_129_134 ?_
  refine sx_iconst (v := 0) k338_61 (by decide) ?_
  refine sx_aload_n (i := 0) k338_62 rfl rfl ?_
  refine cx_getR (k := 26) k338_63 ow_338 fl_12_167 (by decide) sk_129 ft_11_26 sr_129_26 ?_
  refine sx_iconst (v := 0) k338_66 (by decide) ?_
  refine sx_aload_n (i := 0) k338_67 rfl rfl ?_
  refine cx_getI (k := 27) k338_68 ow_338 fl_12_164 (by decide) sk_129 ft_11_27 ?_
  obtain ⟨r5, e6, h⟩ := Option.bind_eq_some_iff.mp h
  refine cx_S (sk := []) (vs := [.ref 207, .int (0 : Int32), .ref 140, .int (0 : Int32), .int (m3.1 129 27)]) st_338_273 k338_71 ow_338 cl_12_228 (by decide) rfl (Nat.le_of_ble_eq_true rfl) (ok273 207 (0 : Int32) 140 (0 : Int32) (m3.1 129 27) sk_207 sk_140 _ _ e6) (sk3 := []) rfl rfl ?_
  refine sx_aload_n (i := 0) k338_74 rfl rfl ?_
  refine sx_iconst (v := 0) k338_75 (by decide) ?_
  obtain ⟨r7, e8, h⟩ := Option.bind_eq_some_iff.mp h
  refine cx_V (sk := []) (vs := [.int (0 : Int32)]) st_338_334 k338_76 ow_338 cl_12_655 (by decide) rfl (Nat.le_of_ble_eq_true rfl) sk_129 (ok334 (0 : Int32) _ _ e8) (sk3 := []) rfl rfl ?_
  refine sx_iload_n (i := 1) k338_79 rfl rfl ?_
  by_cases hb9 : s0 = 0
  · rw [if_pos hb9] at h
    refine sx_if_eq (tgt := 88) k338_80 (by decide) (fun _ => ?_) (fun q => absurd hb9 q)
    refine sx_pick (lo2 := [(0, .ref 129)]) [1] rfl ?_
    exact c338_88_ok kl0 hk0 _ _ h
  · rw [if_neg hb9] at h
    refine sx_if_eq (tgt := 88) k338_80 (by decide) (fun q => absurd q hb9) (fun _ => ?_)
    refine sx_aload_n (i := 0) k338_83 rfl rfl ?_
    refine sx_iconst (v := 0) k338_84 (by decide) ?_
    obtain ⟨r10, e11, h⟩ := Option.bind_eq_some_iff.mp h
    refine cx_V (sk := []) (vs := [.int (0 : Int32)]) st_338_317 k338_85 ow_338 cl_12_170 (by decide) rfl (Nat.le_of_ble_eq_true rfl) sk_129 (ok317 (0 : Int32) _ _ e11) (sk3 := []) rfl rfl ?_
    refine sx_pick (lo2 := [(0, .ref 129)]) [1] rfl ?_
    exact c338_88_ok kl0 hk0 _ _ h
def c338_45 (kl0 : Mem → Option (Mem)) (μ : Mem) : Option (Mem) :=
  c338_46 kl0 (0 : Int32) μ
theorem c338_45_ok {L : Nat} (kl0 : Mem → Option (Mem)) (hk0 : (∀ (μ : Mem) (res : Mem), kl0 μ = some res → Sx 338 0 [(0, .ref 129)] [] 0 0 (mk L μ) (mk L res, none))) (μ : Mem) (res : Mem) (h : c338_45 kl0 μ = some res) : Sx 338 45 [(0, .ref 129)] [] 0 0 (mk L μ) (mk L res, none) := by
  unfold c338_45 at h
  refine sx_iconst (v := 0) k338_45 (by decide) ?_
  refine sx_pick (lo2 := [(0, .ref 129)]) [0] rfl ?_
  exact c338_46_ok kl0 hk0 (0 : Int32) _ _ h
def b338_0 (kl0 : Mem → Option (Mem)) (μ : Mem) : Option (Mem) :=
  if (μ.1 129 130) ≤ 0 then
    some μ
  else
    (ldA 204 (0 : Int32) μ).bind fun x2 =>
    if (μ.1 129 77) < x2 then
      some μ
    else
      if (μ.1 129 128) = 0 then
        c338_45 kl0 μ
      else
        (ldA 205 (0 : Int32) μ).bind fun x6 =>
        (ldA 203 x6 μ).bind fun x8 =>
        if x8 = 0 then
          c338_46 kl0 (1 : Int32) μ
        else
          c338_45 kl0 μ
theorem b338_0_ok {L : Nat} (kl0 : Mem → Option (Mem)) (hk0 : (∀ (μ : Mem) (res : Mem), kl0 μ = some res → Sx 338 0 [(0, .ref 129)] [] 0 0 (mk L μ) (mk L res, none))) (μ : Mem) (res : Mem) (h : b338_0 kl0 μ = some res) : Sx 338 0 [(0, .ref 129)] [] 0 0 (mk L μ) (mk L res, none) := by
  unfold b338_0 at h
  refine sx_aload_n (i := 0) k338_0 rfl rfl ?_
  refine cx_getI (k := 130) k338_1 ow_338 fl_12_402 (by decide) sk_129 ft_11_130 ?_
  by_cases hb1 : (μ.1 129 130) ≤ 0
  · rw [if_pos hb1] at h
    refine sx_if_le (tgt := 91) k338_4 (by decide) (fun _ => ?_) (fun q => absurd hb1 q)
    exact cx_retv k338_91 rt_338 h
  · rw [if_neg hb1] at h
    refine sx_if_le (tgt := 91) k338_4 (by decide) (fun q => absurd q hb1) (fun _ => ?_)
    refine sx_aload_n (i := 0) k338_7 rfl rfl ?_
    refine cx_getR (k := 131) k338_8 ow_338 fl_12_554 (by decide) sk_129 ft_11_131 sr_129_131 ?_
    refine sx_iconst (v := 0) k338_11 (by decide) ?_
    obtain ⟨x2, e3, h⟩ := Option.bind_eq_some_iff.mp h
    refine cx_iald k338_12 sk_204 e3 ?_
    refine sx_aload_n (i := 0) k338_13 rfl rfl ?_
    refine cx_getI (k := 77) k338_14 ow_338 fl_12_405 (by decide) sk_129 ft_11_77 ?_
    by_cases hb4 : (μ.1 129 77) < x2
    · rw [if_pos hb4] at h
      refine sx_icmp_gt (tgt := 91) k338_17 (by decide) (fun _ => ?_) (fun q => absurd hb4 q)
      exact cx_retv k338_91 rt_338 h
    · rw [if_neg hb4] at h
      refine sx_icmp_gt (tgt := 91) k338_17 (by decide) (fun q => absurd q hb4) (fun _ => ?_)
      refine sx_aload_n (i := 0) k338_20 rfl rfl ?_
      refine cx_getI (k := 128) k338_21 ow_338 fl_12_652 (by decide) sk_129 ft_11_128 ?_
      by_cases hb5 : (μ.1 129 128) = 0
      · rw [if_pos hb5] at h
        refine sx_if_eq (tgt := 45) k338_24 (by decide) (fun _ => ?_) (fun q => absurd hb5 q)
        refine sx_pick (lo2 := [(0, .ref 129)]) [0] rfl ?_
        exact c338_45_ok kl0 hk0 _ _ h
      · rw [if_neg hb5] at h
        refine sx_if_eq (tgt := 45) k338_24 (by decide) (fun q => absurd q hb5) (fun _ => ?_)
        refine sx_aload_n (i := 0) k338_27 rfl rfl ?_
        refine cx_getR (k := 129) k338_28 ow_338 fl_12_658 (by decide) sk_129 ft_11_129 sr_129_129 ?_
        refine sx_aload_n (i := 0) k338_31 rfl rfl ?_
        refine cx_getR (k := 132) k338_32 ow_338 fl_12_646 (by decide) sk_129 ft_11_132 sr_129_132 ?_
        refine sx_iconst (v := 0) k338_35 (by decide) ?_
        obtain ⟨x6, e7, h⟩ := Option.bind_eq_some_iff.mp h
        refine cx_iald k338_36 sk_205 e7 ?_
        obtain ⟨x8, e9, h⟩ := Option.bind_eq_some_iff.mp h
        refine cx_bald k338_37 (Or.inr sk_203) e9 ?_
        by_cases hb10 : x8 = 0
        · rw [if_pos hb10] at h
          refine sx_if_ne (tgt := 45) k338_38 (by decide) (fun q => absurd hb10 q) (fun _ => ?_)
          refine sx_iconst (v := 1) k338_41 (by decide) ?_
          refine sx_goto (tgt := 46) k338_42 (by decide) ?_
          refine sx_pick (lo2 := [(0, .ref 129)]) [0] rfl ?_
          exact c338_46_ok kl0 hk0 (1 : Int32) _ _ h
        · rw [if_neg hb10] at h
          refine sx_if_ne (tgt := 45) k338_38 (by decide) (fun _ => ?_) (fun q => absurd q hb10)
          refine sx_pick (lo2 := [(0, .ref 129)]) [0] rfl ?_
          exact c338_45_ok kl0 hk0 _ _ h
def l338_0 : Nat → Mem → Option (Mem) :=
  fixN (fun self x => b338_0 (fun μ => self (μ)) (x))
theorem l338_0_ok {L : Nat} (n : Nat) (μ : Mem) (res : Mem) (h : l338_0 n (μ) = some res) : Sx 338 0 [(0, .ref 129)] [] 0 0 (mk L μ) (mk L res, none) := by
  have key := fixN_ind (P := fun x res => Sx 338 0 [(0, .ref 129)] [] 0 0 (mk L (x)) (mk L res, none)) (F := fun self x => b338_0 (fun μ => self (μ)) (x)) (fun self hself x res h => b338_0_ok (fun μ => self (μ)) (fun μ res hh => hself (μ) res hh) (x) res h) n (μ) res h
  exact key
/-- CraftHouseModel.scheduleTick()V -/
def f338 (μ : Mem) : Option (Mem) :=
  l338_0 gF (μ)
theorem ok338 {L : Nat} (μ : Mem) (res : Mem) (h : f338 μ = some res) : Mx 338 [.ref 129] (mk L μ) (mk L res, none) := by
  refine Mx_of ml_338 (by rw [mx_338]; exact Nat.le_of_ble_eq_true rfl) ?_
  show Sx 338 0 [(0, .ref 129)] [] 0 0 (mk L μ) _
  unfold f338 at h
  refine sx_pick (lo2 := [(0, .ref 129)]) [0] rfl ?_
  exact l338_0_ok gF _ _ h
theorem k339_0 : decode (gb 339) 0 = .ok (.iconst 0, 1) := by decide +kernel
theorem k339_1 : decode (gb 339) 1 = .ok (.istore_n 1, 1) := by decide +kernel
theorem k339_2 : decode (gb 339) 2 = .ok (.iload_n 1, 1) := by decide +kernel
theorem k339_3 : decode (gb 339) 3 = .ok (.bipush 6, 2) := by decide +kernel
theorem k339_5 : decode (gb 339) 5 = .ok (.if_icmp .ge 63, 3) := by decide +kernel
theorem k339_8 : decode (gb 339) 8 = .ok (.aload_n 0, 1) := by decide +kernel
theorem k339_9 : decode (gb 339) 9 = .ok (.getfield 527, 3) := by decide +kernel
theorem k339_12 : decode (gb 339) 12 = .ok (.iload_n 1, 1) := by decide +kernel
theorem k339_13 : decode (gb 339) 13 = .ok (.baload, 1) := by decide +kernel
theorem k339_14 : decode (gb 339) 14 = .ok (.ifCond .eq 48, 3) := by decide +kernel
theorem k339_17 : decode (gb 339) 17 = .ok (.aload_n 0, 1) := by decide +kernel
theorem k339_18 : decode (gb 339) 18 = .ok (.getfield 530, 3) := by decide +kernel
theorem k339_21 : decode (gb 339) 21 = .ok (.iload_n 1, 1) := by decide +kernel
theorem k339_22 : decode (gb 339) 22 = .ok (.baload, 1) := by decide +kernel
theorem k339_23 : decode (gb 339) 23 = .ok (.ifCond .eq 39, 3) := by decide +kernel
theorem k339_26 : decode (gb 339) 26 = .ok (.aload_n 0, 1) := by decide +kernel
theorem k339_27 : decode (gb 339) 27 = .ok (.getfield 604, 3) := by decide +kernel
theorem k339_30 : decode (gb 339) 30 = .ok (.iload_n 1, 1) := by decide +kernel
theorem k339_31 : decode (gb 339) 31 = .ok (.dup2, 1) := by decide +kernel
theorem k339_32 : decode (gb 339) 32 = .ok (.iaload, 1) := by decide +kernel
theorem k339_33 : decode (gb 339) 33 = .ok (.iconst 1, 1) := by decide +kernel
theorem k339_34 : decode (gb 339) 34 = .ok (.isub, 1) := by decide +kernel
theorem k339_35 : decode (gb 339) 35 = .ok (.iastore, 1) := by decide +kernel
theorem k339_36 : decode (gb 339) 36 = .ok (.aload_n 0, 1) := by decide +kernel
theorem k339_37 : decode (gb 339) 37 = .ok (.getfield 604, 3) := by decide +kernel
theorem k339_40 : decode (gb 339) 40 = .ok (.iload_n 1, 1) := by decide +kernel
theorem k339_41 : decode (gb 339) 41 = .ok (.iaload, 1) := by decide +kernel
theorem k339_42 : decode (gb 339) 42 = .ok (.ifCond .ne 20, 3) := by decide +kernel
theorem k339_45 : decode (gb 339) 45 = .ok (.aload_n 0, 1) := by decide +kernel
theorem k339_46 : decode (gb 339) 46 = .ok (.getfield 604, 3) := by decide +kernel
theorem k339_49 : decode (gb 339) 49 = .ok (.iload_n 1, 1) := by decide +kernel
theorem k339_50 : decode (gb 339) 50 = .ok (.aload_n 0, 1) := by decide +kernel
theorem k339_51 : decode (gb 339) 51 = .ok (.getfield 601, 3) := by decide +kernel
theorem k339_54 : decode (gb 339) 54 = .ok (.iload_n 1, 1) := by decide +kernel
theorem k339_55 : decode (gb 339) 55 = .ok (.iaload, 1) := by decide +kernel
theorem k339_56 : decode (gb 339) 56 = .ok (.iastore, 1) := by decide +kernel
theorem k339_57 : decode (gb 339) 57 = .ok (.aload_n 0, 1) := by decide +kernel
theorem k339_58 : decode (gb 339) 58 = .ok (.iload_n 1, 1) := by decide +kernel
theorem k339_59 : decode (gb 339) 59 = .ok (.invokevirtual 607, 3) := by decide +kernel
theorem k339_62 : decode (gb 339) 62 = .ok (.iinc 1 1, 3) := by decide +kernel
theorem k339_65 : decode (gb 339) 65 = .ok (.goto (-63), 3) := by decide +kernel
theorem k339_68 : decode (gb 339) 68 = .ok (.return_, 1) := by decide +kernel
def c339_62 (kl2 : Int32 → Mem → Option (Mem)) (v1 : Int32) (μ : Mem) : Option (Mem) :=
  nm (v1 + (1 : Int32)) fun x1 =>
  kl2 x1 μ
theorem c339_62_ok {L : Nat} (kl2 : Int32 → Mem → Option (Mem)) (hk2 : (∀ (v1 : Int32) (μ : Mem) (res : Mem), kl2 v1 μ = some res → Sx 339 2 [(0, .ref 129), (1, .int v1)] [] 0 0 (mk L μ) (mk L res, none))) (v1 : Int32) (μ : Mem) (res : Mem) (h : c339_62 kl2 v1 μ = some res) : Sx 339 62 [(0, .ref 129), (1, .int v1)] [] 0 0 (mk L μ) (mk L res, none) := by
  unfold c339_62 at h
  refine cx_iinc (c := 1) (lo2 := fun x1 => [(1, .int x1), (0, .ref 129)]) k339_62 rfl (by decide) (by rw [mx_339]; decide) (fun _ => rfl) h (fun x1 h => ?_)
  refine sx_goto (tgt := 2) k339_65 (by decide) ?_
  refine sx_pick (lo2 := [(0, .ref 129), (1, .int x1)]) [1, 0] rfl ?_
  exact hk2 x1 _ _ h
def b339_2 (kl2 : Int32 → Mem → Option (Mem)) (v1 : Int32) (μ : Mem) : Option (Mem) :=
  if (6 : Int32) ≤ v1 then
    some μ
  else
    (ldA 183 v1 μ).bind fun x2 =>
    if x2 = 0 then
      c339_62 kl2 v1 μ
    else
      (ldA 184 v1 μ).bind fun x5 =>
      if x5 = 0 then
        c339_62 kl2 v1 μ
      else
        (ldA 186 v1 μ).bind fun x8 =>
        (stA 186 v1 (x8 - (1 : Int32)) μ).bind fun m10 =>
        (ldA 186 v1 m10).bind fun x12 =>
        if x12 = 0 then
          (ldA 185 v1 m10).bind fun x15 =>
          (stA 186 v1 x15 m10).bind fun m17 =>
          (f328 v1 m17).bind fun r19 =>
          c339_62 kl2 v1 r19
        else
          c339_62 kl2 v1 m10
theorem b339_2_ok {L : Nat} (kl2 : Int32 → Mem → Option (Mem)) (hk2 : (∀ (v1 : Int32) (μ : Mem) (res : Mem), kl2 v1 μ = some res → Sx 339 2 [(0, .ref 129), (1, .int v1)] [] 0 0 (mk L μ) (mk L res, none))) (v1 : Int32) (μ : Mem) (res : Mem) (h : b339_2 kl2 v1 μ = some res) : Sx 339 2 [(0, .ref 129), (1, .int v1)] [] 0 0 (mk L μ) (mk L res, none) := by
  unfold b339_2 at h
  refine sx_iload_n (i := 1) k339_2 rfl rfl ?_
  refine sx_bipush (v := 6) k339_3 (by decide) ?_
  by_cases hb1 : (6 : Int32) ≤ v1
  · rw [if_pos hb1] at h
    refine sx_icmp_ge (tgt := 68) k339_5 (by decide) (fun _ => ?_) (fun q => absurd hb1 q)
    exact cx_retv k339_68 rt_339 h
  · rw [if_neg hb1] at h
    refine sx_icmp_ge (tgt := 68) k339_5 (by decide) (fun q => absurd q hb1) (fun _ => ?_)
    refine sx_aload_n (i := 0) k339_8 rfl rfl ?_
    refine cx_getR (k := 108) k339_9 ow_339 fl_12_527 (by decide) sk_129 ft_11_108 sr_129_108 ?_
    refine sx_iload_n (i := 1) k339_12 rfl rfl ?_
    obtain ⟨x2, e3, h⟩ := Option.bind_eq_some_iff.mp h
    refine cx_bald k339_13 (Or.inr sk_183) e3 ?_
    by_cases hb4 : x2 = 0
    · rw [if_pos hb4] at h
      refine sx_if_eq (tgt := 62) k339_14 (by decide) (fun _ => ?_) (fun q => absurd hb4 q)
      refine sx_pick (lo2 := [(0, .ref 129), (1, .int v1)]) [0, 1] rfl ?_
      exact c339_62_ok kl2 hk2 v1 _ _ h
    · rw [if_neg hb4] at h
      refine sx_if_eq (tgt := 62) k339_14 (by decide) (fun q => absurd q hb4) (fun _ => ?_)
      refine sx_aload_n (i := 0) k339_17 rfl rfl ?_
      refine cx_getR (k := 109) k339_18 ow_339 fl_12_530 (by decide) sk_129 ft_11_109 sr_129_109 ?_
      refine sx_iload_n (i := 1) k339_21 rfl rfl ?_
      obtain ⟨x5, e6, h⟩ := Option.bind_eq_some_iff.mp h
      refine cx_bald k339_22 (Or.inr sk_184) e6 ?_
      by_cases hb7 : x5 = 0
      · rw [if_pos hb7] at h
        refine sx_if_eq (tgt := 62) k339_23 (by decide) (fun _ => ?_) (fun q => absurd hb7 q)
        refine sx_pick (lo2 := [(0, .ref 129), (1, .int v1)]) [0, 1] rfl ?_
        exact c339_62_ok kl2 hk2 v1 _ _ h
      · rw [if_neg hb7] at h
        refine sx_if_eq (tgt := 62) k339_23 (by decide) (fun q => absurd q hb7) (fun _ => ?_)
        refine sx_aload_n (i := 0) k339_26 rfl rfl ?_
        refine cx_getR (k := 111) k339_27 ow_339 fl_12_604 (by decide) sk_129 ft_11_111 sr_129_111 ?_
        refine sx_iload_n (i := 1) k339_30 rfl rfl ?_
        refine sx_dup2 k339_31 rfl rfl ?_
        obtain ⟨x8, e9, h⟩ := Option.bind_eq_some_iff.mp h
        refine cx_iald k339_32 sk_186 e9 ?_
        refine sx_iconst (v := 1) k339_33 (by decide) ?_
        refine sx_isub k339_34 ?_
        obtain ⟨m10, e11, h⟩ := Option.bind_eq_some_iff.mp h
        refine cx_iast k339_35 sk_186 e11 ?_
        refine sx_aload_n (i := 0) k339_36 rfl rfl ?_
        refine cx_getR (k := 111) k339_37 ow_339 fl_12_604 (by decide) sk_129 ft_11_111 sr_129_111 ?_
        refine sx_iload_n (i := 1) k339_40 rfl rfl ?_
        obtain ⟨x12, e13, h⟩ := Option.bind_eq_some_iff.mp h
        refine cx_iald k339_41 sk_186 e13 ?_
        by_cases hb14 : x12 = 0
        · rw [if_pos hb14] at h
          refine sx_if_ne (tgt := 62) k339_42 (by decide) (fun q => absurd hb14 q) (fun _ => ?_)
          refine sx_aload_n (i := 0) k339_45 rfl rfl ?_
          refine cx_getR (k := 111) k339_46 ow_339 fl_12_604 (by decide) sk_129 ft_11_111 sr_129_111 ?_
          refine sx_iload_n (i := 1) k339_49 rfl rfl ?_
          refine sx_aload_n (i := 0) k339_50 rfl rfl ?_
          refine cx_getR (k := 110) k339_51 ow_339 fl_12_601 (by decide) sk_129 ft_11_110 sr_129_110 ?_
          refine sx_iload_n (i := 1) k339_54 rfl rfl ?_
          obtain ⟨x15, e16, h⟩ := Option.bind_eq_some_iff.mp h
          refine cx_iald k339_55 sk_185 e16 ?_
          obtain ⟨m17, e18, h⟩ := Option.bind_eq_some_iff.mp h
          refine cx_iast k339_56 sk_186 e18 ?_
          refine sx_aload_n (i := 0) k339_57 rfl rfl ?_
          refine sx_iload_n (i := 1) k339_58 rfl rfl ?_
          obtain ⟨r19, e20, h⟩ := Option.bind_eq_some_iff.mp h
          refine cx_V (sk := []) (vs := [.int v1]) st_339_328 k339_59 ow_339 cl_12_607 (by decide) rfl (Nat.le_of_ble_eq_true rfl) sk_129 (ok328 v1 _ _ e20) (sk3 := []) rfl rfl ?_
          refine sx_pick (lo2 := [(0, .ref 129), (1, .int v1)]) [0, 1] rfl ?_
          exact c339_62_ok kl2 hk2 v1 _ _ h
        · rw [if_neg hb14] at h
          refine sx_if_ne (tgt := 62) k339_42 (by decide) (fun _ => ?_) (fun q => absurd q hb14)
          refine sx_pick (lo2 := [(0, .ref 129), (1, .int v1)]) [0, 1] rfl ?_
          exact c339_62_ok kl2 hk2 v1 _ _ h
def l339_2 : Nat → Int32 × Mem → Option (Mem) :=
  fixN (fun self x => b339_2 (fun v1 μ => self (v1, μ)) (x.1) (x.2))
theorem l339_2_ok {L : Nat} (n : Nat) (v1 : Int32) (μ : Mem) (res : Mem) (h : l339_2 n (v1, μ) = some res) : Sx 339 2 [(0, .ref 129), (1, .int v1)] [] 0 0 (mk L μ) (mk L res, none) := by
  have key := fixN_ind (P := fun x res => Sx 339 2 [(0, .ref 129), (1, .int (x.1))] [] 0 0 (mk L (x.2)) (mk L res, none)) (F := fun self x => b339_2 (fun v1 μ => self (v1, μ)) (x.1) (x.2)) (fun self hself x res h => b339_2_ok (fun v1 μ => self (v1, μ)) (fun v1 μ res hh => hself (v1, μ) res hh) (x.1) (x.2) res h) n (v1, μ) res h
  exact key
/-- CraftHouseModel.structursTick()V -/
def f339 (μ : Mem) : Option (Mem) :=
  l339_2 gF ((0 : Int32), μ)
theorem ok339 {L : Nat} (μ : Mem) (res : Mem) (h : f339 μ = some res) : Mx 339 [.ref 129] (mk L μ) (mk L res, none) := by
  refine Mx_of ml_339 (by rw [mx_339]; exact Nat.le_of_ble_eq_true rfl) ?_
  show Sx 339 0 [(0, .ref 129)] [] 0 0 (mk L μ) _
  unfold f339 at h
  refine sx_iconst (v := 0) k339_0 (by decide) ?_
  refine cx_istore_n (lo2 := [(1, .int (0 : Int32)), (0, .ref 129)]) k339_1 rfl (by rw [mx_339]; decide) rfl ?_
  refine sx_pick (lo2 := [(0, .ref 129), (1, .int (0 : Int32))]) [1, 0] rfl ?_
  exact l339_2_ok gF (0 : Int32) _ _ h
