theorem k363_0 : decode (gb 363) 0 = .ok (.iload_n 0, 1) := by decide +kernel
theorem k363_1 : decode (gb 363) 1 = .ok (.iload_n 1, 1) := by decide +kernel
theorem k363_2 : decode (gb 363) 2 = .ok (.if_icmp .ge 7, 3) := by decide +kernel
theorem k363_5 : decode (gb 363) 5 = .ok (.iconst (-1), 1) := by decide +kernel
theorem k363_6 : decode (gb 363) 6 = .ok (.goto 13, 3) := by decide +kernel
theorem k363_9 : decode (gb 363) 9 = .ok (.iload_n 0, 1) := by decide +kernel
theorem k363_10 : decode (gb 363) 10 = .ok (.iload_n 1, 1) := by decide +kernel
theorem k363_11 : decode (gb 363) 11 = .ok (.if_icmp .ne 7, 3) := by decide +kernel
theorem k363_14 : decode (gb 363) 14 = .ok (.iconst 0, 1) := by decide +kernel
theorem k363_15 : decode (gb 363) 15 = .ok (.goto 4, 3) := by decide +kernel
theorem k363_18 : decode (gb 363) 18 = .ok (.iconst 1, 1) := by decide +kernel
theorem k363_19 : decode (gb 363) 19 = .ok (.ireturn, 1) := by decide +kernel
/-- java/lang/Integer.compare(II)I -/
def f363 (p1 : Int32) (p2 : Int32) (μ : Mem) : Option (Mem × Int32) :=
  if p2 ≤ p1 then
    if p1 = p2 then
      some (μ, (0 : Int32))
    else
      some (μ, (1 : Int32))
  else
    some (μ, (-1 : Int32))
theorem ok363 {L : Nat} (p1 : Int32) (p2 : Int32) (μ : Mem) (res : Mem × Int32) (h : f363 p1 p2 μ = some res) : Mx 363 [.int p1, .int p2] (mk L μ) (mk L res.1, some (.int res.2)) := by
  refine Mx_of ml_363 (by rw [mx_363]; exact Nat.le_of_ble_eq_true rfl) ?_
  show Sx 363 0 [(0, .int p1), (1, .int p2)] [] 0 0 (mk L μ) _
  unfold f363 at h
  refine sx_iload_n (i := 0) k363_0 rfl rfl ?_
  refine sx_iload_n (i := 1) k363_1 rfl rfl ?_
  by_cases hb1 : p2 ≤ p1
  · rw [if_pos hb1] at h
    refine sx_icmp_ge (tgt := 9) k363_2 (by decide) (fun _ => ?_) (fun q => absurd hb1 q)
    refine sx_iload_n (i := 0) k363_9 rfl rfl ?_
    refine sx_iload_n (i := 1) k363_10 rfl rfl ?_
    by_cases hb2 : p1 = p2
    · rw [if_pos hb2] at h
      refine sx_icmp_ne (tgt := 18) k363_11 (by decide) (fun q => absurd hb2 q) (fun _ => ?_)
      refine sx_iconst (v := 0) k363_14 (by decide) ?_
      refine sx_goto (tgt := 19) k363_15 (by decide) ?_
      exact cx_reti k363_19 rt_363 h
    · rw [if_neg hb2] at h
      refine sx_icmp_ne (tgt := 18) k363_11 (by decide) (fun _ => ?_) (fun q => absurd q hb2)
      refine sx_iconst (v := 1) k363_18 (by decide) ?_
      exact cx_reti k363_19 rt_363 h
  · rw [if_neg hb1] at h
    refine sx_icmp_ge (tgt := 9) k363_2 (by decide) (fun q => absurd q hb1) (fun _ => ?_)
    refine sx_iconst (v := -1) k363_5 (by decide) ?_
    refine sx_goto (tgt := 19) k363_6 (by decide) ?_
    exact cx_reti k363_19 rt_363 h
theorem k364_0 : decode (gb 364) 0 = .ok (.iload_n 0, 1) := by decide +kernel
theorem k364_1 : decode (gb 364) 1 = .ok (.iload_n 0, 1) := by decide +kernel
theorem k364_2 : decode (gb 364) 2 = .ok (.iconst 1, 1) := by decide +kernel
theorem k364_3 : decode (gb 364) 3 = .ok (.iushr, 1) := by decide +kernel
theorem k364_4 : decode (gb 364) 4 = .ok (.ldc_w 265, 3) := by decide +kernel
theorem k364_7 : decode (gb 364) 7 = .ok (.iand, 1) := by decide +kernel
theorem k364_8 : decode (gb 364) 8 = .ok (.isub, 1) := by decide +kernel
theorem k364_9 : decode (gb 364) 9 = .ok (.istore_n 0, 1) := by decide +kernel
theorem k364_10 : decode (gb 364) 10 = .ok (.iload_n 0, 1) := by decide +kernel
theorem k364_11 : decode (gb 364) 11 = .ok (.ldc_w 266, 3) := by decide +kernel
theorem k364_14 : decode (gb 364) 14 = .ok (.iand, 1) := by decide +kernel
theorem k364_15 : decode (gb 364) 15 = .ok (.iload_n 0, 1) := by decide +kernel
theorem k364_16 : decode (gb 364) 16 = .ok (.iconst 2, 1) := by decide +kernel
theorem k364_17 : decode (gb 364) 17 = .ok (.iushr, 1) := by decide +kernel
theorem k364_18 : decode (gb 364) 18 = .ok (.ldc_w 266, 3) := by decide +kernel
theorem k364_21 : decode (gb 364) 21 = .ok (.iand, 1) := by decide +kernel
theorem k364_22 : decode (gb 364) 22 = .ok (.iadd, 1) := by decide +kernel
theorem k364_23 : decode (gb 364) 23 = .ok (.istore_n 0, 1) := by decide +kernel
theorem k364_24 : decode (gb 364) 24 = .ok (.iload_n 0, 1) := by decide +kernel
theorem k364_25 : decode (gb 364) 25 = .ok (.iload_n 0, 1) := by decide +kernel
theorem k364_26 : decode (gb 364) 26 = .ok (.iconst 4, 1) := by decide +kernel
theorem k364_27 : decode (gb 364) 27 = .ok (.iushr, 1) := by decide +kernel
theorem k364_28 : decode (gb 364) 28 = .ok (.iadd, 1) := by decide +kernel
theorem k364_29 : decode (gb 364) 29 = .ok (.ldc_w 267, 3) := by decide +kernel
theorem k364_32 : decode (gb 364) 32 = .ok (.iand, 1) := by decide +kernel
theorem k364_33 : decode (gb 364) 33 = .ok (.istore_n 0, 1) := by decide +kernel
theorem k364_34 : decode (gb 364) 34 = .ok (.iload_n 0, 1) := by decide +kernel
theorem k364_35 : decode (gb 364) 35 = .ok (.iload_n 0, 1) := by decide +kernel
theorem k364_36 : decode (gb 364) 36 = .ok (.bipush 8, 2) := by decide +kernel
theorem k364_38 : decode (gb 364) 38 = .ok (.iushr, 1) := by decide +kernel
theorem k364_39 : decode (gb 364) 39 = .ok (.iadd, 1) := by decide +kernel
theorem k364_40 : decode (gb 364) 40 = .ok (.istore_n 0, 1) := by decide +kernel
theorem k364_41 : decode (gb 364) 41 = .ok (.iload_n 0, 1) := by decide +kernel
theorem k364_42 : decode (gb 364) 42 = .ok (.iload_n 0, 1) := by decide +kernel
theorem k364_43 : decode (gb 364) 43 = .ok (.bipush 16, 2) := by decide +kernel
theorem k364_45 : decode (gb 364) 45 = .ok (.iushr, 1) := by decide +kernel
theorem k364_46 : decode (gb 364) 46 = .ok (.iadd, 1) := by decide +kernel
theorem k364_47 : decode (gb 364) 47 = .ok (.istore_n 0, 1) := by decide +kernel
theorem k364_48 : decode (gb 364) 48 = .ok (.iload_n 0, 1) := by decide +kernel
theorem k364_49 : decode (gb 364) 49 = .ok (.bipush 63, 2) := by decide +kernel
theorem k364_51 : decode (gb 364) 51 = .ok (.iand, 1) := by decide +kernel
theorem k364_52 : decode (gb 364) 52 = .ok (.ireturn, 1) := by decide +kernel
/-- java/lang/Integer.bitCount(I)I -/
def f364 (p1 : Int32) (μ : Mem) : Option (Mem × Int32) :=
  nm (p1 - ((jushr p1 (1 : Int32)) &&& (1431655765 : Int32))) fun x1 =>
  nm ((x1 &&& (858993459 : Int32)) + ((jushr x1 (2 : Int32)) &&& (858993459 : Int32))) fun x2 =>
  nm ((x2 + (jushr x2 (4 : Int32))) &&& (252645135 : Int32)) fun x3 =>
  nm (x3 + (jushr x3 (8 : Int32))) fun x4 =>
  nm (x4 + (jushr x4 (16 : Int32))) fun x5 =>
  some (μ, (x5 &&& (63 : Int32)))
theorem ok364 {L : Nat} (p1 : Int32) (μ : Mem) (res : Mem × Int32) (h : f364 p1 μ = some res) : Mx 364 [.int p1] (mk L μ) (mk L res.1, some (.int res.2)) := by
  refine Mx_of ml_364 (by rw [mx_364]; exact Nat.le_of_ble_eq_true rfl) ?_
  show Sx 364 0 [(0, .int p1)] [] 0 0 (mk L μ) _
  unfold f364 at h
  refine sx_iload_n (i := 0) k364_0 rfl rfl ?_
  refine sx_iload_n (i := 0) k364_1 rfl rfl ?_
  refine sx_iconst (v := 1) k364_2 (by decide) ?_
  refine sx_iushr k364_3 ?_
  refine cx_ldc_w (v := 1431655765) k364_4 ow_364 kl_13_265 (by decide) ?_
  refine sx_iand k364_7 ?_
  refine sx_isub k364_8 ?_
  refine cx_nm h (fun x1 h => ?_)
  refine cx_istore_n (lo2 := [(0, .int x1)]) k364_9 rfl (by rw [mx_364]; decide) rfl ?_
  refine sx_iload_n (i := 0) k364_10 rfl rfl ?_
  refine cx_ldc_w (v := 858993459) k364_11 ow_364 kl_13_266 (by decide) ?_
  refine sx_iand k364_14 ?_
  refine sx_iload_n (i := 0) k364_15 rfl rfl ?_
  refine sx_iconst (v := 2) k364_16 (by decide) ?_
  refine sx_iushr k364_17 ?_
  refine cx_ldc_w (v := 858993459) k364_18 ow_364 kl_13_266 (by decide) ?_
  refine sx_iand k364_21 ?_
  refine sx_iadd k364_22 ?_
  refine cx_nm h (fun x2 h => ?_)
  refine cx_istore_n (lo2 := [(0, .int x2)]) k364_23 rfl (by rw [mx_364]; decide) rfl ?_
  refine sx_iload_n (i := 0) k364_24 rfl rfl ?_
  refine sx_iload_n (i := 0) k364_25 rfl rfl ?_
  refine sx_iconst (v := 4) k364_26 (by decide) ?_
  refine sx_iushr k364_27 ?_
  refine sx_iadd k364_28 ?_
  refine cx_ldc_w (v := 252645135) k364_29 ow_364 kl_13_267 (by decide) ?_
  refine sx_iand k364_32 ?_
  refine cx_nm h (fun x3 h => ?_)
  refine cx_istore_n (lo2 := [(0, .int x3)]) k364_33 rfl (by rw [mx_364]; decide) rfl ?_
  refine sx_iload_n (i := 0) k364_34 rfl rfl ?_
  refine sx_iload_n (i := 0) k364_35 rfl rfl ?_
  refine sx_bipush (v := 8) k364_36 (by decide) ?_
  refine sx_iushr k364_38 ?_
  refine sx_iadd k364_39 ?_
  refine cx_nm h (fun x4 h => ?_)
  refine cx_istore_n (lo2 := [(0, .int x4)]) k364_40 rfl (by rw [mx_364]; decide) rfl ?_
  refine sx_iload_n (i := 0) k364_41 rfl rfl ?_
  refine sx_iload_n (i := 0) k364_42 rfl rfl ?_
  refine sx_bipush (v := 16) k364_43 (by decide) ?_
  refine sx_iushr k364_45 ?_
  refine sx_iadd k364_46 ?_
  refine cx_nm h (fun x5 h => ?_)
  refine cx_istore_n (lo2 := [(0, .int x5)]) k364_47 rfl (by rw [mx_364]; decide) rfl ?_
  refine sx_iload_n (i := 0) k364_48 rfl rfl ?_
  refine sx_bipush (v := 63) k364_49 (by decide) ?_
  refine sx_iand k364_51 ?_
  exact cx_reti k364_52 rt_364 h
theorem k367_0 : decode (gb 367) 0 = .ok (.iload_n 1, 1) := by decide +kernel
theorem k367_1 : decode (gb 367) 1 = .ok (.iload_n 2, 1) := by decide +kernel
theorem k367_2 : decode (gb 367) 2 = .ok (.if_icmp .le 44, 3) := by decide +kernel
theorem k367_16 : decode (gb 367) 16 = .ok (.ldc 48, 2) := by decide +kernel
theorem k367_21 : decode (gb 367) 21 = .ok (.iload_n 1, 1) := by decide +kernel
theorem k367_25 : decode (gb 367) 25 = .ok (.ldc 57, 2) := by decide +kernel
theorem k367_30 : decode (gb 367) 30 = .ok (.iload_n 2, 1) := by decide +kernel
theorem k367_34 : decode (gb 367) 34 = .ok (.ldc 59, 2) := by decide +kernel
theorem k367_46 : decode (gb 367) 46 = .ok (.iload_n 1, 1) := by decide +kernel
theorem k367_47 : decode (gb 367) 47 = .ok (.ifCond .ge 12, 3) := by decide +kernel
theorem k367_54 : decode (gb 367) 54 = .ok (.iload_n 1, 1) := by decide +kernel
theorem k367_59 : decode (gb 367) 59 = .ok (.iload_n 2, 1) := by decide +kernel
theorem k367_60 : decode (gb 367) 60 = .ok (.iload_n 0, 1) := by decide +kernel
theorem k367_61 : decode (gb 367) 61 = .ok (.if_icmp .le 12, 3) := by decide +kernel
theorem k367_68 : decode (gb 367) 68 = .ok (.iload_n 2, 1) := by decide +kernel
theorem k367_73 : decode (gb 367) 73 = .ok (.return_, 1) := by decide +kernel
/-- java/util/Arrays.rangeCheck(III)V -/
def f367 (p1 : Int32) (p2 : Int32) (p3 : Int32) (μ : Mem) : Option (Mem) :=
  if p2 ≤ p3 then
    if 0 ≤ p2 then
      if p3 ≤ p1 then
        some μ
      else
        none
    else
      none
  else
    none
theorem ok367 {L : Nat} (p1 : Int32) (p2 : Int32) (p3 : Int32) (μ : Mem) (res : Mem) (h : f367 p1 p2 p3 μ = some res) : Mx 367 [.int p1, .int p2, .int p3] (mk L μ) (mk L res, none) := by
  refine Mx_of ml_367 (by rw [mx_367]; exact Nat.le_of_ble_eq_true rfl) ?_
  show Sx 367 0 [(0, .int p1), (1, .int p2), (2, .int p3)] [] 0 0 (mk L μ) _
  unfold f367 at h
  refine sx_iload_n (i := 1) k367_0 rfl rfl ?_
  refine sx_iload_n (i := 2) k367_1 rfl rfl ?_
  by_cases hb1 : p2 ≤ p3
  · rw [if_pos hb1] at h
    refine sx_icmp_le (tgt := 46) k367_2 (by decide) (fun _ => ?_) (fun q => absurd hb1 q)
    refine sx_iload_n (i := 1) k367_46 rfl rfl ?_
    by_cases hb2 : 0 ≤ p2
    · rw [if_pos hb2] at h
      refine sx_if_ge (tgt := 59) k367_47 (by decide) (fun _ => ?_) (fun q => absurd hb2 q)
      refine sx_iload_n (i := 2) k367_59 rfl rfl ?_
      refine sx_iload_n (i := 0) k367_60 rfl rfl ?_
      by_cases hb3 : p3 ≤ p1
      · rw [if_pos hb3] at h
        refine sx_icmp_le (tgt := 73) k367_61 (by decide) (fun _ => ?_) (fun q => absurd hb3 q)
        exact cx_retv k367_73 rt_367 h
      · rw [if_neg hb3] at h
        refine sx_icmp_le (tgt := 73) k367_61 (by decide) (fun q => absurd q hb3) (fun _ => ?_)
        cases h
    · rw [if_neg hb2] at h
      refine sx_if_ge (tgt := 59) k367_47 (by decide) (fun q => absurd q hb2) (fun _ => ?_)
      cases h
  · rw [if_neg hb1] at h
    refine sx_icmp_le (tgt := 46) k367_2 (by decide) (fun q => absurd q hb1) (fun _ => ?_)
    cases h
theorem k368_0 : decode (gb 368) 0 = .ok (.aload_n 0, 1) := by decide +kernel
theorem k368_1 : decode (gb 368) 1 = .ok (.arraylength, 1) := by decide +kernel
theorem k368_2 : decode (gb 368) 2 = .ok (.iload_n 1, 1) := by decide +kernel
theorem k368_3 : decode (gb 368) 3 = .ok (.iload_n 2, 1) := by decide +kernel
theorem k368_4 : decode (gb 368) 4 = .ok (.invokestatic 13, 3) := by decide +kernel
theorem k368_7 : decode (gb 368) 7 = .ok (.iload_n 1, 1) := by decide +kernel
theorem k368_8 : decode (gb 368) 8 = .ok (.istore 4, 2) := by decide +kernel
theorem k368_10 : decode (gb 368) 10 = .ok (.iload 4, 2) := by decide +kernel
theorem k368_12 : decode (gb 368) 12 = .ok (.iload_n 2, 1) := by decide +kernel
theorem k368_13 : decode (gb 368) 13 = .ok (.if_icmp .ge 14, 3) := by decide +kernel
theorem k368_16 : decode (gb 368) 16 = .ok (.aload_n 0, 1) := by decide +kernel
theorem k368_17 : decode (gb 368) 17 = .ok (.iload 4, 2) := by decide +kernel
theorem k368_19 : decode (gb 368) 19 = .ok (.iload_n 3, 1) := by decide +kernel
theorem k368_20 : decode (gb 368) 20 = .ok (.iastore, 1) := by decide +kernel
theorem k368_21 : decode (gb 368) 21 = .ok (.iinc 4 1, 3) := by decide +kernel
theorem k368_24 : decode (gb 368) 24 = .ok (.goto (-14), 3) := by decide +kernel
theorem k368_27 : decode (gb 368) 27 = .ok (.return_, 1) := by decide +kernel
def b368_10 (p1 : Nat) (kl10 : Int32 → Int32 → Int32 → Mem → Option (Mem)) (v2 : Int32) (v3 : Int32) (v4 : Int32) (μ : Mem) : Option (Mem) :=
  if v2 ≤ v4 then
    some μ
  else
    (stA p1 v4 v3 μ).bind fun m2 =>
    nm (v4 + (1 : Int32)) fun x4 =>
    kl10 v2 v3 x4 m2
theorem b368_10_ok {L : Nat} (p1 : Nat) (h1 : SK0 p1 = (1, gln p1)) (kl10 : Int32 → Int32 → Int32 → Mem → Option (Mem)) (hk10 : (∀ (v2 : Int32) (v3 : Int32) (v4 : Int32) (μ : Mem) (res : Mem), kl10 v2 v3 v4 μ = some res → Sx 368 10 [(0, .ref p1), (2, .int v2), (3, .int v3), (4, .int v4)] [] 0 0 (mk L μ) (mk L res, none))) (v2 : Int32) (v3 : Int32) (v4 : Int32) (μ : Mem) (res : Mem) (h : b368_10 p1 kl10 v2 v3 v4 μ = some res) : Sx 368 10 [(0, .ref p1), (2, .int v2), (3, .int v3), (4, .int v4)] [] 0 0 (mk L μ) (mk L res, none) := by
  unfold b368_10 at h
  refine sx_iload k368_10 rfl ?_
  refine sx_iload_n (i := 2) k368_12 rfl rfl ?_
  by_cases hb1 : v2 ≤ v4
  · rw [if_pos hb1] at h
    refine sx_icmp_ge (tgt := 27) k368_13 (by decide) (fun _ => ?_) (fun q => absurd hb1 q)
    exact cx_retv k368_27 rt_368 h
  · rw [if_neg hb1] at h
    refine sx_icmp_ge (tgt := 27) k368_13 (by decide) (fun q => absurd q hb1) (fun _ => ?_)
    refine sx_aload_n (i := 0) k368_16 rfl rfl ?_
    refine sx_iload k368_17 rfl ?_
    refine sx_iload_n (i := 3) k368_19 rfl rfl ?_
    obtain ⟨m2, e3, h⟩ := Option.bind_eq_some_iff.mp h
    refine cx_iast k368_20 h1 e3 ?_
    refine cx_iinc (c := 1) (lo2 := fun x4 => [(4, .int x4), (0, .ref p1), (2, .int v2), (3, .int v3)]) k368_21 rfl (by decide) (by rw [mx_368]; decide) (fun _ => rfl) h (fun x4 h => ?_)
    refine sx_goto (tgt := 10) k368_24 (by decide) ?_
    refine sx_pick (lo2 := [(0, .ref p1), (2, .int v2), (3, .int v3), (4, .int x4)]) [1, 2, 3, 0] rfl ?_
    exact hk10 v2 v3 x4 _ _ h
def l368_10 (p1 : Nat) : Nat → Int32 × Int32 × Int32 × Mem → Option (Mem) :=
  fixN (fun self x => b368_10 p1 (fun v2 v3 v4 μ => self (v2, v3, v4, μ)) (x.1) (x.2.1) (x.2.2.1) (x.2.2.2))
theorem l368_10_ok {L : Nat} (p1 : Nat) (h1 : SK0 p1 = (1, gln p1)) (n : Nat) (v2 : Int32) (v3 : Int32) (v4 : Int32) (μ : Mem) (res : Mem) (h : l368_10 p1 n (v2, v3, v4, μ) = some res) : Sx 368 10 [(0, .ref p1), (2, .int v2), (3, .int v3), (4, .int v4)] [] 0 0 (mk L μ) (mk L res, none) := by
  have key := fixN_ind (P := fun x res => Sx 368 10 [(0, .ref p1), (2, .int (x.1)), (3, .int (x.2.1)), (4, .int (x.2.2.1))] [] 0 0 (mk L (x.2.2.2)) (mk L res, none)) (F := fun self x => b368_10 p1 (fun v2 v3 v4 μ => self (v2, v3, v4, μ)) (x.1) (x.2.1) (x.2.2.1) (x.2.2.2)) (fun self hself x res h => b368_10_ok p1 h1 (fun v2 v3 v4 μ => self (v2, v3, v4, μ)) (fun v2 v3 v4 μ res hh => hself (v2, v3, v4, μ) res hh) (x.1) (x.2.1) (x.2.2.1) (x.2.2.2) res h) n (v2, v3, v4, μ) res h
  exact key
/-- java/util/Arrays.fill([IIII)V -/
def f368 (p1 : Nat) (p2 : Int32) (p3 : Int32) (p4 : Int32) (μ : Mem) : Option (Mem) :=
  (f367 (nI (gln p1)) p2 p3 μ).bind fun r1 =>
  l368_10 p1 gF (p3, p4, p2, r1)
theorem ok368 {L : Nat} (p1 : Nat) (p2 : Int32) (p3 : Int32) (p4 : Int32) (h1 : SK0 p1 = (1, gln p1)) (μ : Mem) (res : Mem) (h : f368 p1 p2 p3 p4 μ = some res) : Mx 368 [.ref p1, .int p2, .int p3, .int p4] (mk L μ) (mk L res, none) := by
  refine Mx_of ml_368 (by rw [mx_368]; exact Nat.le_of_ble_eq_true rfl) ?_
  show Sx 368 0 [(0, .ref p1), (1, .int p2), (2, .int p3), (3, .int p4)] [] 0 0 (mk L μ) _
  unfold f368 at h
  refine sx_aload_n (i := 0) k368_0 rfl rfl ?_
  refine cx_alen (t := 0) k368_1 (by decide) h1 ?_
  refine sx_iload_n (i := 1) k368_2 rfl rfl ?_
  refine sx_iload_n (i := 2) k368_3 rfl rfl ?_
  obtain ⟨r1, e2, h⟩ := Option.bind_eq_some_iff.mp h
  refine cx_S (sk := []) (vs := [.int (nI (gln p1)), .int p2, .int p3]) st_368_367 k368_4 ow_368 cl_15_13 (by decide) rfl (Nat.le_of_ble_eq_true rfl) (ok367 (nI (gln p1)) p2 p3 _ _ e2) (sk3 := []) rfl rfl ?_
  refine sx_iload_n (i := 1) k368_7 rfl rfl ?_
  refine cx_istore (lo2 := [(4, .int p2), (0, .ref p1), (1, .int p2), (2, .int p3), (3, .int p4)]) k368_8 (by rw [mx_368]; decide) rfl ?_
  refine sx_pick (lo2 := [(0, .ref p1), (2, .int p3), (3, .int p4), (4, .int p2)]) [1, 3, 4, 0] rfl ?_
  exact l368_10_ok p1 h1 gF p3 p4 p2 _ _ h
