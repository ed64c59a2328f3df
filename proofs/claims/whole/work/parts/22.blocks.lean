theorem k1_0 : decode (gb 1) 0 = .ok (.iconst 0, 1) := by decide +kernel
theorem k1_1 : decode (gb 1) 1 = .ok (.istore_n 2, 1) := by decide +kernel
theorem k1_2 : decode (gb 1) 2 = .ok (.bipush 63, 2) := by decide +kernel
theorem k1_4 : decode (gb 1) 4 = .ok (.istore_n 3, 1) := by decide +kernel
theorem k1_5 : decode (gb 1) 5 = .ok (.iload_n 3, 1) := by decide +kernel
theorem k1_6 : decode (gb 1) 6 = .ok (.iconst 1, 1) := by decide +kernel
theorem k1_7 : decode (gb 1) 7 = .ok (.if_icmp .lt 34, 3) := by decide +kernel
theorem k1_10 : decode (gb 1) 10 = .ok (.iload_n 2, 1) := by decide +kernel
theorem k1_11 : decode (gb 1) 11 = .ok (.iconst 1, 1) := by decide +kernel
theorem k1_12 : decode (gb 1) 12 = .ok (.ishl, 1) := by decide +kernel
theorem k1_13 : decode (gb 1) 13 = .ok (.lload_n 0, 1) := by decide +kernel
theorem k1_14 : decode (gb 1) 14 = .ok (.iload_n 3, 1) := by decide +kernel
theorem k1_15 : decode (gb 1) 15 = .ok (.lushr, 1) := by decide +kernel
theorem k1_16 : decode (gb 1) 16 = .ok (.l2i, 1) := by decide +kernel
theorem k1_17 : decode (gb 1) 17 = .ok (.iconst 1, 1) := by decide +kernel
theorem k1_18 : decode (gb 1) 18 = .ok (.iand, 1) := by decide +kernel
theorem k1_19 : decode (gb 1) 19 = .ok (.ior, 1) := by decide +kernel
theorem k1_20 : decode (gb 1) 20 = .ok (.istore_n 2, 1) := by decide +kernel
theorem k1_21 : decode (gb 1) 21 = .ok (.iload_n 2, 1) := by decide +kernel
theorem k1_22 : decode (gb 1) 22 = .ok (.sipush 128, 3) := by decide +kernel
theorem k1_25 : decode (gb 1) 25 = .ok (.iand, 1) := by decide +kernel
theorem k1_26 : decode (gb 1) 26 = .ok (.ifCond .eq 9, 3) := by decide +kernel
theorem k1_29 : decode (gb 1) 29 = .ok (.iload_n 2, 1) := by decide +kernel
theorem k1_30 : decode (gb 1) 30 = .ok (.sipush 197, 3) := by decide +kernel
theorem k1_33 : decode (gb 1) 33 = .ok (.ixor, 1) := by decide +kernel
theorem k1_34 : decode (gb 1) 34 = .ok (.istore_n 2, 1) := by decide +kernel
theorem k1_35 : decode (gb 1) 35 = .ok (.iinc 3 (-1), 3) := by decide +kernel
theorem k1_38 : decode (gb 1) 38 = .ok (.goto (-33), 3) := by decide +kernel
theorem k1_41 : decode (gb 1) 41 = .ok (.iload_n 2, 1) := by decide +kernel
theorem k1_42 : decode (gb 1) 42 = .ok (.ireturn, 1) := by decide +kernel
def c1_35 (kl5 : Int64 → Int32 → Int32 → Mem → Option (Mem × Int32)) (w0 : Int64) (v2 : Int32) (v3 : Int32) (μ : Mem) : Option (Mem × Int32) :=
  nm (v3 + (-1 : Int32)) fun x1 =>
  kl5 w0 v2 x1 μ
theorem c1_35_ok {L : Nat} (kl5 : Int64 → Int32 → Int32 → Mem → Option (Mem × Int32)) (hk5 : (∀ (w0 : Int64) (v2 : Int32) (v3 : Int32) (μ : Mem) (res : Mem × Int32), kl5 w0 v2 v3 μ = some res → Sx 1 5 [(0, .long w0), (2, .int v2), (3, .int v3)] [] 0 0 (mk L μ) (mk L res.1, some (.int res.2)))) (w0 : Int64) (v2 : Int32) (v3 : Int32) (μ : Mem) (res : Mem × Int32) (h : c1_35 kl5 w0 v2 v3 μ = some res) : Sx 1 35 [(0, .long w0), (2, .int v2), (3, .int v3)] [] 0 0 (mk L μ) (mk L res.1, some (.int res.2)) := by
  unfold c1_35 at h
  refine cx_iinc (c := -1) (lo2 := fun x1 => [(3, .int x1), (0, .long w0), (2, .int v2)]) k1_35 rfl (by decide) (by rw [mx_1]; decide) (fun _ => rfl) h (fun x1 h => ?_)
  refine sx_goto (tgt := 5) k1_38 (by decide) ?_
  refine sx_pick (lo2 := [(0, .long w0), (2, .int v2), (3, .int x1)]) [1, 2, 0] rfl ?_
  exact hk5 w0 v2 x1 _ _ h
def b1_5 (kl5 : Int64 → Int32 → Int32 → Mem → Option (Mem × Int32)) (w0 : Int64) (v2 : Int32) (v3 : Int32) (μ : Mem) : Option (Mem × Int32) :=
  if v3 < (1 : Int32) then
    some (μ, v2)
  else
    nm ((jshl v2 (1 : Int32)) ||| ((Int64.toInt32 (jlushr w0 v3)) &&& (1 : Int32))) fun x2 =>
    if (x2 &&& (128 : Int32)) = 0 then
      c1_35 kl5 w0 x2 v3 μ
    else
      nm (x2 ^^^ (197 : Int32)) fun x4 =>
      c1_35 kl5 w0 x4 v3 μ
theorem b1_5_ok {L : Nat} (kl5 : Int64 → Int32 → Int32 → Mem → Option (Mem × Int32)) (hk5 : (∀ (w0 : Int64) (v2 : Int32) (v3 : Int32) (μ : Mem) (res : Mem × Int32), kl5 w0 v2 v3 μ = some res → Sx 1 5 [(0, .long w0), (2, .int v2), (3, .int v3)] [] 0 0 (mk L μ) (mk L res.1, some (.int res.2)))) (w0 : Int64) (v2 : Int32) (v3 : Int32) (μ : Mem) (res : Mem × Int32) (h : b1_5 kl5 w0 v2 v3 μ = some res) : Sx 1 5 [(0, .long w0), (2, .int v2), (3, .int v3)] [] 0 0 (mk L μ) (mk L res.1, some (.int res.2)) := by
  unfold b1_5 at h
  refine sx_iload_n (i := 3) k1_5 rfl rfl ?_
  refine sx_iconst (v := 1) k1_6 (by decide) ?_
  by_cases hb1 : v3 < (1 : Int32)
  · rw [if_pos hb1] at h
    refine sx_icmp_lt (tgt := 41) k1_7 (by decide) (fun _ => ?_) (fun q => absurd hb1 q)
    refine sx_iload_n (i := 2) k1_41 rfl rfl ?_
    exact cx_reti k1_42 rt_1 h
  · rw [if_neg hb1] at h
    refine sx_icmp_lt (tgt := 41) k1_7 (by decide) (fun q => absurd q hb1) (fun _ => ?_)
    refine sx_iload_n (i := 2) k1_10 rfl rfl ?_
    refine sx_iconst (v := 1) k1_11 (by decide) ?_
    refine sx_ishl k1_12 ?_
    refine sx_lload_n (i := 0) k1_13 rfl rfl ?_
    refine sx_iload_n (i := 3) k1_14 rfl rfl ?_
    refine sx_lushr k1_15 ?_
    refine sx_l2i k1_16 ?_
    refine sx_iconst (v := 1) k1_17 (by decide) ?_
    refine sx_iand k1_18 ?_
    refine sx_ior k1_19 ?_
    refine cx_nm h (fun x2 h => ?_)
    refine cx_istore_n (lo2 := [(2, .int x2), (0, .long w0), (3, .int v3)]) k1_20 rfl (by rw [mx_1]; decide) rfl ?_
    refine sx_iload_n (i := 2) k1_21 rfl rfl ?_
    refine sx_sipush (v := 128) k1_22 (by decide) ?_
    refine sx_iand k1_25 ?_
    by_cases hb3 : (x2 &&& (128 : Int32)) = 0
    · rw [if_pos hb3] at h
      refine sx_if_eq (tgt := 35) k1_26 (by decide) (fun _ => ?_) (fun q => absurd hb3 q)
      refine sx_pick (lo2 := [(0, .long w0), (2, .int x2), (3, .int v3)]) [1, 0, 2] rfl ?_
      exact c1_35_ok kl5 hk5 w0 x2 v3 _ _ h
    · rw [if_neg hb3] at h
      refine sx_if_eq (tgt := 35) k1_26 (by decide) (fun q => absurd q hb3) (fun _ => ?_)
      refine sx_iload_n (i := 2) k1_29 rfl rfl ?_
      refine sx_sipush (v := 197) k1_30 (by decide) ?_
      refine sx_ixor k1_33 ?_
      refine cx_nm h (fun x4 h => ?_)
      refine cx_istore_n (lo2 := [(2, .int x4), (0, .long w0), (3, .int v3)]) k1_34 rfl (by rw [mx_1]; decide) rfl ?_
      refine sx_pick (lo2 := [(0, .long w0), (2, .int x4), (3, .int v3)]) [1, 0, 2] rfl ?_
      exact c1_35_ok kl5 hk5 w0 x4 v3 _ _ h
def l1_5 : Nat → Int64 × Int32 × Int32 × Mem → Option (Mem × Int32) :=
  fixN (fun self x => b1_5 (fun w0 v2 v3 μ => self (w0, v2, v3, μ)) (x.1) (x.2.1) (x.2.2.1) (x.2.2.2))
theorem l1_5_ok {L : Nat} (n : Nat) (w0 : Int64) (v2 : Int32) (v3 : Int32) (μ : Mem) (res : Mem × Int32) (h : l1_5 n (w0, v2, v3, μ) = some res) : Sx 1 5 [(0, .long w0), (2, .int v2), (3, .int v3)] [] 0 0 (mk L μ) (mk L res.1, some (.int res.2)) := by
  have key := fixN_ind (P := fun x res => Sx 1 5 [(0, .long (x.1)), (2, .int (x.2.1)), (3, .int (x.2.2.1))] [] 0 0 (mk L (x.2.2.2)) (mk L res.1, some (.int res.2))) (F := fun self x => b1_5 (fun w0 v2 v3 μ => self (w0, v2, v3, μ)) (x.1) (x.2.1) (x.2.2.1) (x.2.2.2)) (fun self hself x res h => b1_5_ok (fun w0 v2 v3 μ => self (w0, v2, v3, μ)) (fun w0 v2 v3 μ res hh => hself (w0, v2, v3, μ) res hh) (x.1) (x.2.1) (x.2.2.1) (x.2.2.2) res h) n (w0, v2, v3, μ) res h
  exact key
/-- Blocks.remainder(J)I -/
def f1 (p1 : Int64) (μ : Mem) : Option (Mem × Int32) :=
  l1_5 gF (p1, (0 : Int32), (63 : Int32), μ)
theorem ok1 {L : Nat} (p1 : Int64) (μ : Mem) (res : Mem × Int32) (h : f1 p1 μ = some res) : Mx 1 [.long p1] (mk L μ) (mk L res.1, some (.int res.2)) := by
  refine Mx_of ml_1 (by rw [mx_1]; exact Nat.le_of_ble_eq_true rfl) ?_
  show Sx 1 0 [(0, .long p1)] [] 0 0 (mk L μ) _
  unfold f1 at h
  refine sx_iconst (v := 0) k1_0 (by decide) ?_
  refine cx_istore_n (lo2 := [(2, .int (0 : Int32)), (0, .long p1)]) k1_1 rfl (by rw [mx_1]; decide) rfl ?_
  refine sx_bipush (v := 63) k1_2 (by decide) ?_
  refine cx_istore_n (lo2 := [(3, .int (63 : Int32)), (2, .int (0 : Int32)), (0, .long p1)]) k1_4 rfl (by rw [mx_1]; decide) rfl ?_
  refine sx_pick (lo2 := [(0, .long p1), (2, .int (0 : Int32)), (3, .int (63 : Int32))]) [2, 1, 0] rfl ?_
  exact l1_5_ok gF p1 (0 : Int32) (63 : Int32) _ _ h
theorem k2_0 : decode (gb 2) 0 = .ok (.lload_n 0, 1) := by decide +kernel
theorem k2_1 : decode (gb 2) 1 = .ok (.ldc2_w 11, 3) := by decide +kernel
theorem k2_4 : decode (gb 2) 4 = .ok (.lxor, 1) := by decide +kernel
theorem k2_5 : decode (gb 2) 5 = .ok (.invokestatic 13, 3) := by decide +kernel
theorem k2_8 : decode (gb 2) 8 = .ok (.istore_n 2, 1) := by decide +kernel
theorem k2_9 : decode (gb 2) 9 = .ok (.iload_n 2, 1) := by decide +kernel
theorem k2_10 : decode (gb 2) 10 = .ok (.ifCond .ne 5, 3) := by decide +kernel
theorem k2_13 : decode (gb 2) 13 = .ok (.lconst 0, 1) := by decide +kernel
theorem k2_14 : decode (gb 2) 14 = .ok (.lreturn, 1) := by decide +kernel
theorem k2_15 : decode (gb 2) 15 = .ok (.iconst 1, 1) := by decide +kernel
theorem k2_16 : decode (gb 2) 16 = .ok (.istore_n 3, 1) := by decide +kernel
theorem k2_17 : decode (gb 2) 17 = .ok (.iconst 1, 1) := by decide +kernel
theorem k2_18 : decode (gb 2) 18 = .ok (.istore 4, 2) := by decide +kernel
theorem k2_20 : decode (gb 2) 20 = .ok (.iload 4, 2) := by decide +kernel
theorem k2_22 : decode (gb 2) 22 = .ok (.bipush 63, 2) := by decide +kernel
theorem k2_24 : decode (gb 2) 24 = .ok (.if_icmp .gt 37, 3) := by decide +kernel
theorem k2_27 : decode (gb 2) 27 = .ok (.iload_n 3, 1) := by decide +kernel
theorem k2_28 : decode (gb 2) 28 = .ok (.iload_n 2, 1) := by decide +kernel
theorem k2_29 : decode (gb 2) 29 = .ok (.if_icmp .ne 8, 3) := by decide +kernel
theorem k2_32 : decode (gb 2) 32 = .ok (.lconst 1, 1) := by decide +kernel
theorem k2_33 : decode (gb 2) 33 = .ok (.iload 4, 2) := by decide +kernel
theorem k2_35 : decode (gb 2) 35 = .ok (.lshl, 1) := by decide +kernel
theorem k2_36 : decode (gb 2) 36 = .ok (.lreturn, 1) := by decide +kernel
theorem k2_37 : decode (gb 2) 37 = .ok (.iload_n 3, 1) := by decide +kernel
theorem k2_38 : decode (gb 2) 38 = .ok (.iconst 1, 1) := by decide +kernel
theorem k2_39 : decode (gb 2) 39 = .ok (.ishl, 1) := by decide +kernel
theorem k2_40 : decode (gb 2) 40 = .ok (.istore_n 3, 1) := by decide +kernel
theorem k2_41 : decode (gb 2) 41 = .ok (.iload_n 3, 1) := by decide +kernel
theorem k2_42 : decode (gb 2) 42 = .ok (.sipush 128, 3) := by decide +kernel
theorem k2_45 : decode (gb 2) 45 = .ok (.iand, 1) := by decide +kernel
theorem k2_46 : decode (gb 2) 46 = .ok (.ifCond .eq 9, 3) := by decide +kernel
theorem k2_49 : decode (gb 2) 49 = .ok (.iload_n 3, 1) := by decide +kernel
theorem k2_50 : decode (gb 2) 50 = .ok (.sipush 197, 3) := by decide +kernel
theorem k2_53 : decode (gb 2) 53 = .ok (.ixor, 1) := by decide +kernel
theorem k2_54 : decode (gb 2) 54 = .ok (.istore_n 3, 1) := by decide +kernel
theorem k2_55 : decode (gb 2) 55 = .ok (.iinc 4 1, 3) := by decide +kernel
theorem k2_58 : decode (gb 2) 58 = .ok (.goto (-38), 3) := by decide +kernel
theorem k2_61 : decode (gb 2) 61 = .ok (.lconst 1, 1) := by decide +kernel
theorem k2_62 : decode (gb 2) 62 = .ok (.lreturn, 1) := by decide +kernel
def c2_55 (kl20 : Int32 → Int32 → Int32 → Mem → Option (Mem × Int64)) (v2 : Int32) (v3 : Int32) (v4 : Int32) (μ : Mem) : Option (Mem × Int64) :=
  nm (v4 + (1 : Int32)) fun x1 =>
  kl20 v2 v3 x1 μ
theorem c2_55_ok {L : Nat} (kl20 : Int32 → Int32 → Int32 → Mem → Option (Mem × Int64)) (hk20 : (∀ (v2 : Int32) (v3 : Int32) (v4 : Int32) (μ : Mem) (res : Mem × Int64), kl20 v2 v3 v4 μ = some res → Sx 2 20 [(2, .int v2), (3, .int v3), (4, .int v4)] [] 0 0 (mk L μ) (mk L res.1, some (.long res.2)))) (v2 : Int32) (v3 : Int32) (v4 : Int32) (μ : Mem) (res : Mem × Int64) (h : c2_55 kl20 v2 v3 v4 μ = some res) : Sx 2 55 [(2, .int v2), (3, .int v3), (4, .int v4)] [] 0 0 (mk L μ) (mk L res.1, some (.long res.2)) := by
  unfold c2_55 at h
  refine cx_iinc (c := 1) (lo2 := fun x1 => [(4, .int x1), (2, .int v2), (3, .int v3)]) k2_55 rfl (by decide) (by rw [mx_2]; decide) (fun _ => rfl) h (fun x1 h => ?_)
  refine sx_goto (tgt := 20) k2_58 (by decide) ?_
  refine sx_pick (lo2 := [(2, .int v2), (3, .int v3), (4, .int x1)]) [1, 2, 0] rfl ?_
  exact hk20 v2 v3 x1 _ _ h
def b2_20 (kl20 : Int32 → Int32 → Int32 → Mem → Option (Mem × Int64)) (v2 : Int32) (v3 : Int32) (v4 : Int32) (μ : Mem) : Option (Mem × Int64) :=
  if (63 : Int32) < v4 then
    some (μ, (1 : Int64))
  else
    if v3 = v2 then
      some (μ, (jlshl (1 : Int64) v4))
    else
      nm (jshl v3 (1 : Int32)) fun x3 =>
      if (x3 &&& (128 : Int32)) = 0 then
        c2_55 kl20 v2 x3 v4 μ
      else
        nm (x3 ^^^ (197 : Int32)) fun x5 =>
        c2_55 kl20 v2 x5 v4 μ
theorem b2_20_ok {L : Nat} (kl20 : Int32 → Int32 → Int32 → Mem → Option (Mem × Int64)) (hk20 : (∀ (v2 : Int32) (v3 : Int32) (v4 : Int32) (μ : Mem) (res : Mem × Int64), kl20 v2 v3 v4 μ = some res → Sx 2 20 [(2, .int v2), (3, .int v3), (4, .int v4)] [] 0 0 (mk L μ) (mk L res.1, some (.long res.2)))) (v2 : Int32) (v3 : Int32) (v4 : Int32) (μ : Mem) (res : Mem × Int64) (h : b2_20 kl20 v2 v3 v4 μ = some res) : Sx 2 20 [(2, .int v2), (3, .int v3), (4, .int v4)] [] 0 0 (mk L μ) (mk L res.1, some (.long res.2)) := by
  unfold b2_20 at h
  refine sx_iload k2_20 rfl ?_
  refine sx_bipush (v := 63) k2_22 (by decide) ?_
  by_cases hb1 : (63 : Int32) < v4
  · rw [if_pos hb1] at h
    refine sx_icmp_gt (tgt := 61) k2_24 (by decide) (fun _ => ?_) (fun q => absurd hb1 q)
    refine sx_lconst (v := 1) k2_61 (by decide) ?_
    exact cx_retl k2_62 rt_2 h
  · rw [if_neg hb1] at h
    refine sx_icmp_gt (tgt := 61) k2_24 (by decide) (fun q => absurd q hb1) (fun _ => ?_)
    refine sx_iload_n (i := 3) k2_27 rfl rfl ?_
    refine sx_iload_n (i := 2) k2_28 rfl rfl ?_
    by_cases hb2 : v3 = v2
    · rw [if_pos hb2] at h
      refine sx_icmp_ne (tgt := 37) k2_29 (by decide) (fun q => absurd hb2 q) (fun _ => ?_)
      refine sx_lconst (v := 1) k2_32 (by decide) ?_
      refine sx_iload k2_33 rfl ?_
      refine sx_lshl k2_35 ?_
      exact cx_retl k2_36 rt_2 h
    · rw [if_neg hb2] at h
      refine sx_icmp_ne (tgt := 37) k2_29 (by decide) (fun _ => ?_) (fun q => absurd q hb2)
      refine sx_iload_n (i := 3) k2_37 rfl rfl ?_
      refine sx_iconst (v := 1) k2_38 (by decide) ?_
      refine sx_ishl k2_39 ?_
      refine cx_nm h (fun x3 h => ?_)
      refine cx_istore_n (lo2 := [(3, .int x3), (2, .int v2), (4, .int v4)]) k2_40 rfl (by rw [mx_2]; decide) rfl ?_
      refine sx_iload_n (i := 3) k2_41 rfl rfl ?_
      refine sx_sipush (v := 128) k2_42 (by decide) ?_
      refine sx_iand k2_45 ?_
      by_cases hb4 : (x3 &&& (128 : Int32)) = 0
      · rw [if_pos hb4] at h
        refine sx_if_eq (tgt := 55) k2_46 (by decide) (fun _ => ?_) (fun q => absurd hb4 q)
        refine sx_pick (lo2 := [(2, .int v2), (3, .int x3), (4, .int v4)]) [1, 0, 2] rfl ?_
        exact c2_55_ok kl20 hk20 v2 x3 v4 _ _ h
      · rw [if_neg hb4] at h
        refine sx_if_eq (tgt := 55) k2_46 (by decide) (fun q => absurd q hb4) (fun _ => ?_)
        refine sx_iload_n (i := 3) k2_49 rfl rfl ?_
        refine sx_sipush (v := 197) k2_50 (by decide) ?_
        refine sx_ixor k2_53 ?_
        refine cx_nm h (fun x5 h => ?_)
        refine cx_istore_n (lo2 := [(3, .int x5), (2, .int v2), (4, .int v4)]) k2_54 rfl (by rw [mx_2]; decide) rfl ?_
        refine sx_pick (lo2 := [(2, .int v2), (3, .int x5), (4, .int v4)]) [1, 0, 2] rfl ?_
        exact c2_55_ok kl20 hk20 v2 x5 v4 _ _ h
def l2_20 : Nat → Int32 × Int32 × Int32 × Mem → Option (Mem × Int64) :=
  fixN (fun self x => b2_20 (fun v2 v3 v4 μ => self (v2, v3, v4, μ)) (x.1) (x.2.1) (x.2.2.1) (x.2.2.2))
theorem l2_20_ok {L : Nat} (n : Nat) (v2 : Int32) (v3 : Int32) (v4 : Int32) (μ : Mem) (res : Mem × Int64) (h : l2_20 n (v2, v3, v4, μ) = some res) : Sx 2 20 [(2, .int v2), (3, .int v3), (4, .int v4)] [] 0 0 (mk L μ) (mk L res.1, some (.long res.2)) := by
  have key := fixN_ind (P := fun x res => Sx 2 20 [(2, .int (x.1)), (3, .int (x.2.1)), (4, .int (x.2.2.1))] [] 0 0 (mk L (x.2.2.2)) (mk L res.1, some (.long res.2))) (F := fun self x => b2_20 (fun v2 v3 v4 μ => self (v2, v3, v4, μ)) (x.1) (x.2.1) (x.2.2.1) (x.2.2.2)) (fun self hself x res h => b2_20_ok (fun v2 v3 v4 μ => self (v2, v3, v4, μ)) (fun v2 v3 v4 μ res hh => hself (v2, v3, v4, μ) res hh) (x.1) (x.2.1) (x.2.2.1) (x.2.2.2) res h) n (v2, v3, v4, μ) res h
  exact key
/-- Blocks.wrongBit(J)J -/
def f2 (p1 : Int64) (μ : Mem) : Option (Mem × Int64) :=
  (f1 (p1 ^^^ (254 : Int64)) μ).bind fun r1 =>
  if r1.2 = 0 then
    some (r1.1, (0 : Int64))
  else
    l2_20 gF (r1.2, (1 : Int32), (1 : Int32), r1.1)
theorem ok2 {L : Nat} (p1 : Int64) (μ : Mem) (res : Mem × Int64) (h : f2 p1 μ = some res) : Mx 2 [.long p1] (mk L μ) (mk L res.1, some (.long res.2)) := by
  refine Mx_of ml_2 (by rw [mx_2]; exact Nat.le_of_ble_eq_true rfl) ?_
  show Sx 2 0 [(0, .long p1)] [] 0 0 (mk L μ) _
  unfold f2 at h
  refine sx_lload_n (i := 0) k2_0 rfl rfl ?_
  refine cx_ldc2 (v := 254) k2_1 ow_2 kl_0_11 (by decide) ?_
  refine sx_lxor k2_4 ?_
  obtain ⟨r1, e2, h⟩ := Option.bind_eq_some_iff.mp h
  refine cx_S (sk := []) (vs := [.long (p1 ^^^ (254 : Int64))]) st_2_1 k2_5 ow_2 cl_0_13 (by decide) rfl (Nat.le_of_ble_eq_true rfl) (ok1 (p1 ^^^ (254 : Int64)) _ _ e2) (sk3 := [.int r1.2]) rfl rfl ?_
  refine cx_istore_n (lo2 := [(2, .int r1.2), (0, .long p1)]) k2_8 rfl (by rw [mx_2]; decide) rfl ?_
  refine sx_iload_n (i := 2) k2_9 rfl rfl ?_
  by_cases hb3 : r1.2 = 0
  · rw [if_pos hb3] at h
    refine sx_if_ne (tgt := 15) k2_10 (by decide) (fun q => absurd hb3 q) (fun _ => ?_)
    refine sx_lconst (v := 0) k2_13 (by decide) ?_
    exact cx_retl k2_14 rt_2 h
  · rw [if_neg hb3] at h
    refine sx_if_ne (tgt := 15) k2_10 (by decide) (fun _ => ?_) (fun q => absurd q hb3)
    refine sx_iconst (v := 1) k2_15 (by decide) ?_
    refine cx_istore_n (lo2 := [(3, .int (1 : Int32)), (2, .int r1.2), (0, .long p1)]) k2_16 rfl (by rw [mx_2]; decide) rfl ?_
    refine sx_iconst (v := 1) k2_17 (by decide) ?_
    refine cx_istore (lo2 := [(4, .int (1 : Int32)), (3, .int (1 : Int32)), (2, .int r1.2), (0, .long p1)]) k2_18 (by rw [mx_2]; decide) rfl ?_
    refine sx_pick (lo2 := [(2, .int r1.2), (3, .int (1 : Int32)), (4, .int (1 : Int32))]) [2, 1, 0] rfl ?_
    exact l2_20_ok gF r1.2 (1 : Int32) (1 : Int32) _ _ h
theorem k3_0 : decode (gb 3) 0 = .ok (.aload_n 1, 1) := by decide +kernel
theorem k3_1 : decode (gb 3) 1 = .ok (.invokevirtual 17, 3) := by decide +kernel
theorem k3_4 : decode (gb 3) 4 = .ok (.aload_n 1, 1) := by decide +kernel
theorem k3_5 : decode (gb 3) 5 = .ok (.ldc 22, 2) := by decide +kernel
theorem k3_7 : decode (gb 3) 7 = .ok (.invokevirtual 23, 3) := by decide +kernel
theorem k3_10 : decode (gb 3) 10 = .ok (.iconst 0, 1) := by decide +kernel
theorem k3_11 : decode (gb 3) 11 = .ok (.istore_n 2, 1) := by decide +kernel
theorem k3_12 : decode (gb 3) 12 = .ok (.iload_n 2, 1) := by decide +kernel
theorem k3_13 : decode (gb 3) 13 = .ok (.aload_n 0, 1) := by decide +kernel
theorem k3_14 : decode (gb 3) 14 = .ok (.getfield 27, 3) := by decide +kernel
theorem k3_17 : decode (gb 3) 17 = .ok (.if_icmp .ge 87, 3) := by decide +kernel
theorem k3_20 : decode (gb 3) 20 = .ok (.lconst 0, 1) := by decide +kernel
theorem k3_21 : decode (gb 3) 21 = .ok (.lstore_n 3, 1) := by decide +kernel
theorem k3_22 : decode (gb 3) 22 = .ok (.iconst 0, 1) := by decide +kernel
theorem k3_23 : decode (gb 3) 23 = .ok (.istore 5, 2) := by decide +kernel
theorem k3_25 : decode (gb 3) 25 = .ok (.iload 5, 2) := by decide +kernel
theorem k3_27 : decode (gb 3) 27 = .ok (.bipush 7, 2) := by decide +kernel
theorem k3_29 : decode (gb 3) 29 = .ok (.if_icmp .ge 42, 3) := by decide +kernel
theorem k3_32 : decode (gb 3) 32 = .ok (.iload_n 2, 1) := by decide +kernel
theorem k3_33 : decode (gb 3) 33 = .ok (.iload 5, 2) := by decide +kernel
theorem k3_35 : decode (gb 3) 35 = .ok (.iadd, 1) := by decide +kernel
theorem k3_36 : decode (gb 3) 36 = .ok (.istore 6, 2) := by decide +kernel
theorem k3_38 : decode (gb 3) 38 = .ok (.lload_n 3, 1) := by decide +kernel
theorem k3_39 : decode (gb 3) 39 = .ok (.bipush 8, 2) := by decide +kernel
theorem k3_41 : decode (gb 3) 41 = .ok (.lshl, 1) := by decide +kernel
theorem k3_42 : decode (gb 3) 42 = .ok (.iload 6, 2) := by decide +kernel
theorem k3_44 : decode (gb 3) 44 = .ok (.aload_n 0, 1) := by decide +kernel
theorem k3_45 : decode (gb 3) 45 = .ok (.getfield 27, 3) := by decide +kernel
theorem k3_48 : decode (gb 3) 48 = .ok (.if_icmp .ge 12, 3) := by decide +kernel
theorem k3_51 : decode (gb 3) 51 = .ok (.aload_n 0, 1) := by decide +kernel
theorem k3_52 : decode (gb 3) 52 = .ok (.iload 6, 2) := by decide +kernel
theorem k3_54 : decode (gb 3) 54 = .ok (.invokevirtual 31, 3) := by decide +kernel
theorem k3_57 : decode (gb 3) 57 = .ok (.goto 5, 3) := by decide +kernel
theorem k3_60 : decode (gb 3) 60 = .ok (.bipush 85, 2) := by decide +kernel
theorem k3_62 : decode (gb 3) 62 = .ok (.i2l, 1) := by decide +kernel
theorem k3_63 : decode (gb 3) 63 = .ok (.lor, 1) := by decide +kernel
theorem k3_64 : decode (gb 3) 64 = .ok (.lstore_n 3, 1) := by decide +kernel
theorem k3_65 : decode (gb 3) 65 = .ok (.iinc 5 1, 3) := by decide +kernel
theorem k3_68 : decode (gb 3) 68 = .ok (.goto (-43), 3) := by decide +kernel
theorem k3_71 : decode (gb 3) 71 = .ok (.aload_n 1, 1) := by decide +kernel
theorem k3_72 : decode (gb 3) 72 = .ok (.lload_n 3, 1) := by decide +kernel
theorem k3_73 : decode (gb 3) 73 = .ok (.bipush 8, 2) := by decide +kernel
theorem k3_75 : decode (gb 3) 75 = .ok (.lshl, 1) := by decide +kernel
theorem k3_76 : decode (gb 3) 76 = .ok (.invokevirtual 35, 3) := by decide +kernel
theorem k3_79 : decode (gb 3) 79 = .ok (.aload_n 1, 1) := by decide +kernel
theorem k3_80 : decode (gb 3) 80 = .ok (.lload_n 3, 1) := by decide +kernel
theorem k3_81 : decode (gb 3) 81 = .ok (.bipush 8, 2) := by decide +kernel
theorem k3_83 : decode (gb 3) 83 = .ok (.lshl, 1) := by decide +kernel
theorem k3_84 : decode (gb 3) 84 = .ok (.invokestatic 13, 3) := by decide +kernel
theorem k3_87 : decode (gb 3) 87 = .ok (.iconst (-1), 1) := by decide +kernel
theorem k3_88 : decode (gb 3) 88 = .ok (.ixor, 1) := by decide +kernel
theorem k3_89 : decode (gb 3) 89 = .ok (.iconst 1, 1) := by decide +kernel
theorem k3_90 : decode (gb 3) 90 = .ok (.ishl, 1) := by decide +kernel
theorem k3_91 : decode (gb 3) 91 = .ok (.sipush 254, 3) := by decide +kernel
theorem k3_94 : decode (gb 3) 94 = .ok (.iand, 1) := by decide +kernel
theorem k3_95 : decode (gb 3) 95 = .ok (.invokevirtual 39, 3) := by decide +kernel
theorem k3_98 : decode (gb 3) 98 = .ok (.iinc 2 7, 3) := by decide +kernel
theorem k3_101 : decode (gb 3) 101 = .ok (.goto (-89), 3) := by decide +kernel
theorem k3_104 : decode (gb 3) 104 = .ok (.aload_n 1, 1) := by decide +kernel
theorem k3_105 : decode (gb 3) 105 = .ok (.sipush 197, 3) := by decide +kernel
theorem k3_108 : decode (gb 3) 108 = .ok (.bipush 7, 2) := by decide +kernel
theorem k3_110 : decode (gb 3) 110 = .ok (.invokevirtual 42, 3) := by decide +kernel
theorem k3_113 : decode (gb 3) 113 = .ok (.aload_n 1, 1) := by decide +kernel
theorem k3_114 : decode (gb 3) 114 = .ok (.bipush 121, 2) := by decide +kernel
theorem k3_116 : decode (gb 3) 116 = .ok (.invokevirtual 39, 3) := by decide +kernel
theorem k3_119 : decode (gb 3) 119 = .ok (.return_, 1) := by decide +kernel
def c3_62 (p1 : Nat) (p2 : Nat) (kl12 : Int32 → Mem → Option (Mem)) (kl25 : Int32 → Int64 → Int32 → Mem → Option (Mem)) (v2 : Int32) (v5 : Int32) (s0 : Int64) (s1 : Int32) (μ : Mem) : Option (Mem) :=
  nm (s0 ||| (Int32.toInt64 s1)) fun y1 =>
  nm (v5 + (1 : Int32)) fun x2 =>
  kl25 v2 y1 x2 μ
theorem c3_62_ok {L : Nat} (p1 : Nat) (p2 : Nat) (h1 : SK0 p1 = (0, 1)) (h2 : SK0 p2 = (0, 1)) (kl12 : Int32 → Mem → Option (Mem)) (kl25 : Int32 → Int64 → Int32 → Mem → Option (Mem)) (hk12 : (∀ (v2 : Int32) (μ : Mem) (res : Mem), kl12 v2 μ = some res → Sx 3 12 [(0, .ref p1), (1, .ref p2), (2, .int v2)] [] 0 0 (mk L μ) (mk L res, none))) (hk25 : (∀ (v2 : Int32) (w3 : Int64) (v5 : Int32) (μ : Mem) (res : Mem), kl25 v2 w3 v5 μ = some res → Sx 3 25 [(0, .ref p1), (1, .ref p2), (2, .int v2), (3, .long w3), (5, .int v5)] [] 0 0 (mk L μ) (mk L res, none))) (v2 : Int32) (v5 : Int32) (s0 : Int64) (s1 : Int32) (μ : Mem) (res : Mem) (h : c3_62 p1 p2 kl12 kl25 v2 v5 s0 s1 μ = some res) : Sx 3 62 [(0, .ref p1), (1, .ref p2), (2, .int v2), (5, .int v5)] [.int s1, .long s0] 0 0 (mk L μ) (mk L res, none) := by
  unfold c3_62 at h
  refine sx_i2l k3_62 ?_
  refine sx_lor k3_63 ?_
  refine cx_nmL h (fun y1 h => ?_)
  refine cx_lstore_n (lo2 := [(3, .long y1), (0, .ref p1), (1, .ref p2), (2, .int v2), (5, .int v5)]) k3_64 rfl (by rw [mx_3]; decide) rfl ?_
  refine cx_iinc (c := 1) (lo2 := fun x2 => [(5, .int x2), (3, .long y1), (0, .ref p1), (1, .ref p2), (2, .int v2)]) k3_65 rfl (by decide) (by rw [mx_3]; decide) (fun _ => rfl) h (fun x2 h => ?_)
  refine sx_goto (tgt := 25) k3_68 (by decide) ?_
  refine sx_pick (lo2 := [(0, .ref p1), (1, .ref p2), (2, .int v2), (3, .long y1), (5, .int x2)]) [2, 3, 4, 1, 0] rfl ?_
  exact hk25 v2 y1 x2 _ _ h
def b3_25 (p1 : Nat) (p2 : Nat) (kl12 : Int32 → Mem → Option (Mem)) (kl25 : Int32 → Int64 → Int32 → Mem → Option (Mem)) (v2 : Int32) (w3 : Int64) (v5 : Int32) (μ : Mem) : Option (Mem) :=
  if (7 : Int32) ≤ v5 then
    (f68 p2 (jlshl w3 (8 : Int32)) μ).bind fun r2 =>
    (f1 (jlshl w3 (8 : Int32)) r2).bind fun r4 =>
    (f65 p2 ((jshl (r4.2 ^^^ (-1 : Int32)) (1 : Int32)) &&& (254 : Int32)) r4.1).bind fun r6 =>
    nm (v2 + (7 : Int32)) fun x8 =>
    kl12 x8 r6
  else
    nm (v2 + v5) fun x9 =>
    if (μ.1 p1 1) ≤ x9 then
      c3_62 p1 p2 kl12 kl25 v2 v5 (jlshl w3 (8 : Int32)) (85 : Int32) μ
    else
      (f75 p1 x9 μ).bind fun r11 =>
      c3_62 p1 p2 kl12 kl25 v2 v5 (jlshl w3 (8 : Int32)) r11.2 r11.1
theorem b3_25_ok {L : Nat} (p1 : Nat) (p2 : Nat) (h1 : SK0 p1 = (0, 1)) (h2 : SK0 p2 = (0, 1)) (kl12 : Int32 → Mem → Option (Mem)) (kl25 : Int32 → Int64 → Int32 → Mem → Option (Mem)) (hk12 : (∀ (v2 : Int32) (μ : Mem) (res : Mem), kl12 v2 μ = some res → Sx 3 12 [(0, .ref p1), (1, .ref p2), (2, .int v2)] [] 0 0 (mk L μ) (mk L res, none))) (hk25 : (∀ (v2 : Int32) (w3 : Int64) (v5 : Int32) (μ : Mem) (res : Mem), kl25 v2 w3 v5 μ = some res → Sx 3 25 [(0, .ref p1), (1, .ref p2), (2, .int v2), (3, .long w3), (5, .int v5)] [] 0 0 (mk L μ) (mk L res, none))) (v2 : Int32) (w3 : Int64) (v5 : Int32) (μ : Mem) (res : Mem) (h : b3_25 p1 p2 kl12 kl25 v2 w3 v5 μ = some res) : Sx 3 25 [(0, .ref p1), (1, .ref p2), (2, .int v2), (3, .long w3), (5, .int v5)] [] 0 0 (mk L μ) (mk L res, none) := by
  unfold b3_25 at h
  refine sx_iload k3_25 rfl ?_
  refine sx_bipush (v := 7) k3_27 (by decide) ?_
  by_cases hb1 : (7 : Int32) ≤ v5
  · rw [if_pos hb1] at h
    refine sx_icmp_ge (tgt := 71) k3_29 (by decide) (fun _ => ?_) (fun q => absurd hb1 q)
    refine sx_aload_n (i := 1) k3_71 rfl rfl ?_
    refine sx_lload_n (i := 3) k3_72 rfl rfl ?_
    refine sx_bipush (v := 8) k3_73 (by decide) ?_
    refine sx_lshl k3_75 ?_
    obtain ⟨r2, e3, h⟩ := Option.bind_eq_some_iff.mp h
    refine cx_V (sk := []) (vs := [.long (jlshl w3 (8 : Int32))]) st_3_68 k3_76 ow_3 cl_0_35 (by decide) rfl (Nat.le_of_ble_eq_true rfl) h2 (ok68 p2 (jlshl w3 (8 : Int32)) h2 _ _ e3) (sk3 := []) rfl rfl ?_
    refine sx_aload_n (i := 1) k3_79 rfl rfl ?_
    refine sx_lload_n (i := 3) k3_80 rfl rfl ?_
    refine sx_bipush (v := 8) k3_81 (by decide) ?_
    refine sx_lshl k3_83 ?_
    obtain ⟨r4, e5, h⟩ := Option.bind_eq_some_iff.mp h
    refine cx_S (sk := [.ref p2]) (vs := [.long (jlshl w3 (8 : Int32))]) st_3_1 k3_84 ow_3 cl_0_13 (by decide) rfl (Nat.le_of_ble_eq_true rfl) (ok1 (jlshl w3 (8 : Int32)) _ _ e5) (sk3 := [.int r4.2, .ref p2]) rfl rfl ?_
    refine sx_iconst (v := -1) k3_87 (by decide) ?_
    refine sx_ixor k3_88 ?_
    refine sx_iconst (v := 1) k3_89 (by decide) ?_
    refine sx_ishl k3_90 ?_
    refine sx_sipush (v := 254) k3_91 (by decide) ?_
    refine sx_iand k3_94 ?_
    obtain ⟨r6, e7, h⟩ := Option.bind_eq_some_iff.mp h
    refine cx_V (sk := []) (vs := [.int ((jshl (r4.2 ^^^ (-1 : Int32)) (1 : Int32)) &&& (254 : Int32))]) st_3_65 k3_95 ow_3 cl_0_39 (by decide) rfl (Nat.le_of_ble_eq_true rfl) h2 (ok65 p2 ((jshl (r4.2 ^^^ (-1 : Int32)) (1 : Int32)) &&& (254 : Int32)) h2 _ _ e7) (sk3 := []) rfl rfl ?_
    refine cx_iinc (c := 7) (lo2 := fun x8 => [(2, .int x8), (0, .ref p1), (1, .ref p2), (3, .long w3), (5, .int v5)]) k3_98 rfl (by decide) (by rw [mx_3]; decide) (fun _ => rfl) h (fun x8 h => ?_)
    refine sx_goto (tgt := 12) k3_101 (by decide) ?_
    refine sx_pick (lo2 := [(0, .ref p1), (1, .ref p2), (2, .int x8)]) [1, 2, 0] rfl ?_
    exact hk12 x8 _ _ h
  · rw [if_neg hb1] at h
    refine sx_icmp_ge (tgt := 71) k3_29 (by decide) (fun q => absurd q hb1) (fun _ => ?_)
    refine sx_iload_n (i := 2) k3_32 rfl rfl ?_
    refine sx_iload k3_33 rfl ?_
    refine sx_iadd k3_35 ?_
    refine cx_nm h (fun x9 h => ?_)
    refine cx_istore (lo2 := [(6, .int x9), (0, .ref p1), (1, .ref p2), (2, .int v2), (3, .long w3), (5, .int v5)]) k3_36 (by rw [mx_3]; decide) rfl ?_
    refine sx_lload_n (i := 3) k3_38 rfl rfl ?_
    refine sx_bipush (v := 8) k3_39 (by decide) ?_
    refine sx_lshl k3_41 ?_
    refine sx_iload k3_42 rfl ?_
    refine sx_aload_n (i := 0) k3_44 rfl rfl ?_
    refine cx_getI (k := 1) k3_45 ow_3 fl_0_27 (by decide) h1 ft_1_1 ?_
    by_cases hb10 : (μ.1 p1 1) ≤ x9
    · rw [if_pos hb10] at h
      refine sx_icmp_ge (tgt := 60) k3_48 (by decide) (fun _ => ?_) (fun q => absurd hb10 q)
      refine sx_bipush (v := 85) k3_60 (by decide) ?_
      refine sx_pick (lo2 := [(0, .ref p1), (1, .ref p2), (2, .int v2), (5, .int v5)]) [1, 2, 3, 5] rfl ?_
      exact c3_62_ok p1 p2 h1 h2 kl12 kl25 hk12 hk25 v2 v5 (jlshl w3 (8 : Int32)) (85 : Int32) _ _ h
    · rw [if_neg hb10] at h
      refine sx_icmp_ge (tgt := 60) k3_48 (by decide) (fun q => absurd q hb10) (fun _ => ?_)
      refine sx_aload_n (i := 0) k3_51 rfl rfl ?_
      refine sx_iload k3_52 rfl ?_
      obtain ⟨r11, e12, h⟩ := Option.bind_eq_some_iff.mp h
      refine cx_V (sk := [.long (jlshl w3 (8 : Int32))]) (vs := [.int x9]) st_3_75 k3_54 ow_3 cl_0_31 (by decide) rfl (Nat.le_of_ble_eq_true rfl) h1 (ok75 p1 x9 h1 _ _ e12) (sk3 := [.int r11.2, .long (jlshl w3 (8 : Int32))]) rfl rfl ?_
      refine sx_goto (tgt := 62) k3_57 (by decide) ?_
      refine sx_pick (lo2 := [(0, .ref p1), (1, .ref p2), (2, .int v2), (5, .int v5)]) [1, 2, 3, 5] rfl ?_
      exact c3_62_ok p1 p2 h1 h2 kl12 kl25 hk12 hk25 v2 v5 (jlshl w3 (8 : Int32)) r11.2 _ _ h
def l3_25 (p1 : Nat) (p2 : Nat) (kl12 : Int32 → Mem → Option (Mem)) : Nat → Int32 × Int64 × Int32 × Mem → Option (Mem) :=
  fixN (fun self x => b3_25 p1 p2 kl12 (fun v2 w3 v5 μ => self (v2, w3, v5, μ)) (x.1) (x.2.1) (x.2.2.1) (x.2.2.2))
theorem l3_25_ok {L : Nat} (p1 : Nat) (p2 : Nat) (h1 : SK0 p1 = (0, 1)) (h2 : SK0 p2 = (0, 1)) (kl12 : Int32 → Mem → Option (Mem)) (hk12 : (∀ (v2 : Int32) (μ : Mem) (res : Mem), kl12 v2 μ = some res → Sx 3 12 [(0, .ref p1), (1, .ref p2), (2, .int v2)] [] 0 0 (mk L μ) (mk L res, none))) (n : Nat) (v2 : Int32) (w3 : Int64) (v5 : Int32) (μ : Mem) (res : Mem) (h : l3_25 p1 p2 kl12 n (v2, w3, v5, μ) = some res) : Sx 3 25 [(0, .ref p1), (1, .ref p2), (2, .int v2), (3, .long w3), (5, .int v5)] [] 0 0 (mk L μ) (mk L res, none) := by
  have key := fixN_ind (P := fun x res => Sx 3 25 [(0, .ref p1), (1, .ref p2), (2, .int (x.1)), (3, .long (x.2.1)), (5, .int (x.2.2.1))] [] 0 0 (mk L (x.2.2.2)) (mk L res, none)) (F := fun self x => b3_25 p1 p2 kl12 (fun v2 w3 v5 μ => self (v2, w3, v5, μ)) (x.1) (x.2.1) (x.2.2.1) (x.2.2.2)) (fun self hself x res h => b3_25_ok p1 p2 h1 h2 kl12 (fun v2 w3 v5 μ => self (v2, w3, v5, μ)) hk12 (fun v2 w3 v5 μ res hh => hself (v2, w3, v5, μ) res hh) (x.1) (x.2.1) (x.2.2.1) (x.2.2.2) res h) n (v2, w3, v5, μ) res h
  exact key
def b3_12 (p1 : Nat) (p2 : Nat) (kl12 : Int32 → Mem → Option (Mem)) (v2 : Int32) (μ : Mem) : Option (Mem) :=
  if (μ.1 p1 1) ≤ v2 then
    (f69 p2 (197 : Int32) (7 : Int32) μ).bind fun r2 =>
    (f65 p2 (121 : Int32) r2).bind fun r4 =>
    some r4
  else
    l3_25 p1 p2 kl12 gF (v2, (0 : Int64), (0 : Int32), μ)
theorem b3_12_ok {L : Nat} (p1 : Nat) (p2 : Nat) (h1 : SK0 p1 = (0, 1)) (h2 : SK0 p2 = (0, 1)) (kl12 : Int32 → Mem → Option (Mem)) (hk12 : (∀ (v2 : Int32) (μ : Mem) (res : Mem), kl12 v2 μ = some res → Sx 3 12 [(0, .ref p1), (1, .ref p2), (2, .int v2)] [] 0 0 (mk L μ) (mk L res, none))) (v2 : Int32) (μ : Mem) (res : Mem) (h : b3_12 p1 p2 kl12 v2 μ = some res) : Sx 3 12 [(0, .ref p1), (1, .ref p2), (2, .int v2)] [] 0 0 (mk L μ) (mk L res, none) := by
  unfold b3_12 at h
  refine sx_iload_n (i := 2) k3_12 rfl rfl ?_
  refine sx_aload_n (i := 0) k3_13 rfl rfl ?_
  refine cx_getI (k := 1) k3_14 ow_3 fl_0_27 (by decide) h1 ft_1_1 ?_
  by_cases hb1 : (μ.1 p1 1) ≤ v2
  · rw [if_pos hb1] at h
    refine sx_icmp_ge (tgt := 104) k3_17 (by decide) (fun _ => ?_) (fun q => absurd hb1 q)
    refine sx_aload_n (i := 1) k3_104 rfl rfl ?_
    refine sx_sipush (v := 197) k3_105 (by decide) ?_
    refine sx_bipush (v := 7) k3_108 (by decide) ?_
    obtain ⟨r2, e3, h⟩ := Option.bind_eq_some_iff.mp h
    refine cx_V (sk := []) (vs := [.int (197 : Int32), .int (7 : Int32)]) st_3_69 k3_110 ow_3 cl_0_42 (by decide) rfl (Nat.le_of_ble_eq_true rfl) h2 (ok69 p2 (197 : Int32) (7 : Int32) h2 _ _ e3) (sk3 := []) rfl rfl ?_
    refine sx_aload_n (i := 1) k3_113 rfl rfl ?_
    refine sx_bipush (v := 121) k3_114 (by decide) ?_
    obtain ⟨r4, e5, h⟩ := Option.bind_eq_some_iff.mp h
    refine cx_V (sk := []) (vs := [.int (121 : Int32)]) st_3_65 k3_116 ow_3 cl_0_39 (by decide) rfl (Nat.le_of_ble_eq_true rfl) h2 (ok65 p2 (121 : Int32) h2 _ _ e5) (sk3 := []) rfl rfl ?_
    exact cx_retv k3_119 rt_3 h
  · rw [if_neg hb1] at h
    refine sx_icmp_ge (tgt := 104) k3_17 (by decide) (fun q => absurd q hb1) (fun _ => ?_)
    refine sx_lconst (v := 0) k3_20 (by decide) ?_
    refine cx_lstore_n (lo2 := [(3, .long (0 : Int64)), (0, .ref p1), (1, .ref p2), (2, .int v2)]) k3_21 rfl (by rw [mx_3]; decide) rfl ?_
    refine sx_iconst (v := 0) k3_22 (by decide) ?_
    refine cx_istore (lo2 := [(5, .int (0 : Int32)), (3, .long (0 : Int64)), (0, .ref p1), (1, .ref p2), (2, .int v2)]) k3_23 (by rw [mx_3]; decide) rfl ?_
    refine sx_pick (lo2 := [(0, .ref p1), (1, .ref p2), (2, .int v2), (3, .long (0 : Int64)), (5, .int (0 : Int32))]) [2, 3, 4, 1, 0] rfl ?_
    exact l3_25_ok p1 p2 h1 h2 kl12 hk12 gF v2 (0 : Int64) (0 : Int32) _ _ h
def l3_12 (p1 : Nat) (p2 : Nat) : Nat → Int32 × Mem → Option (Mem) :=
  fixN (fun self x => b3_12 p1 p2 (fun v2 μ => self (v2, μ)) (x.1) (x.2))
theorem l3_12_ok {L : Nat} (p1 : Nat) (p2 : Nat) (h1 : SK0 p1 = (0, 1)) (h2 : SK0 p2 = (0, 1)) (n : Nat) (v2 : Int32) (μ : Mem) (res : Mem) (h : l3_12 p1 p2 n (v2, μ) = some res) : Sx 3 12 [(0, .ref p1), (1, .ref p2), (2, .int v2)] [] 0 0 (mk L μ) (mk L res, none) := by
  have key := fixN_ind (P := fun x res => Sx 3 12 [(0, .ref p1), (1, .ref p2), (2, .int (x.1))] [] 0 0 (mk L (x.2)) (mk L res, none)) (F := fun self x => b3_12 p1 p2 (fun v2 μ => self (v2, μ)) (x.1) (x.2)) (fun self hself x res h => b3_12_ok p1 p2 h1 h2 (fun v2 μ => self (v2, μ)) (fun v2 μ res hh => hself (v2, μ) res hh) (x.1) (x.2) res h) n (v2, μ) res h
  exact key
/-- Blocks.wrap(LCraftHouse$Bytes;LCraftHouse$Bytes;)V -/
def f3 (p1 : Nat) (p2 : Nat) (μ : Mem) : Option (Mem) :=
  (f64 p2 μ).bind fun r1 =>
  (f66 p2 (60304 : Int32) r1).bind fun r3 =>
  l3_12 p1 p2 gF ((0 : Int32), r3)
theorem ok3 {L : Nat} (p1 : Nat) (p2 : Nat) (h1 : SK0 p1 = (0, 1)) (h2 : SK0 p2 = (0, 1)) (μ : Mem) (res : Mem) (h : f3 p1 p2 μ = some res) : Mx 3 [.ref p1, .ref p2] (mk L μ) (mk L res, none) := by
  refine Mx_of ml_3 (by rw [mx_3]; exact Nat.le_of_ble_eq_true rfl) ?_
  show Sx 3 0 [(0, .ref p1), (1, .ref p2)] [] 0 0 (mk L μ) _
  unfold f3 at h
  refine sx_aload_n (i := 1) k3_0 rfl rfl ?_
  obtain ⟨r1, e2, h⟩ := Option.bind_eq_some_iff.mp h
  refine cx_V (sk := []) (vs := []) st_3_64 k3_1 ow_3 cl_0_17 (by decide) rfl (Nat.le_of_ble_eq_true rfl) h2 (ok64 p2 h2 _ _ e2) (sk3 := []) rfl rfl ?_
  refine sx_aload_n (i := 1) k3_4 rfl rfl ?_
  refine cx_ldc (v := 60304) k3_5 ow_3 kl_0_22 (by decide) ?_
  obtain ⟨r3, e4, h⟩ := Option.bind_eq_some_iff.mp h
  refine cx_V (sk := []) (vs := [.int (60304 : Int32)]) st_3_66 k3_7 ow_3 cl_0_23 (by decide) rfl (Nat.le_of_ble_eq_true rfl) h2 (ok66 p2 (60304 : Int32) h2 _ _ e4) (sk3 := []) rfl rfl ?_
  refine sx_iconst (v := 0) k3_10 (by decide) ?_
  refine cx_istore_n (lo2 := [(2, .int (0 : Int32)), (0, .ref p1), (1, .ref p2)]) k3_11 rfl (by rw [mx_3]; decide) rfl ?_
  refine sx_pick (lo2 := [(0, .ref p1), (1, .ref p2), (2, .int (0 : Int32))]) [1, 2, 0] rfl ?_
  exact l3_12_ok p1 p2 h1 h2 gF (0 : Int32) _ _ h
