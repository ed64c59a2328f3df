theorem k316_0 : decode (gb 316) 0 = .ok (.aload_n 0, 1) := by decide +kernel
theorem k316_1 : decode (gb 316) 1 = .ok (.getfield 164, 3) := by decide +kernel
theorem k316_4 : decode (gb 316) 4 = .ok (.istore_n 1, 1) := by decide +kernel
theorem k316_5 : decode (gb 316) 5 = .ok (.aload_n 0, 1) := by decide +kernel
theorem k316_6 : decode (gb 316) 6 = .ok (.getfield 167, 3) := by decide +kernel
theorem k316_9 : decode (gb 316) 9 = .ok (.astore_n 2, 1) := by decide +kernel
theorem k316_10 : decode (gb 316) 10 = .ok (.iload_n 1, 1) := by decide +kernel
theorem k316_11 : decode (gb 316) 11 = .ok (.bipush 13, 2) := by decide +kernel
theorem k316_13 : decode (gb 316) 13 = .ok (.if_icmp .lt 16, 3) := by decide +kernel
theorem k316_16 : decode (gb 316) 16 = .ok (.iload_n 1, 1) := by decide +kernel
theorem k316_17 : decode (gb 316) 17 = .ok (.aload_n 0, 1) := by decide +kernel
theorem k316_18 : decode (gb 316) 18 = .ok (.aload_n 2, 1) := by decide +kernel
theorem k316_19 : decode (gb 316) 19 = .ok (.iconst 4, 1) := by decide +kernel
theorem k316_20 : decode (gb 316) 20 = .ok (.invokevirtual 472, 3) := by decide +kernel
theorem k316_23 : decode (gb 316) 23 = .ok (.bipush 7, 2) := by decide +kernel
theorem k316_25 : decode (gb 316) 25 = .ok (.iadd, 1) := by decide +kernel
theorem k316_26 : decode (gb 316) 26 = .ok (.if_icmp .eq 5, 3) := by decide +kernel
theorem k316_29 : decode (gb 316) 29 = .ok (.iconst 1, 1) := by decide +kernel
theorem k316_30 : decode (gb 316) 30 = .ok (.ireturn, 1) := by decide +kernel
theorem k316_31 : decode (gb 316) 31 = .ok (.aload_n 2, 1) := by decide +kernel
theorem k316_32 : decode (gb 316) 32 = .ok (.iconst 0, 1) := by decide +kernel
theorem k316_33 : decode (gb 316) 33 = .ok (.iload_n 1, 1) := by decide +kernel
theorem k316_34 : decode (gb 316) 34 = .ok (.iconst 2, 1) := by decide +kernel
theorem k316_35 : decode (gb 316) 35 = .ok (.isub, 1) := by decide +kernel
theorem k316_36 : decode (gb 316) 36 = .ok (.invokestatic 11, 3) := by decide +kernel
theorem k316_39 : decode (gb 316) 39 = .ok (.aload_n 0, 1) := by decide +kernel
theorem k316_40 : decode (gb 316) 40 = .ok (.aload_n 2, 1) := by decide +kernel
theorem k316_41 : decode (gb 316) 41 = .ok (.iload_n 1, 1) := by decide +kernel
theorem k316_42 : decode (gb 316) 42 = .ok (.iconst 2, 1) := by decide +kernel
theorem k316_43 : decode (gb 316) 43 = .ok (.isub, 1) := by decide +kernel
theorem k316_44 : decode (gb 316) 44 = .ok (.invokevirtual 472, 3) := by decide +kernel
theorem k316_47 : decode (gb 316) 47 = .ok (.if_icmp .eq 5, 3) := by decide +kernel
theorem k316_50 : decode (gb 316) 50 = .ok (.iconst 2, 1) := by decide +kernel
theorem k316_51 : decode (gb 316) 51 = .ok (.ireturn, 1) := by decide +kernel
theorem k316_52 : decode (gb 316) 52 = .ok (.aload_n 2, 1) := by decide +kernel
theorem k316_53 : decode (gb 316) 53 = .ok (.iconst 0, 1) := by decide +kernel
theorem k316_54 : decode (gb 316) 54 = .ok (.iaload, 1) := by decide +kernel
theorem k316_55 : decode (gb 316) 55 = .ok (.bipush 24, 2) := by decide +kernel
theorem k316_57 : decode (gb 316) 57 = .ok (.if_icmp .ne 21, 3) := by decide +kernel
theorem k316_60 : decode (gb 316) 60 = .ok (.aload_n 2, 1) := by decide +kernel
theorem k316_61 : decode (gb 316) 61 = .ok (.iconst 1, 1) := by decide +kernel
theorem k316_62 : decode (gb 316) 62 = .ok (.iaload, 1) := by decide +kernel
theorem k316_63 : decode (gb 316) 63 = .ok (.bipush 12, 2) := by decide +kernel
theorem k316_65 : decode (gb 316) 65 = .ok (.if_icmp .ne 13, 3) := by decide +kernel
theorem k316_68 : decode (gb 316) 68 = .ok (.aload_n 2, 1) := by decide +kernel
theorem k316_69 : decode (gb 316) 69 = .ok (.bipush 6, 2) := by decide +kernel
theorem k316_71 : decode (gb 316) 71 = .ok (.iaload, 1) := by decide +kernel
theorem k316_72 : decode (gb 316) 72 = .ok (.iconst 4, 1) := by decide +kernel
theorem k316_73 : decode (gb 316) 73 = .ok (.ishr, 1) := by decide +kernel
theorem k316_74 : decode (gb 316) 74 = .ok (.iconst 2, 1) := by decide +kernel
theorem k316_75 : decode (gb 316) 75 = .ok (.if_icmp .eq 5, 3) := by decide +kernel
theorem k316_78 : decode (gb 316) 78 = .ok (.iconst 3, 1) := by decide +kernel
theorem k316_79 : decode (gb 316) 79 = .ok (.ireturn, 1) := by decide +kernel
theorem k316_80 : decode (gb 316) 80 = .ok (.aload_n 2, 1) := by decide +kernel
theorem k316_81 : decode (gb 316) 81 = .ok (.bipush 7, 2) := by decide +kernel
theorem k316_83 : decode (gb 316) 83 = .ok (.iaload, 1) := by decide +kernel
theorem k316_84 : decode (gb 316) 84 = .ok (.invokestatic 475, 3) := by decide +kernel
theorem k316_87 : decode (gb 316) 87 = .ok (.ifCond .ne 5, 3) := by decide +kernel
theorem k316_90 : decode (gb 316) 90 = .ok (.iconst 4, 1) := by decide +kernel
theorem k316_91 : decode (gb 316) 91 = .ok (.ireturn, 1) := by decide +kernel
theorem k316_92 : decode (gb 316) 92 = .ok (.aload_n 2, 1) := by decide +kernel
theorem k316_93 : decode (gb 316) 93 = .ok (.bipush 7, 2) := by decide +kernel
theorem k316_95 : decode (gb 316) 95 = .ok (.iaload, 1) := by decide +kernel
theorem k316_96 : decode (gb 316) 96 = .ok (.aload_n 2, 1) := by decide +kernel
theorem k316_97 : decode (gb 316) 97 = .ok (.bipush 8, 2) := by decide +kernel
theorem k316_99 : decode (gb 316) 99 = .ok (.iaload, 1) := by decide +kernel
theorem k316_100 : decode (gb 316) 100 = .ok (.invokestatic 478, 3) := by decide +kernel
theorem k316_103 : decode (gb 316) 103 = .ok (.ifCond .ne 5, 3) := by decide +kernel
theorem k316_106 : decode (gb 316) 106 = .ok (.iconst 5, 1) := by decide +kernel
theorem k316_107 : decode (gb 316) 107 = .ok (.ireturn, 1) := by decide +kernel
theorem k316_108 : decode (gb 316) 108 = .ok (.aload_n 0, 1) := by decide +kernel
theorem k316_109 : decode (gb 316) 109 = .ok (.aload_n 2, 1) := by decide +kernel
theorem k316_110 : decode (gb 316) 110 = .ok (.bipush 7, 2) := by decide +kernel
theorem k316_112 : decode (gb 316) 112 = .ok (.iaload, 1) := by decide +kernel
theorem k316_113 : decode (gb 316) 113 = .ok (.aload_n 2, 1) := by decide +kernel
theorem k316_114 : decode (gb 316) 114 = .ok (.bipush 8, 2) := by decide +kernel
theorem k316_116 : decode (gb 316) 116 = .ok (.iaload, 1) := by decide +kernel
theorem k316_117 : decode (gb 316) 117 = .ok (.iload_n 1, 1) := by decide +kernel
theorem k316_118 : decode (gb 316) 118 = .ok (.bipush 13, 2) := by decide +kernel
theorem k316_120 : decode (gb 316) 120 = .ok (.isub, 1) := by decide +kernel
theorem k316_121 : decode (gb 316) 121 = .ok (.invokevirtual 481, 3) := by decide +kernel
theorem k316_124 : decode (gb 316) 124 = .ok (.ifCond .ne 6, 3) := by decide +kernel
theorem k316_127 : decode (gb 316) 127 = .ok (.bipush 6, 2) := by decide +kernel
theorem k316_129 : decode (gb 316) 129 = .ok (.ireturn, 1) := by decide +kernel
theorem k316_130 : decode (gb 316) 130 = .ok (.aload_n 0, 1) := by decide +kernel
theorem k316_131 : decode (gb 316) 131 = .ok (.getfield 148, 3) := by decide +kernel
theorem k316_134 : decode (gb 316) 134 = .ok (.bipush 8, 2) := by decide +kernel
theorem k316_136 : decode (gb 316) 136 = .ok (.if_icmp .ne 8, 3) := by decide +kernel
theorem k316_139 : decode (gb 316) 139 = .ok (.bipush 7, 2) := by decide +kernel
theorem k316_141 : decode (gb 316) 141 = .ok (.goto 4, 3) := by decide +kernel
theorem k316_144 : decode (gb 316) 144 = .ok (.iconst 0, 1) := by decide +kernel
theorem k316_145 : decode (gb 316) 145 = .ok (.ireturn, 1) := by decide +kernel
/-- CraftHouseModel.faultOfPacket()I -/
def f316 (μ : Mem) : Option (Mem × Int32) :=
  if (μ.1 129 27) < (13 : Int32) then
    some (μ, (1 : Int32))
  else
    (f313 140 (4 : Int32) μ).bind fun r2 =>
    if (μ.1 129 27) = (r2.2 + (7 : Int32)) then
      (f245 140 (0 : Int32) ((μ.1 129 27) - (2 : Int32)) r2.1).bind fun r5 =>
      (f313 140 ((μ.1 129 27) - (2 : Int32)) r5.1).bind fun r7 =>
      if r5.2 = r7.2 then
        (ldA 140 (0 : Int32) r7.1).bind fun x10 =>
        if x10 = (24 : Int32) then
          (ldA 140 (1 : Int32) r7.1).bind fun x13 =>
          if x13 = (12 : Int32) then
            (ldA 140 (6 : Int32) r7.1).bind fun x16 =>
            if (jshr x16 (4 : Int32)) = (2 : Int32) then
              (ldA 140 (7 : Int32) r7.1).bind fun x19 =>
              (f310 x19 r7.1).bind fun r21 =>
              if r21.2 = 0 then
                some (r21.1, (4 : Int32))
              else
                (ldA 140 (7 : Int32) r21.1).bind fun x24 =>
                (ldA 140 (8 : Int32) r21.1).bind fun x26 =>
                (f312 x24 x26 r21.1).bind fun r28 =>
                if r28.2 = 0 then
                  some (r28.1, (5 : Int32))
                else
                  (ldA 140 (7 : Int32) r28.1).bind fun x31 =>
                  (ldA 140 (8 : Int32) r28.1).bind fun x33 =>
                  (f315 x31 x33 ((μ.1 129 27) - (13 : Int32)) r28.1).bind fun r35 =>
                  if r35.2 = 0 then
                    some (r35.1, (6 : Int32))
                  else
                    if (r35.1.1 129 104) = (8 : Int32) then
                      some (r35.1, (7 : Int32))
                    else
                      some (r35.1, (0 : Int32))
            else
              some (r7.1, (3 : Int32))
          else
            some (r7.1, (3 : Int32))
        else
          some (r7.1, (3 : Int32))
      else
        some (r7.1, (2 : Int32))
    else
      some (r2.1, (1 : Int32))
theorem ok316 {L : Nat} (μ : Mem) (res : Mem × Int32) (h : f316 μ = some res) : Mx 316 [.ref 129] (mk L μ) (mk L res.1, some (.int res.2)) := by
  refine Mx_of ml_316 (by rw [mx_316]; exact Nat.le_of_ble_eq_true rfl) ?_
  show Sx 316 0 [(0, .ref 129)] [] 0 0 (mk L μ) _
  unfold f316 at h
  refine sx_aload_n (i := 0) k316_0 rfl rfl ?_
  refine cx_getI (k := 27) k316_1 ow_316 fl_12_164 (by decide) sk_129 ft_11_27 ?_
  refine cx_istore_n (lo2 := [(1, .int (μ.1 129 27)), (0, .ref 129)]) k316_4 rfl (by rw [mx_316]; decide) rfl ?_
  refine sx_aload_n (i := 0) k316_5 rfl rfl ?_
  refine cx_getR (k := 26) k316_6 ow_316 fl_12_167 (by decide) sk_129 ft_11_26 sr_129_26 ?_
  refine cx_astore_n (lo2 := [(2, .ref 140), (1, .int (μ.1 129 27)), (0, .ref 129)]) k316_9 rfl (by rw [mx_316]; decide) rfl ?_
  refine sx_iload_n (i := 1) k316_10 rfl rfl ?_
  refine sx_bipush (v := 13) k316_11 (by decide) ?_
  by_cases hb1 : (μ.1 129 27) < (13 : Int32)
  · rw [if_pos hb1] at h
    refine sx_icmp_lt (tgt := 29) k316_13 (by decide) (fun _ => ?_) (fun q => absurd hb1 q)
    refine sx_iconst (v := 1) k316_29 (by decide) ?_
    exact cx_reti k316_30 rt_316 h
  · rw [if_neg hb1] at h
    refine sx_icmp_lt (tgt := 29) k316_13 (by decide) (fun q => absurd q hb1) (fun _ => ?_)
    refine sx_iload_n (i := 1) k316_16 rfl rfl ?_
    refine sx_aload_n (i := 0) k316_17 rfl rfl ?_
    refine sx_aload_n (i := 2) k316_18 rfl rfl ?_
    refine sx_iconst (v := 4) k316_19 (by decide) ?_
    obtain ⟨r2, e3, h⟩ := Option.bind_eq_some_iff.mp h
    refine cx_V (sk := [.int (μ.1 129 27)]) (vs := [.ref 140, .int (4 : Int32)]) st_316_313 k316_20 ow_316 cl_12_472 (by decide) rfl (Nat.le_of_ble_eq_true rfl) sk_129 (ok313 140 (4 : Int32) sk_140 _ _ e3) (sk3 := [.int r2.2, .int (μ.1 129 27)]) rfl rfl ?_
    refine sx_bipush (v := 7) k316_23 (by decide) ?_
    refine sx_iadd k316_25 ?_
    by_cases hb4 : (μ.1 129 27) = (r2.2 + (7 : Int32))
    · rw [if_pos hb4] at h
      refine sx_icmp_eq (tgt := 31) k316_26 (by decide) (fun _ => ?_) (fun q => absurd hb4 q)
      refine sx_aload_n (i := 2) k316_31 rfl rfl ?_
      refine sx_iconst (v := 0) k316_32 (by decide) ?_
      refine sx_iload_n (i := 1) k316_33 rfl rfl ?_
      refine sx_iconst (v := 2) k316_34 (by decide) ?_
      refine sx_isub k316_35 ?_
      obtain ⟨r5, e6, h⟩ := Option.bind_eq_some_iff.mp h
      refine cx_S (sk := []) (vs := [.ref 140, .int (0 : Int32), .int ((μ.1 129 27) - (2 : Int32))]) st_316_245 k316_36 ow_316 cl_12_11 (by decide) rfl (Nat.le_of_ble_eq_true rfl) (ok245 140 (0 : Int32) ((μ.1 129 27) - (2 : Int32)) sk_140 _ _ e6) (sk3 := [.int r5.2]) rfl rfl ?_
      refine sx_aload_n (i := 0) k316_39 rfl rfl ?_
      refine sx_aload_n (i := 2) k316_40 rfl rfl ?_
      refine sx_iload_n (i := 1) k316_41 rfl rfl ?_
      refine sx_iconst (v := 2) k316_42 (by decide) ?_
      refine sx_isub k316_43 ?_
      obtain ⟨r7, e8, h⟩ := Option.bind_eq_some_iff.mp h
      refine cx_V (sk := [.int r5.2]) (vs := [.ref 140, .int ((μ.1 129 27) - (2 : Int32))]) st_316_313 k316_44 ow_316 cl_12_472 (by decide) rfl (Nat.le_of_ble_eq_true rfl) sk_129 (ok313 140 ((μ.1 129 27) - (2 : Int32)) sk_140 _ _ e8) (sk3 := [.int r7.2, .int r5.2]) rfl rfl ?_
      by_cases hb9 : r5.2 = r7.2
      · rw [if_pos hb9] at h
        refine sx_icmp_eq (tgt := 52) k316_47 (by decide) (fun _ => ?_) (fun q => absurd hb9 q)
        refine sx_aload_n (i := 2) k316_52 rfl rfl ?_
        refine sx_iconst (v := 0) k316_53 (by decide) ?_
        obtain ⟨x10, e11, h⟩ := Option.bind_eq_some_iff.mp h
        refine cx_iald k316_54 sk_140 e11 ?_
        refine sx_bipush (v := 24) k316_55 (by decide) ?_
        by_cases hb12 : x10 = (24 : Int32)
        · rw [if_pos hb12] at h
          refine sx_icmp_ne (tgt := 78) k316_57 (by decide) (fun q => absurd hb12 q) (fun _ => ?_)
          refine sx_aload_n (i := 2) k316_60 rfl rfl ?_
          refine sx_iconst (v := 1) k316_61 (by decide) ?_
          obtain ⟨x13, e14, h⟩ := Option.bind_eq_some_iff.mp h
          refine cx_iald k316_62 sk_140 e14 ?_
          refine sx_bipush (v := 12) k316_63 (by decide) ?_
          by_cases hb15 : x13 = (12 : Int32)
          · rw [if_pos hb15] at h
            refine sx_icmp_ne (tgt := 78) k316_65 (by decide) (fun q => absurd hb15 q) (fun _ => ?_)
            refine sx_aload_n (i := 2) k316_68 rfl rfl ?_
            refine sx_bipush (v := 6) k316_69 (by decide) ?_
            obtain ⟨x16, e17, h⟩ := Option.bind_eq_some_iff.mp h
            refine cx_iald k316_71 sk_140 e17 ?_
            refine sx_iconst (v := 4) k316_72 (by decide) ?_
            refine sx_ishr k316_73 ?_
            refine sx_iconst (v := 2) k316_74 (by decide) ?_
            by_cases hb18 : (jshr x16 (4 : Int32)) = (2 : Int32)
            · rw [if_pos hb18] at h
              refine sx_icmp_eq (tgt := 80) k316_75 (by decide) (fun _ => ?_) (fun q => absurd hb18 q)
              refine sx_aload_n (i := 2) k316_80 rfl rfl ?_
              refine sx_bipush (v := 7) k316_81 (by decide) ?_
              obtain ⟨x19, e20, h⟩ := Option.bind_eq_some_iff.mp h
              refine cx_iald k316_83 sk_140 e20 ?_
              obtain ⟨r21, e22, h⟩ := Option.bind_eq_some_iff.mp h
              refine cx_S (sk := []) (vs := [.int x19]) st_316_310 k316_84 ow_316 cl_12_475 (by decide) rfl (Nat.le_of_ble_eq_true rfl) (ok310 x19 _ _ e22) (sk3 := [.int r21.2]) rfl rfl ?_
              by_cases hb23 : r21.2 = 0
              · rw [if_pos hb23] at h
                refine sx_if_ne (tgt := 92) k316_87 (by decide) (fun q => absurd hb23 q) (fun _ => ?_)
                refine sx_iconst (v := 4) k316_90 (by decide) ?_
                exact cx_reti k316_91 rt_316 h
              · rw [if_neg hb23] at h
                refine sx_if_ne (tgt := 92) k316_87 (by decide) (fun _ => ?_) (fun q => absurd q hb23)
                refine sx_aload_n (i := 2) k316_92 rfl rfl ?_
                refine sx_bipush (v := 7) k316_93 (by decide) ?_
                obtain ⟨x24, e25, h⟩ := Option.bind_eq_some_iff.mp h
                refine cx_iald k316_95 sk_140 e25 ?_
                refine sx_aload_n (i := 2) k316_96 rfl rfl ?_
                refine sx_bipush (v := 8) k316_97 (by decide) ?_
                obtain ⟨x26, e27, h⟩ := Option.bind_eq_some_iff.mp h
                refine cx_iald k316_99 sk_140 e27 ?_
                obtain ⟨r28, e29, h⟩ := Option.bind_eq_some_iff.mp h
                refine cx_S (sk := []) (vs := [.int x24, .int x26]) st_316_312 k316_100 ow_316 cl_12_478 (by decide) rfl (Nat.le_of_ble_eq_true rfl) (ok312 x24 x26 _ _ e29) (sk3 := [.int r28.2]) rfl rfl ?_
                by_cases hb30 : r28.2 = 0
                · rw [if_pos hb30] at h
                  refine sx_if_ne (tgt := 108) k316_103 (by decide) (fun q => absurd hb30 q) (fun _ => ?_)
                  refine sx_iconst (v := 5) k316_106 (by decide) ?_
                  exact cx_reti k316_107 rt_316 h
                · rw [if_neg hb30] at h
                  refine sx_if_ne (tgt := 108) k316_103 (by decide) (fun _ => ?_) (fun q => absurd q hb30)
                  refine sx_aload_n (i := 0) k316_108 rfl rfl ?_
                  refine sx_aload_n (i := 2) k316_109 rfl rfl ?_
                  refine sx_bipush (v := 7) k316_110 (by decide) ?_
                  obtain ⟨x31, e32, h⟩ := Option.bind_eq_some_iff.mp h
                  refine cx_iald k316_112 sk_140 e32 ?_
                  refine sx_aload_n (i := 2) k316_113 rfl rfl ?_
                  refine sx_bipush (v := 8) k316_114 (by decide) ?_
                  obtain ⟨x33, e34, h⟩ := Option.bind_eq_some_iff.mp h
                  refine cx_iald k316_116 sk_140 e34 ?_
                  refine sx_iload_n (i := 1) k316_117 rfl rfl ?_
                  refine sx_bipush (v := 13) k316_118 (by decide) ?_
                  refine sx_isub k316_120 ?_
                  obtain ⟨r35, e36, h⟩ := Option.bind_eq_some_iff.mp h
                  refine cx_V (sk := []) (vs := [.int x31, .int x33, .int ((μ.1 129 27) - (13 : Int32))]) st_316_315 k316_121 ow_316 cl_12_481 (by decide) rfl (Nat.le_of_ble_eq_true rfl) sk_129 (ok315 x31 x33 ((μ.1 129 27) - (13 : Int32)) _ _ e36) (sk3 := [.int r35.2]) rfl rfl ?_
                  by_cases hb37 : r35.2 = 0
                  · rw [if_pos hb37] at h
                    refine sx_if_ne (tgt := 130) k316_124 (by decide) (fun q => absurd hb37 q) (fun _ => ?_)
                    refine sx_bipush (v := 6) k316_127 (by decide) ?_
                    exact cx_reti k316_129 rt_316 h
                  · rw [if_neg hb37] at h
                    refine sx_if_ne (tgt := 130) k316_124 (by decide) (fun _ => ?_) (fun q => absurd q hb37)
                    refine sx_aload_n (i := 0) k316_130 rfl rfl ?_
                    refine cx_getI (k := 104) k316_131 ow_316 fl_12_148 (by decide) sk_129 ft_11_104 ?_
                    refine sx_bipush (v := 8) k316_134 (by decide) ?_
                    by_cases hb38 : (r35.1.1 129 104) = (8 : Int32)
                    · rw [if_pos hb38] at h
                      refine sx_icmp_ne (tgt := 144) k316_136 (by decide) (fun q => absurd hb38 q) (fun _ => ?_)
                      refine sx_bipush (v := 7) k316_139 (by decide) ?_
                      refine sx_goto (tgt := 145) k316_141 (by decide) ?_
                      exact cx_reti k316_145 rt_316 h
                    · rw [if_neg hb38] at h
                      refine sx_icmp_ne (tgt := 144) k316_136 (by decide) (fun _ => ?_) (fun q => absurd q hb38)
                      refine sx_iconst (v := 0) k316_144 (by decide) ?_
                      exact cx_reti k316_145 rt_316 h
            · rw [if_neg hb18] at h
              refine sx_icmp_eq (tgt := 80) k316_75 (by decide) (fun q => absurd q hb18) (fun _ => ?_)
              refine sx_iconst (v := 3) k316_78 (by decide) ?_
              exact cx_reti k316_79 rt_316 h
          · rw [if_neg hb15] at h
            refine sx_icmp_ne (tgt := 78) k316_65 (by decide) (fun _ => ?_) (fun q => absurd q hb15)
            refine sx_iconst (v := 3) k316_78 (by decide) ?_
            exact cx_reti k316_79 rt_316 h
        · rw [if_neg hb12] at h
          refine sx_icmp_ne (tgt := 78) k316_57 (by decide) (fun _ => ?_) (fun q => absurd q hb12)
          refine sx_iconst (v := 3) k316_78 (by decide) ?_
          exact cx_reti k316_79 rt_316 h
      · rw [if_neg hb9] at h
        refine sx_icmp_eq (tgt := 52) k316_47 (by decide) (fun q => absurd q hb9) (fun _ => ?_)
        refine sx_iconst (v := 2) k316_50 (by decide) ?_
        exact cx_reti k316_51 rt_316 h
    · rw [if_neg hb4] at h
      refine sx_icmp_eq (tgt := 31) k316_26 (by decide) (fun q => absurd q hb4) (fun _ => ?_)
      refine sx_iconst (v := 1) k316_29 (by decide) ?_
      exact cx_reti k316_30 rt_316 h
theorem k303_0 : decode (gb 303) 0 = .ok (.iload_n 2, 1) := by decide +kernel
theorem k303_1 : decode (gb 303) 1 = .ok (.iconst 1, 1) := by decide +kernel
theorem k303_2 : decode (gb 303) 2 = .ok (.isub, 1) := by decide +kernel
theorem k303_3 : decode (gb 303) 3 = .ok (.istore_n 3, 1) := by decide +kernel
theorem k303_4 : decode (gb 303) 4 = .ok (.iload_n 3, 1) := by decide +kernel
theorem k303_5 : decode (gb 303) 5 = .ok (.ifCond .lt 38, 3) := by decide +kernel
theorem k303_8 : decode (gb 303) 8 = .ok (.aload_n 0, 1) := by decide +kernel
theorem k303_9 : decode (gb 303) 9 = .ok (.getfield 396, 3) := by decide +kernel
theorem k303_12 : decode (gb 303) 12 = .ok (.aload_n 0, 1) := by decide +kernel
theorem k303_13 : decode (gb 303) 13 = .ok (.getfield 399, 3) := by decide +kernel
theorem k303_16 : decode (gb 303) 16 = .ok (.iload_n 1, 1) := by decide +kernel
theorem k303_17 : decode (gb 303) 17 = .ok (.bipush 8, 2) := by decide +kernel
theorem k303_19 : decode (gb 303) 19 = .ok (.iload_n 3, 1) := by decide +kernel
theorem k303_20 : decode (gb 303) 20 = .ok (.imul, 1) := by decide +kernel
theorem k303_21 : decode (gb 303) 21 = .ok (.iushr, 1) := by decide +kernel
theorem k303_22 : decode (gb 303) 22 = .ok (.sipush 255, 3) := by decide +kernel
theorem k303_25 : decode (gb 303) 25 = .ok (.iand, 1) := by decide +kernel
theorem k303_26 : decode (gb 303) 26 = .ok (.iastore, 1) := by decide +kernel
theorem k303_27 : decode (gb 303) 27 = .ok (.aload_n 0, 1) := by decide +kernel
theorem k303_28 : decode (gb 303) 28 = .ok (.dup, 1) := by decide +kernel
theorem k303_29 : decode (gb 303) 29 = .ok (.getfield 399, 3) := by decide +kernel
theorem k303_32 : decode (gb 303) 32 = .ok (.iconst 1, 1) := by decide +kernel
theorem k303_33 : decode (gb 303) 33 = .ok (.iadd, 1) := by decide +kernel
theorem k303_34 : decode (gb 303) 34 = .ok (.putfield 399, 3) := by decide +kernel
theorem k303_37 : decode (gb 303) 37 = .ok (.iinc 3 (-1), 3) := by decide +kernel
theorem k303_40 : decode (gb 303) 40 = .ok (.goto (-36), 3) := by decide +kernel
theorem k303_43 : decode (gb 303) 43 = .ok (.return_, 1) := by decide +kernel
def b303_4 (kl4 : Int32 → Int32 → Mem → Option (Mem)) (v1 : Int32) (v3 : Int32) (μ : Mem) : Option (Mem) :=
  if v3 < 0 then
    some μ
  else
    (stA 163 (μ.1 129 80) ((jushr v1 ((8 : Int32) * v3)) &&& (255 : Int32)) μ).bind fun m2 =>
    (pfI 129 80 ((m2.1 129 80) + (1 : Int32)) m2).bind fun m4 =>
    nm (v3 + (-1 : Int32)) fun x6 =>
    kl4 v1 x6 m4
theorem b303_4_ok {L : Nat} (kl4 : Int32 → Int32 → Mem → Option (Mem)) (hk4 : (∀ (v1 : Int32) (v3 : Int32) (μ : Mem) (res : Mem), kl4 v1 v3 μ = some res → Sx 303 4 [(0, .ref 129), (1, .int v1), (3, .int v3)] [] 0 0 (mk L μ) (mk L res, none))) (v1 : Int32) (v3 : Int32) (μ : Mem) (res : Mem) (h : b303_4 kl4 v1 v3 μ = some res) : Sx 303 4 [(0, .ref 129), (1, .int v1), (3, .int v3)] [] 0 0 (mk L μ) (mk L res, none) := by
  unfold b303_4 at h
  refine sx_iload_n (i := 3) k303_4 rfl rfl ?_
  by_cases hb1 : v3 < 0
  · rw [if_pos hb1] at h
    refine sx_if_lt (tgt := 43) k303_5 (by decide) (fun _ => ?_) (fun q => absurd hb1 q)
    exact cx_retv k303_43 rt_303 h
  · rw [if_neg hb1] at h
    refine sx_if_lt (tgt := 43) k303_5 (by decide) (fun q => absurd q hb1) (fun _ => ?_)
    refine sx_aload_n (i := 0) k303_8 rfl rfl ?_
    refine cx_getR (k := 79) k303_9 ow_303 fl_12_396 (by decide) sk_129 ft_11_79 sr_129_79 ?_
    refine sx_aload_n (i := 0) k303_12 rfl rfl ?_
    refine cx_getI (k := 80) k303_13 ow_303 fl_12_399 (by decide) sk_129 ft_11_80 ?_
    refine sx_iload_n (i := 1) k303_16 rfl rfl ?_
    refine sx_bipush (v := 8) k303_17 (by decide) ?_
    refine sx_iload_n (i := 3) k303_19 rfl rfl ?_
    refine sx_imul k303_20 ?_
    refine sx_iushr k303_21 ?_
    refine sx_sipush (v := 255) k303_22 (by decide) ?_
    refine sx_iand k303_25 ?_
    obtain ⟨m2, e3, h⟩ := Option.bind_eq_some_iff.mp h
    refine cx_iast k303_26 sk_163 e3 ?_
    refine sx_aload_n (i := 0) k303_27 rfl rfl ?_
    refine sx_dup k303_28 rfl ?_
    refine cx_getI (k := 80) k303_29 ow_303 fl_12_399 (by decide) sk_129 ft_11_80 ?_
    refine sx_iconst (v := 1) k303_32 (by decide) ?_
    refine sx_iadd k303_33 ?_
    obtain ⟨m4, e5, h⟩ := Option.bind_eq_some_iff.mp h
    refine cx_putI (k := 80) k303_34 ow_303 fl_12_399 (by decide) sk_129 nf_11_80 fu_11_80 e5 ?_
    refine cx_iinc (c := -1) (lo2 := fun x6 => [(3, .int x6), (0, .ref 129), (1, .int v1)]) k303_37 rfl (by decide) (by rw [mx_303]; decide) (fun _ => rfl) h (fun x6 h => ?_)
    refine sx_goto (tgt := 4) k303_40 (by decide) ?_
    refine sx_pick (lo2 := [(0, .ref 129), (1, .int v1), (3, .int x6)]) [1, 2, 0] rfl ?_
    exact hk4 v1 x6 _ _ h
def l303_4 : Nat → Int32 × Int32 × Mem → Option (Mem) :=
  fixN (fun self x => b303_4 (fun v1 v3 μ => self (v1, v3, μ)) (x.1) (x.2.1) (x.2.2))
theorem l303_4_ok {L : Nat} (n : Nat) (v1 : Int32) (v3 : Int32) (μ : Mem) (res : Mem) (h : l303_4 n (v1, v3, μ) = some res) : Sx 303 4 [(0, .ref 129), (1, .int v1), (3, .int v3)] [] 0 0 (mk L μ) (mk L res, none) := by
  have key := fixN_ind (P := fun x res => Sx 303 4 [(0, .ref 129), (1, .int (x.1)), (3, .int (x.2.1))] [] 0 0 (mk L (x.2.2)) (mk L res, none)) (F := fun self x => b303_4 (fun v1 v3 μ => self (v1, v3, μ)) (x.1) (x.2.1) (x.2.2)) (fun self hself x res h => b303_4_ok (fun v1 v3 μ => self (v1, v3, μ)) (fun v1 v3 μ res hh => hself (v1, v3, μ) res hh) (x.1) (x.2.1) (x.2.2) res h) n (v1, v3, μ) res h
  exact key
/-- CraftHouseModel.put(II)V -/
def f303 (p1 : Int32) (p2 : Int32) (μ : Mem) : Option (Mem) :=
  nm (p2 - (1 : Int32)) fun x1 =>
  l303_4 gF (p1, x1, μ)
theorem ok303 {L : Nat} (p1 : Int32) (p2 : Int32) (μ : Mem) (res : Mem) (h : f303 p1 p2 μ = some res) : Mx 303 [.ref 129, .int p1, .int p2] (mk L μ) (mk L res, none) := by
  refine Mx_of ml_303 (by rw [mx_303]; exact Nat.le_of_ble_eq_true rfl) ?_
  show Sx 303 0 [(0, .ref 129), (1, .int p1), (2, .int p2)] [] 0 0 (mk L μ) _
  unfold f303 at h
  refine sx_iload_n (i := 2) k303_0 rfl rfl ?_
  refine sx_iconst (v := 1) k303_1 (by decide) ?_
  refine sx_isub k303_2 ?_
  refine cx_nm h (fun x1 h => ?_)
  refine cx_istore_n (lo2 := [(3, .int x1), (0, .ref 129), (1, .int p1), (2, .int p2)]) k303_3 rfl (by rw [mx_303]; decide) rfl ?_
  refine sx_pick (lo2 := [(0, .ref 129), (1, .int p1), (3, .int x1)]) [1, 2, 0] rfl ?_
  exact l303_4_ok gF p1 x1 _ _ h
theorem k306_0 : decode (gb 306) 0 = .ok (.iconst 0, 1) := by decide +kernel
theorem k306_1 : decode (gb 306) 1 = .ok (.istore 4, 2) := by decide +kernel
theorem k306_3 : decode (gb 306) 3 = .ok (.iload 4, 2) := by decide +kernel
theorem k306_5 : decode (gb 306) 5 = .ok (.aload_n 0, 1) := by decide +kernel
theorem k306_6 : decode (gb 306) 6 = .ok (.getfield 438, 3) := by decide +kernel
theorem k306_9 : decode (gb 306) 9 = .ok (.iload_n 1, 1) := by decide +kernel
theorem k306_10 : decode (gb 306) 10 = .ok (.iaload, 1) := by decide +kernel
theorem k306_11 : decode (gb 306) 11 = .ok (.if_icmp .ge 33, 3) := by decide +kernel
theorem k306_14 : decode (gb 306) 14 = .ok (.aload_n 0, 1) := by decide +kernel
theorem k306_15 : decode (gb 306) 15 = .ok (.getfield 441, 3) := by decide +kernel
theorem k306_18 : decode (gb 306) 18 = .ok (.bipush 6, 2) := by decide +kernel
theorem k306_20 : decode (gb 306) 20 = .ok (.iload_n 1, 1) := by decide +kernel
theorem k306_21 : decode (gb 306) 21 = .ok (.imul, 1) := by decide +kernel
theorem k306_22 : decode (gb 306) 22 = .ok (.iload 4, 2) := by decide +kernel
theorem k306_24 : decode (gb 306) 24 = .ok (.iadd, 1) := by decide +kernel
theorem k306_25 : decode (gb 306) 25 = .ok (.iaload, 1) := by decide +kernel
theorem k306_26 : decode (gb 306) 26 = .ok (.sipush 256, 3) := by decide +kernel
theorem k306_29 : decode (gb 306) 29 = .ok (.iload_n 2, 1) := by decide +kernel
theorem k306_30 : decode (gb 306) 30 = .ok (.imul, 1) := by decide +kernel
theorem k306_31 : decode (gb 306) 31 = .ok (.iload_n 3, 1) := by decide +kernel
theorem k306_32 : decode (gb 306) 32 = .ok (.iadd, 1) := by decide +kernel
theorem k306_33 : decode (gb 306) 33 = .ok (.if_icmp .ne 5, 3) := by decide +kernel
theorem k306_36 : decode (gb 306) 36 = .ok (.iconst 1, 1) := by decide +kernel
theorem k306_37 : decode (gb 306) 37 = .ok (.ireturn, 1) := by decide +kernel
theorem k306_38 : decode (gb 306) 38 = .ok (.iinc 4 1, 3) := by decide +kernel
theorem k306_41 : decode (gb 306) 41 = .ok (.goto (-38), 3) := by decide +kernel
theorem k306_44 : decode (gb 306) 44 = .ok (.iconst 0, 1) := by decide +kernel
theorem k306_45 : decode (gb 306) 45 = .ok (.ireturn, 1) := by decide +kernel
def b306_3 (kl3 : Int32 → Int32 → Int32 → Int32 → Mem → Option (Mem × Int32)) (v1 : Int32) (v2 : Int32) (v3 : Int32) (v4 : Int32) (μ : Mem) : Option (Mem × Int32) :=
  (ldA 174 v1 μ).bind fun x1 =>
  if x1 ≤ v4 then
    rtZ (0 : Int32) μ
  else
    (ldA 175 (((6 : Int32) * v1) + v4) μ).bind fun x4 =>
    if x4 = (((256 : Int32) * v2) + v3) then
      rtZ (1 : Int32) μ
    else
      nm (v4 + (1 : Int32)) fun x7 =>
      kl3 v1 v2 v3 x7 μ
theorem b306_3_ok {L : Nat} (kl3 : Int32 → Int32 → Int32 → Int32 → Mem → Option (Mem × Int32)) (hk3 : (∀ (v1 : Int32) (v2 : Int32) (v3 : Int32) (v4 : Int32) (μ : Mem) (res : Mem × Int32), kl3 v1 v2 v3 v4 μ = some res → Sx 306 3 [(0, .ref 129), (1, .int v1), (2, .int v2), (3, .int v3), (4, .int v4)] [] 0 0 (mk L μ) (mk L res.1, some (.int res.2)))) (v1 : Int32) (v2 : Int32) (v3 : Int32) (v4 : Int32) (μ : Mem) (res : Mem × Int32) (h : b306_3 kl3 v1 v2 v3 v4 μ = some res) : Sx 306 3 [(0, .ref 129), (1, .int v1), (2, .int v2), (3, .int v3), (4, .int v4)] [] 0 0 (mk L μ) (mk L res.1, some (.int res.2)) := by
  unfold b306_3 at h
  refine sx_iload k306_3 rfl ?_
  refine sx_aload_n (i := 0) k306_5 rfl rfl ?_
  refine cx_getR (k := 96) k306_6 ow_306 fl_12_438 (by decide) sk_129 ft_11_96 sr_129_96 ?_
  refine sx_iload_n (i := 1) k306_9 rfl rfl ?_
  obtain ⟨x1, e2, h⟩ := Option.bind_eq_some_iff.mp h
  refine cx_iald k306_10 sk_174 e2 ?_
  by_cases hb3 : x1 ≤ v4
  · rw [if_pos hb3] at h
    refine sx_icmp_ge (tgt := 44) k306_11 (by decide) (fun _ => ?_) (fun q => absurd hb3 q)
    refine sx_iconst (v := 0) k306_44 (by decide) ?_
    exact cx_retz k306_45 rt_306 h
  · rw [if_neg hb3] at h
    refine sx_icmp_ge (tgt := 44) k306_11 (by decide) (fun q => absurd q hb3) (fun _ => ?_)
    refine sx_aload_n (i := 0) k306_14 rfl rfl ?_
    refine cx_getR (k := 97) k306_15 ow_306 fl_12_441 (by decide) sk_129 ft_11_97 sr_129_97 ?_
    refine sx_bipush (v := 6) k306_18 (by decide) ?_
    refine sx_iload_n (i := 1) k306_20 rfl rfl ?_
    refine sx_imul k306_21 ?_
    refine sx_iload k306_22 rfl ?_
    refine sx_iadd k306_24 ?_
    obtain ⟨x4, e5, h⟩ := Option.bind_eq_some_iff.mp h
    refine cx_iald k306_25 sk_175 e5 ?_
    refine sx_sipush (v := 256) k306_26 (by decide) ?_
    refine sx_iload_n (i := 2) k306_29 rfl rfl ?_
    refine sx_imul k306_30 ?_
    refine sx_iload_n (i := 3) k306_31 rfl rfl ?_
    refine sx_iadd k306_32 ?_
    by_cases hb6 : x4 = (((256 : Int32) * v2) + v3)
    · rw [if_pos hb6] at h
      refine sx_icmp_ne (tgt := 38) k306_33 (by decide) (fun q => absurd hb6 q) (fun _ => ?_)
      refine sx_iconst (v := 1) k306_36 (by decide) ?_
      exact cx_retz k306_37 rt_306 h
    · rw [if_neg hb6] at h
      refine sx_icmp_ne (tgt := 38) k306_33 (by decide) (fun _ => ?_) (fun q => absurd q hb6)
      refine cx_iinc (c := 1) (lo2 := fun x7 => [(4, .int x7), (0, .ref 129), (1, .int v1), (2, .int v2), (3, .int v3)]) k306_38 rfl (by decide) (by rw [mx_306]; decide) (fun _ => rfl) h (fun x7 h => ?_)
      refine sx_goto (tgt := 3) k306_41 (by decide) ?_
      refine sx_pick (lo2 := [(0, .ref 129), (1, .int v1), (2, .int v2), (3, .int v3), (4, .int x7)]) [1, 2, 3, 4, 0] rfl ?_
      exact hk3 v1 v2 v3 x7 _ _ h
def l306_3 : Nat → Int32 × Int32 × Int32 × Int32 × Mem → Option (Mem × Int32) :=
  fixN (fun self x => b306_3 (fun v1 v2 v3 v4 μ => self (v1, v2, v3, v4, μ)) (x.1) (x.2.1) (x.2.2.1) (x.2.2.2.1) (x.2.2.2.2))
theorem l306_3_ok {L : Nat} (n : Nat) (v1 : Int32) (v2 : Int32) (v3 : Int32) (v4 : Int32) (μ : Mem) (res : Mem × Int32) (h : l306_3 n (v1, v2, v3, v4, μ) = some res) : Sx 306 3 [(0, .ref 129), (1, .int v1), (2, .int v2), (3, .int v3), (4, .int v4)] [] 0 0 (mk L μ) (mk L res.1, some (.int res.2)) := by
  have key := fixN_ind (P := fun x res => Sx 306 3 [(0, .ref 129), (1, .int (x.1)), (2, .int (x.2.1)), (3, .int (x.2.2.1)), (4, .int (x.2.2.2.1))] [] 0 0 (mk L (x.2.2.2.2)) (mk L res.1, some (.int res.2))) (F := fun self x => b306_3 (fun v1 v2 v3 v4 μ => self (v1, v2, v3, v4, μ)) (x.1) (x.2.1) (x.2.2.1) (x.2.2.2.1) (x.2.2.2.2)) (fun self hself x res h => b306_3_ok (fun v1 v2 v3 v4 μ => self (v1, v2, v3, v4, μ)) (fun v1 v2 v3 v4 μ res hh => hself (v1, v2, v3, v4, μ) res hh) (x.1) (x.2.1) (x.2.2.1) (x.2.2.2.1) (x.2.2.2.2) res h) n (v1, v2, v3, v4, μ) res h
  exact key
/-- CraftHouseModel.isChosen(III)Z -/
def f306 (p1 : Int32) (p2 : Int32) (p3 : Int32) (μ : Mem) : Option (Mem × Int32) :=
  l306_3 gF (p1, p2, p3, (0 : Int32), μ)
theorem ok306 {L : Nat} (p1 : Int32) (p2 : Int32) (p3 : Int32) (μ : Mem) (res : Mem × Int32) (h : f306 p1 p2 p3 μ = some res) : Mx 306 [.ref 129, .int p1, .int p2, .int p3] (mk L μ) (mk L res.1, some (.int res.2)) := by
  refine Mx_of ml_306 (by rw [mx_306]; exact Nat.le_of_ble_eq_true rfl) ?_
  show Sx 306 0 [(0, .ref 129), (1, .int p1), (2, .int p2), (3, .int p3)] [] 0 0 (mk L μ) _
  unfold f306 at h
  refine sx_iconst (v := 0) k306_0 (by decide) ?_
  refine cx_istore (lo2 := [(4, .int (0 : Int32)), (0, .ref 129), (1, .int p1), (2, .int p2), (3, .int p3)]) k306_1 (by rw [mx_306]; decide) rfl ?_
  refine sx_pick (lo2 := [(0, .ref 129), (1, .int p1), (2, .int p2), (3, .int p3), (4, .int (0 : Int32))]) [1, 2, 3, 4, 0] rfl ?_
  exact l306_3_ok gF p1 p2 p3 (0 : Int32) _ _ h
theorem k273_0 : decode (gb 273) 0 = .ok (.iconst 0, 1) := by decide +kernel
theorem k273_1 : decode (gb 273) 1 = .ok (.istore 5, 2) := by decide +kernel
theorem k273_3 : decode (gb 273) 3 = .ok (.iload 5, 2) := by decide +kernel
theorem k273_5 : decode (gb 273) 5 = .ok (.iload 4, 2) := by decide +kernel
theorem k273_7 : decode (gb 273) 7 = .ok (.if_icmp .ge 21, 3) := by decide +kernel
theorem k273_10 : decode (gb 273) 10 = .ok (.aload_n 2, 1) := by decide +kernel
theorem k273_11 : decode (gb 273) 11 = .ok (.iload_n 3, 1) := by decide +kernel
theorem k273_12 : decode (gb 273) 12 = .ok (.iload 5, 2) := by decide +kernel
theorem k273_14 : decode (gb 273) 14 = .ok (.iadd, 1) := by decide +kernel
theorem k273_15 : decode (gb 273) 15 = .ok (.aload_n 0, 1) := by decide +kernel
theorem k273_16 : decode (gb 273) 16 = .ok (.iload_n 1, 1) := by decide +kernel
theorem k273_17 : decode (gb 273) 17 = .ok (.iload 5, 2) := by decide +kernel
theorem k273_19 : decode (gb 273) 19 = .ok (.iadd, 1) := by decide +kernel
theorem k273_20 : decode (gb 273) 20 = .ok (.iaload, 1) := by decide +kernel
theorem k273_21 : decode (gb 273) 21 = .ok (.iastore, 1) := by decide +kernel
theorem k273_22 : decode (gb 273) 22 = .ok (.iinc 5 1, 3) := by decide +kernel
theorem k273_25 : decode (gb 273) 25 = .ok (.goto (-22), 3) := by decide +kernel
theorem k273_28 : decode (gb 273) 28 = .ok (.return_, 1) := by decide +kernel
def b273_3 (p1 : Nat) (p3 : Nat) (kl3 : Int32 → Int32 → Int32 → Int32 → Mem → Option (Mem)) (v1 : Int32) (v3 : Int32) (v4 : Int32) (v5 : Int32) (μ : Mem) : Option (Mem) :=
  if v4 ≤ v5 then
    some μ
  else
    (ldA p1 (v1 + v5) μ).bind fun x2 =>
    (stA p3 (v3 + v5) x2 μ).bind fun m4 =>
    nm (v5 + (1 : Int32)) fun x6 =>
    kl3 v1 v3 v4 x6 m4
theorem b273_3_ok {L : Nat} (p1 : Nat) (p3 : Nat) (h1 : SK0 p1 = (1, gln p1)) (h3 : SK0 p3 = (1, gln p3)) (kl3 : Int32 → Int32 → Int32 → Int32 → Mem → Option (Mem)) (hk3 : (∀ (v1 : Int32) (v3 : Int32) (v4 : Int32) (v5 : Int32) (μ : Mem) (res : Mem), kl3 v1 v3 v4 v5 μ = some res → Sx 273 3 [(0, .ref p1), (1, .int v1), (2, .ref p3), (3, .int v3), (4, .int v4), (5, .int v5)] [] 0 0 (mk L μ) (mk L res, none))) (v1 : Int32) (v3 : Int32) (v4 : Int32) (v5 : Int32) (μ : Mem) (res : Mem) (h : b273_3 p1 p3 kl3 v1 v3 v4 v5 μ = some res) : Sx 273 3 [(0, .ref p1), (1, .int v1), (2, .ref p3), (3, .int v3), (4, .int v4), (5, .int v5)] [] 0 0 (mk L μ) (mk L res, none) := by
  unfold b273_3 at h
  refine sx_iload k273_3 rfl ?_
  refine sx_iload k273_5 rfl ?_
  by_cases hb1 : v4 ≤ v5
  · rw [if_pos hb1] at h
    refine sx_icmp_ge (tgt := 28) k273_7 (by decide) (fun _ => ?_) (fun q => absurd hb1 q)
    exact cx_retv k273_28 rt_273 h
  · rw [if_neg hb1] at h
    refine sx_icmp_ge (tgt := 28) k273_7 (by decide) (fun q => absurd q hb1) (fun _ => ?_)
    refine sx_aload_n (i := 2) k273_10 rfl rfl ?_
    refine sx_iload_n (i := 3) k273_11 rfl rfl ?_
    refine sx_iload k273_12 rfl ?_
    refine sx_iadd k273_14 ?_
    refine sx_aload_n (i := 0) k273_15 rfl rfl ?_
    refine sx_iload_n (i := 1) k273_16 rfl rfl ?_
    refine sx_iload k273_17 rfl ?_
    refine sx_iadd k273_19 ?_
    obtain ⟨x2, e3, h⟩ := Option.bind_eq_some_iff.mp h
    refine cx_iald k273_20 h1 e3 ?_
    obtain ⟨m4, e5, h⟩ := Option.bind_eq_some_iff.mp h
    refine cx_iast k273_21 h3 e5 ?_
    refine cx_iinc (c := 1) (lo2 := fun x6 => [(5, .int x6), (0, .ref p1), (1, .int v1), (2, .ref p3), (3, .int v3), (4, .int v4)]) k273_22 rfl (by decide) (by rw [mx_273]; decide) (fun _ => rfl) h (fun x6 h => ?_)
    refine sx_goto (tgt := 3) k273_25 (by decide) ?_
    refine sx_pick (lo2 := [(0, .ref p1), (1, .int v1), (2, .ref p3), (3, .int v3), (4, .int v4), (5, .int x6)]) [1, 2, 3, 4, 5, 0] rfl ?_
    exact hk3 v1 v3 v4 x6 _ _ h
def l273_3 (p1 : Nat) (p3 : Nat) : Nat → Int32 × Int32 × Int32 × Int32 × Mem → Option (Mem) :=
  fixN (fun self x => b273_3 p1 p3 (fun v1 v3 v4 v5 μ => self (v1, v3, v4, v5, μ)) (x.1) (x.2.1) (x.2.2.1) (x.2.2.2.1) (x.2.2.2.2))
theorem l273_3_ok {L : Nat} (p1 : Nat) (p3 : Nat) (h1 : SK0 p1 = (1, gln p1)) (h3 : SK0 p3 = (1, gln p3)) (n : Nat) (v1 : Int32) (v3 : Int32) (v4 : Int32) (v5 : Int32) (μ : Mem) (res : Mem) (h : l273_3 p1 p3 n (v1, v3, v4, v5, μ) = some res) : Sx 273 3 [(0, .ref p1), (1, .int v1), (2, .ref p3), (3, .int v3), (4, .int v4), (5, .int v5)] [] 0 0 (mk L μ) (mk L res, none) := by
  have key := fixN_ind (P := fun x res => Sx 273 3 [(0, .ref p1), (1, .int (x.1)), (2, .ref p3), (3, .int (x.2.1)), (4, .int (x.2.2.1)), (5, .int (x.2.2.2.1))] [] 0 0 (mk L (x.2.2.2.2)) (mk L res, none)) (F := fun self x => b273_3 p1 p3 (fun v1 v3 v4 v5 μ => self (v1, v3, v4, v5, μ)) (x.1) (x.2.1) (x.2.2.1) (x.2.2.2.1) (x.2.2.2.2)) (fun self hself x res h => b273_3_ok p1 p3 h1 h3 (fun v1 v3 v4 v5 μ => self (v1, v3, v4, v5, μ)) (fun v1 v3 v4 v5 μ res hh => hself (v1, v3, v4, v5, μ) res hh) (x.1) (x.2.1) (x.2.2.1) (x.2.2.2.1) (x.2.2.2.2) res h) n (v1, v3, v4, v5, μ) res h
  exact key
/-- CraftHouseModel.move([II[III)V -/
def f273 (p1 : Nat) (p2 : Int32) (p3 : Nat) (p4 : Int32) (p5 : Int32) (μ : Mem) : Option (Mem) :=
  l273_3 p1 p3 gF (p2, p4, p5, (0 : Int32), μ)
theorem ok273 {L : Nat} (p1 : Nat) (p2 : Int32) (p3 : Nat) (p4 : Int32) (p5 : Int32) (h1 : SK0 p1 = (1, gln p1)) (h3 : SK0 p3 = (1, gln p3)) (μ : Mem) (res : Mem) (h : f273 p1 p2 p3 p4 p5 μ = some res) : Mx 273 [.ref p1, .int p2, .ref p3, .int p4, .int p5] (mk L μ) (mk L res, none) := by
  refine Mx_of ml_273 (by rw [mx_273]; exact Nat.le_of_ble_eq_true rfl) ?_
  show Sx 273 0 [(0, .ref p1), (1, .int p2), (2, .ref p3), (3, .int p4), (4, .int p5)] [] 0 0 (mk L μ) _
  unfold f273 at h
  refine sx_iconst (v := 0) k273_0 (by decide) ?_
  refine cx_istore (lo2 := [(5, .int (0 : Int32)), (0, .ref p1), (1, .int p2), (2, .ref p3), (3, .int p4), (4, .int p5)]) k273_1 (by rw [mx_273]; decide) rfl ?_
  refine sx_pick (lo2 := [(0, .ref p1), (1, .int p2), (2, .ref p3), (3, .int p4), (4, .int p5), (5, .int (0 : Int32))]) [1, 2, 3, 4, 5, 0] rfl ?_
  exact l273_3_ok p1 p3 h1 h3 gF p2 p4 p5 (0 : Int32) _ _ h
theorem k308_0 : decode (gb 308) 0 = .ok (.aload_n 0, 1) := by decide +kernel
theorem k308_1 : decode (gb 308) 1 = .ok (.getfield 447, 3) := by decide +kernel
theorem k308_4 : decode (gb 308) 4 = .ok (.iload_n 1, 1) := by decide +kernel
theorem k308_5 : decode (gb 308) 5 = .ok (.dup2, 1) := by decide +kernel
theorem k308_6 : decode (gb 308) 6 = .ok (.iaload, 1) := by decide +kernel
theorem k308_7 : decode (gb 308) 7 = .ok (.aload_n 0, 1) := by decide +kernel
theorem k308_8 : decode (gb 308) 8 = .ok (.getfield 462, 3) := by decide +kernel
theorem k308_11 : decode (gb 308) 11 = .ok (.bipush 90, 2) := by decide +kernel
theorem k308_13 : decode (gb 308) 13 = .ok (.iload_n 1, 1) := by decide +kernel
theorem k308_14 : decode (gb 308) 14 = .ok (.imul, 1) := by decide +kernel
theorem k308_15 : decode (gb 308) 15 = .ok (.iaload, 1) := by decide +kernel
theorem k308_16 : decode (gb 308) 16 = .ok (.isub, 1) := by decide +kernel
theorem k308_17 : decode (gb 308) 17 = .ok (.iastore, 1) := by decide +kernel
theorem k308_18 : decode (gb 308) 18 = .ok (.aload_n 0, 1) := by decide +kernel
theorem k308_19 : decode (gb 308) 19 = .ok (.getfield 456, 3) := by decide +kernel
theorem k308_22 : decode (gb 308) 22 = .ok (.iload_n 1, 1) := by decide +kernel
theorem k308_23 : decode (gb 308) 23 = .ok (.dup2, 1) := by decide +kernel
theorem k308_24 : decode (gb 308) 24 = .ok (.iaload, 1) := by decide +kernel
theorem k308_25 : decode (gb 308) 25 = .ok (.iconst 1, 1) := by decide +kernel
theorem k308_26 : decode (gb 308) 26 = .ok (.isub, 1) := by decide +kernel
theorem k308_27 : decode (gb 308) 27 = .ok (.iastore, 1) := by decide +kernel
theorem k308_28 : decode (gb 308) 28 = .ok (.iconst 0, 1) := by decide +kernel
theorem k308_29 : decode (gb 308) 29 = .ok (.istore_n 2, 1) := by decide +kernel
theorem k308_30 : decode (gb 308) 30 = .ok (.iload_n 2, 1) := by decide +kernel
theorem k308_31 : decode (gb 308) 31 = .ok (.aload_n 0, 1) := by decide +kernel
theorem k308_32 : decode (gb 308) 32 = .ok (.getfield 456, 3) := by decide +kernel
theorem k308_35 : decode (gb 308) 35 = .ok (.iload_n 1, 1) := by decide +kernel
theorem k308_36 : decode (gb 308) 36 = .ok (.iaload, 1) := by decide +kernel
theorem k308_37 : decode (gb 308) 37 = .ok (.if_icmp .ge 71, 3) := by decide +kernel
theorem k308_40 : decode (gb 308) 40 = .ok (.bipush 90, 2) := by decide +kernel
theorem k308_42 : decode (gb 308) 42 = .ok (.iload_n 1, 1) := by decide +kernel
theorem k308_43 : decode (gb 308) 43 = .ok (.imul, 1) := by decide +kernel
theorem k308_44 : decode (gb 308) 44 = .ok (.iload_n 2, 1) := by decide +kernel
theorem k308_45 : decode (gb 308) 45 = .ok (.iadd, 1) := by decide +kernel
theorem k308_46 : decode (gb 308) 46 = .ok (.istore_n 3, 1) := by decide +kernel
theorem k308_47 : decode (gb 308) 47 = .ok (.aload_n 0, 1) := by decide +kernel
theorem k308_48 : decode (gb 308) 48 = .ok (.getfield 462, 3) := by decide +kernel
theorem k308_51 : decode (gb 308) 51 = .ok (.iload_n 3, 1) := by decide +kernel
theorem k308_52 : decode (gb 308) 52 = .ok (.aload_n 0, 1) := by decide +kernel
theorem k308_53 : decode (gb 308) 53 = .ok (.getfield 462, 3) := by decide +kernel
theorem k308_56 : decode (gb 308) 56 = .ok (.iload_n 3, 1) := by decide +kernel
theorem k308_57 : decode (gb 308) 57 = .ok (.iconst 1, 1) := by decide +kernel
theorem k308_58 : decode (gb 308) 58 = .ok (.iadd, 1) := by decide +kernel
theorem k308_59 : decode (gb 308) 59 = .ok (.iaload, 1) := by decide +kernel
theorem k308_60 : decode (gb 308) 60 = .ok (.iastore, 1) := by decide +kernel
theorem k308_61 : decode (gb 308) 61 = .ok (.aload_n 0, 1) := by decide +kernel
theorem k308_62 : decode (gb 308) 62 = .ok (.getfield 465, 3) := by decide +kernel
theorem k308_65 : decode (gb 308) 65 = .ok (.iload_n 3, 1) := by decide +kernel
theorem k308_66 : decode (gb 308) 66 = .ok (.aload_n 0, 1) := by decide +kernel
theorem k308_67 : decode (gb 308) 67 = .ok (.getfield 465, 3) := by decide +kernel
theorem k308_70 : decode (gb 308) 70 = .ok (.iload_n 3, 1) := by decide +kernel
theorem k308_71 : decode (gb 308) 71 = .ok (.iconst 1, 1) := by decide +kernel
theorem k308_72 : decode (gb 308) 72 = .ok (.iadd, 1) := by decide +kernel
theorem k308_73 : decode (gb 308) 73 = .ok (.iaload, 1) := by decide +kernel
theorem k308_74 : decode (gb 308) 74 = .ok (.iastore, 1) := by decide +kernel
theorem k308_75 : decode (gb 308) 75 = .ok (.aload_n 0, 1) := by decide +kernel
theorem k308_76 : decode (gb 308) 76 = .ok (.getfield 459, 3) := by decide +kernel
theorem k308_79 : decode (gb 308) 79 = .ok (.bipush 100, 2) := by decide +kernel
theorem k308_81 : decode (gb 308) 81 = .ok (.iload_n 3, 1) := by decide +kernel
theorem k308_82 : decode (gb 308) 82 = .ok (.iconst 1, 1) := by decide +kernel
theorem k308_83 : decode (gb 308) 83 = .ok (.iadd, 1) := by decide +kernel
theorem k308_84 : decode (gb 308) 84 = .ok (.imul, 1) := by decide +kernel
theorem k308_85 : decode (gb 308) 85 = .ok (.aload_n 0, 1) := by decide +kernel
theorem k308_86 : decode (gb 308) 86 = .ok (.getfield 459, 3) := by decide +kernel
theorem k308_89 : decode (gb 308) 89 = .ok (.bipush 100, 2) := by decide +kernel
theorem k308_91 : decode (gb 308) 91 = .ok (.iload_n 3, 1) := by decide +kernel
theorem k308_92 : decode (gb 308) 92 = .ok (.imul, 1) := by decide +kernel
theorem k308_93 : decode (gb 308) 93 = .ok (.aload_n 0, 1) := by decide +kernel
theorem k308_94 : decode (gb 308) 94 = .ok (.getfield 462, 3) := by decide +kernel
theorem k308_97 : decode (gb 308) 97 = .ok (.iload_n 3, 1) := by decide +kernel
theorem k308_98 : decode (gb 308) 98 = .ok (.iaload, 1) := by decide +kernel
theorem k308_99 : decode (gb 308) 99 = .ok (.invokestatic 228, 3) := by decide +kernel
theorem k308_102 : decode (gb 308) 102 = .ok (.iinc 2 1, 3) := by decide +kernel
theorem k308_105 : decode (gb 308) 105 = .ok (.goto (-75), 3) := by decide +kernel
theorem k308_108 : decode (gb 308) 108 = .ok (.return_, 1) := by decide +kernel
def b308_30 (kl30 : Int32 → Int32 → Mem → Option (Mem)) (v1 : Int32) (v2 : Int32) (μ : Mem) : Option (Mem) :=
  (ldA 171 v1 μ).bind fun x1 =>
  if x1 ≤ v2 then
    some μ
  else
    nm (((90 : Int32) * v1) + v2) fun x4 =>
    (ldA 177 (x4 + (1 : Int32)) μ).bind fun x5 =>
    (stA 177 x4 x5 μ).bind fun m7 =>
    (ldA 178 (x4 + (1 : Int32)) m7).bind fun x9 =>
    (stA 178 x4 x9 m7).bind fun m11 =>
    (ldA 177 x4 m11).bind fun x13 =>
    (f273 176 ((100 : Int32) * (x4 + (1 : Int32))) 176 ((100 : Int32) * x4) x13 m11).bind fun r15 =>
    nm (v2 + (1 : Int32)) fun x17 =>
    kl30 v1 x17 r15
theorem b308_30_ok {L : Nat} (kl30 : Int32 → Int32 → Mem → Option (Mem)) (hk30 : (∀ (v1 : Int32) (v2 : Int32) (μ : Mem) (res : Mem), kl30 v1 v2 μ = some res → Sx 308 30 [(0, .ref 129), (1, .int v1), (2, .int v2)] [] 0 0 (mk L μ) (mk L res, none))) (v1 : Int32) (v2 : Int32) (μ : Mem) (res : Mem) (h : b308_30 kl30 v1 v2 μ = some res) : Sx 308 30 [(0, .ref 129), (1, .int v1), (2, .int v2)] [] 0 0 (mk L μ) (mk L res, none) := by
  unfold b308_30 at h
  refine sx_iload_n (i := 2) k308_30 rfl rfl ?_
  refine sx_aload_n (i := 0) k308_31 rfl rfl ?_
  refine cx_getR (k := 93) k308_32 ow_308 fl_12_456 (by decide) sk_129 ft_11_93 sr_129_93 ?_
  refine sx_iload_n (i := 1) k308_35 rfl rfl ?_
  obtain ⟨x1, e2, h⟩ := Option.bind_eq_some_iff.mp h
  refine cx_iald k308_36 sk_171 e2 ?_
  by_cases hb3 : x1 ≤ v2
  · rw [if_pos hb3] at h
    refine sx_icmp_ge (tgt := 108) k308_37 (by decide) (fun _ => ?_) (fun q => absurd hb3 q)
    exact cx_retv k308_108 rt_308 h
  · rw [if_neg hb3] at h
    refine sx_icmp_ge (tgt := 108) k308_37 (by decide) (fun q => absurd q hb3) (fun _ => ?_)
    refine sx_bipush (v := 90) k308_40 (by decide) ?_
    refine sx_iload_n (i := 1) k308_42 rfl rfl ?_
    refine sx_imul k308_43 ?_
    refine sx_iload_n (i := 2) k308_44 rfl rfl ?_
    refine sx_iadd k308_45 ?_
    refine cx_nm h (fun x4 h => ?_)
    refine cx_istore_n (lo2 := [(3, .int x4), (0, .ref 129), (1, .int v1), (2, .int v2)]) k308_46 rfl (by rw [mx_308]; decide) rfl ?_
    refine sx_aload_n (i := 0) k308_47 rfl rfl ?_
    refine cx_getR (k := 99) k308_48 ow_308 fl_12_462 (by decide) sk_129 ft_11_99 sr_129_99 ?_
    refine sx_iload_n (i := 3) k308_51 rfl rfl ?_
    refine sx_aload_n (i := 0) k308_52 rfl rfl ?_
    refine cx_getR (k := 99) k308_53 ow_308 fl_12_462 (by decide) sk_129 ft_11_99 sr_129_99 ?_
    refine sx_iload_n (i := 3) k308_56 rfl rfl ?_
    refine sx_iconst (v := 1) k308_57 (by decide) ?_
    refine sx_iadd k308_58 ?_
    obtain ⟨x5, e6, h⟩ := Option.bind_eq_some_iff.mp h
    refine cx_iald k308_59 sk_177 e6 ?_
    obtain ⟨m7, e8, h⟩ := Option.bind_eq_some_iff.mp h
    refine cx_iast k308_60 sk_177 e8 ?_
    refine sx_aload_n (i := 0) k308_61 rfl rfl ?_
    refine cx_getR (k := 100) k308_62 ow_308 fl_12_465 (by decide) sk_129 ft_11_100 sr_129_100 ?_
    refine sx_iload_n (i := 3) k308_65 rfl rfl ?_
    refine sx_aload_n (i := 0) k308_66 rfl rfl ?_
    refine cx_getR (k := 100) k308_67 ow_308 fl_12_465 (by decide) sk_129 ft_11_100 sr_129_100 ?_
    refine sx_iload_n (i := 3) k308_70 rfl rfl ?_
    refine sx_iconst (v := 1) k308_71 (by decide) ?_
    refine sx_iadd k308_72 ?_
    obtain ⟨x9, e10, h⟩ := Option.bind_eq_some_iff.mp h
    refine cx_iald k308_73 sk_178 e10 ?_
    obtain ⟨m11, e12, h⟩ := Option.bind_eq_some_iff.mp h
    refine cx_iast k308_74 sk_178 e12 ?_
    refine sx_aload_n (i := 0) k308_75 rfl rfl ?_
    refine cx_getR (k := 98) k308_76 ow_308 fl_12_459 (by decide) sk_129 ft_11_98 sr_129_98 ?_
    refine sx_bipush (v := 100) k308_79 (by decide) ?_
    refine sx_iload_n (i := 3) k308_81 rfl rfl ?_
    refine sx_iconst (v := 1) k308_82 (by decide) ?_
    refine sx_iadd k308_83 ?_
    refine sx_imul k308_84 ?_
    refine sx_aload_n (i := 0) k308_85 rfl rfl ?_
    refine cx_getR (k := 98) k308_86 ow_308 fl_12_459 (by decide) sk_129 ft_11_98 sr_129_98 ?_
    refine sx_bipush (v := 100) k308_89 (by decide) ?_
    refine sx_iload_n (i := 3) k308_91 rfl rfl ?_
    refine sx_imul k308_92 ?_
    refine sx_aload_n (i := 0) k308_93 rfl rfl ?_
    refine cx_getR (k := 99) k308_94 ow_308 fl_12_462 (by decide) sk_129 ft_11_99 sr_129_99 ?_
    refine sx_iload_n (i := 3) k308_97 rfl rfl ?_
    obtain ⟨x13, e14, h⟩ := Option.bind_eq_some_iff.mp h
    refine cx_iald k308_98 sk_177 e14 ?_
    obtain ⟨r15, e16, h⟩ := Option.bind_eq_some_iff.mp h
    refine cx_S (sk := []) (vs := [.ref 176, .int ((100 : Int32) * (x4 + (1 : Int32))), .ref 176, .int ((100 : Int32) * x4), .int x13]) st_308_273 k308_99 ow_308 cl_12_228 (by decide) rfl (Nat.le_of_ble_eq_true rfl) (ok273 176 ((100 : Int32) * (x4 + (1 : Int32))) 176 ((100 : Int32) * x4) x13 sk_176 sk_176 _ _ e16) (sk3 := []) rfl rfl ?_
    refine cx_iinc (c := 1) (lo2 := fun x17 => [(2, .int x17), (3, .int x4), (0, .ref 129), (1, .int v1)]) k308_102 rfl (by decide) (by rw [mx_308]; decide) (fun _ => rfl) h (fun x17 h => ?_)
    refine sx_goto (tgt := 30) k308_105 (by decide) ?_
    refine sx_pick (lo2 := [(0, .ref 129), (1, .int v1), (2, .int x17)]) [2, 3, 0] rfl ?_
    exact hk30 v1 x17 _ _ h
def l308_30 : Nat → Int32 × Int32 × Mem → Option (Mem) :=
  fixN (fun self x => b308_30 (fun v1 v2 μ => self (v1, v2, μ)) (x.1) (x.2.1) (x.2.2))
theorem l308_30_ok {L : Nat} (n : Nat) (v1 : Int32) (v2 : Int32) (μ : Mem) (res : Mem) (h : l308_30 n (v1, v2, μ) = some res) : Sx 308 30 [(0, .ref 129), (1, .int v1), (2, .int v2)] [] 0 0 (mk L μ) (mk L res, none) := by
  have key := fixN_ind (P := fun x res => Sx 308 30 [(0, .ref 129), (1, .int (x.1)), (2, .int (x.2.1))] [] 0 0 (mk L (x.2.2)) (mk L res, none)) (F := fun self x => b308_30 (fun v1 v2 μ => self (v1, v2, μ)) (x.1) (x.2.1) (x.2.2)) (fun self hself x res h => b308_30_ok (fun v1 v2 μ => self (v1, v2, μ)) (fun v1 v2 μ res hh => hself (v1, v2, μ) res hh) (x.1) (x.2.1) (x.2.2) res h) n (v1, v2, μ) res h
  exact key
/-- CraftHouseModel.dropFirst(I)V -/
def f308 (p1 : Int32) (μ : Mem) : Option (Mem) :=
  (ldA 172 p1 μ).bind fun x1 =>
  (ldA 177 ((90 : Int32) * p1) μ).bind fun x3 =>
  (stA 172 p1 (x1 - x3) μ).bind fun m5 =>
  (ldA 171 p1 m5).bind fun x7 =>
  (stA 171 p1 (x7 - (1 : Int32)) m5).bind fun m9 =>
  l308_30 gF (p1, (0 : Int32), m9)
theorem ok308 {L : Nat} (p1 : Int32) (μ : Mem) (res : Mem) (h : f308 p1 μ = some res) : Mx 308 [.ref 129, .int p1] (mk L μ) (mk L res, none) := by
  refine Mx_of ml_308 (by rw [mx_308]; exact Nat.le_of_ble_eq_true rfl) ?_
  show Sx 308 0 [(0, .ref 129), (1, .int p1)] [] 0 0 (mk L μ) _
  unfold f308 at h
  refine sx_aload_n (i := 0) k308_0 rfl rfl ?_
  refine cx_getR (k := 94) k308_1 ow_308 fl_12_447 (by decide) sk_129 ft_11_94 sr_129_94 ?_
  refine sx_iload_n (i := 1) k308_4 rfl rfl ?_
  refine sx_dup2 k308_5 rfl rfl ?_
  obtain ⟨x1, e2, h⟩ := Option.bind_eq_some_iff.mp h
  refine cx_iald k308_6 sk_172 e2 ?_
  refine sx_aload_n (i := 0) k308_7 rfl rfl ?_
  refine cx_getR (k := 99) k308_8 ow_308 fl_12_462 (by decide) sk_129 ft_11_99 sr_129_99 ?_
  refine sx_bipush (v := 90) k308_11 (by decide) ?_
  refine sx_iload_n (i := 1) k308_13 rfl rfl ?_
  refine sx_imul k308_14 ?_
  obtain ⟨x3, e4, h⟩ := Option.bind_eq_some_iff.mp h
  refine cx_iald k308_15 sk_177 e4 ?_
  refine sx_isub k308_16 ?_
  obtain ⟨m5, e6, h⟩ := Option.bind_eq_some_iff.mp h
  refine cx_iast k308_17 sk_172 e6 ?_
  refine sx_aload_n (i := 0) k308_18 rfl rfl ?_
  refine cx_getR (k := 93) k308_19 ow_308 fl_12_456 (by decide) sk_129 ft_11_93 sr_129_93 ?_
  refine sx_iload_n (i := 1) k308_22 rfl rfl ?_
  refine sx_dup2 k308_23 rfl rfl ?_
  obtain ⟨x7, e8, h⟩ := Option.bind_eq_some_iff.mp h
  refine cx_iald k308_24 sk_171 e8 ?_
  refine sx_iconst (v := 1) k308_25 (by decide) ?_
  refine sx_isub k308_26 ?_
  obtain ⟨m9, e10, h⟩ := Option.bind_eq_some_iff.mp h
  refine cx_iast k308_27 sk_171 e10 ?_
  refine sx_iconst (v := 0) k308_28 (by decide) ?_
  refine cx_istore_n (lo2 := [(2, .int (0 : Int32)), (0, .ref 129), (1, .int p1)]) k308_29 rfl (by rw [mx_308]; decide) rfl ?_
  refine sx_pick (lo2 := [(0, .ref 129), (1, .int p1), (2, .int (0 : Int32))]) [1, 2, 0] rfl ?_
  exact l308_30_ok gF p1 (0 : Int32) _ _ h
theorem k307_0 : decode (gb 307) 0 = .ok (.aload_n 0, 1) := by decide +kernel
theorem k307_1 : decode (gb 307) 1 = .ok (.getfield 444, 3) := by decide +kernel
theorem k307_4 : decode (gb 307) 4 = .ok (.iload_n 1, 1) := by decide +kernel
theorem k307_5 : decode (gb 307) 5 = .ok (.iaload, 1) := by decide +kernel
theorem k307_6 : decode (gb 307) 6 = .ok (.ifCond .ne 31, 3) := by decide +kernel
theorem k307_9 : decode (gb 307) 9 = .ok (.aload_n 0, 1) := by decide +kernel
theorem k307_10 : decode (gb 307) 10 = .ok (.getfield 447, 3) := by decide +kernel
theorem k307_13 : decode (gb 307) 13 = .ok (.iload_n 1, 1) := by decide +kernel
theorem k307_14 : decode (gb 307) 14 = .ok (.iaload, 1) := by decide +kernel
theorem k307_15 : decode (gb 307) 15 = .ok (.aload_n 0, 1) := by decide +kernel
theorem k307_16 : decode (gb 307) 16 = .ok (.getfield 414, 3) := by decide +kernel
theorem k307_19 : decode (gb 307) 19 = .ok (.iadd, 1) := by decide +kernel
theorem k307_20 : decode (gb 307) 20 = .ok (.sipush 1200, 3) := by decide +kernel
theorem k307_23 : decode (gb 307) 23 = .ok (.if_icmp .le 14, 3) := by decide +kernel
theorem k307_26 : decode (gb 307) 26 = .ok (.aload_n 0, 1) := by decide +kernel
theorem k307_27 : decode (gb 307) 27 = .ok (.getfield 450, 3) := by decide +kernel
theorem k307_30 : decode (gb 307) 30 = .ok (.iload_n 1, 1) := by decide +kernel
theorem k307_31 : decode (gb 307) 31 = .ok (.dup2, 1) := by decide +kernel
theorem k307_32 : decode (gb 307) 32 = .ok (.iaload, 1) := by decide +kernel
theorem k307_33 : decode (gb 307) 33 = .ok (.iconst 1, 1) := by decide +kernel
theorem k307_34 : decode (gb 307) 34 = .ok (.iadd, 1) := by decide +kernel
theorem k307_35 : decode (gb 307) 35 = .ok (.iastore, 1) := by decide +kernel
theorem k307_36 : decode (gb 307) 36 = .ok (.return_, 1) := by decide +kernel
theorem k307_37 : decode (gb 307) 37 = .ok (.aload_n 0, 1) := by decide +kernel
theorem k307_38 : decode (gb 307) 38 = .ok (.getfield 447, 3) := by decide +kernel
theorem k307_41 : decode (gb 307) 41 = .ok (.iload_n 1, 1) := by decide +kernel
theorem k307_42 : decode (gb 307) 42 = .ok (.iaload, 1) := by decide +kernel
theorem k307_43 : decode (gb 307) 43 = .ok (.aload_n 0, 1) := by decide +kernel
theorem k307_44 : decode (gb 307) 44 = .ok (.getfield 414, 3) := by decide +kernel
theorem k307_47 : decode (gb 307) 47 = .ok (.iadd, 1) := by decide +kernel
theorem k307_48 : decode (gb 307) 48 = .ok (.sipush 1200, 3) := by decide +kernel
theorem k307_51 : decode (gb 307) 51 = .ok (.if_icmp .le 11, 3) := by decide +kernel
theorem k307_54 : decode (gb 307) 54 = .ok (.aload_n 0, 1) := by decide +kernel
theorem k307_55 : decode (gb 307) 55 = .ok (.iload_n 1, 1) := by decide +kernel
theorem k307_56 : decode (gb 307) 56 = .ok (.invokevirtual 453, 3) := by decide +kernel
theorem k307_59 : decode (gb 307) 59 = .ok (.goto (-22), 3) := by decide +kernel
theorem k307_62 : decode (gb 307) 62 = .ok (.bipush 90, 2) := by decide +kernel
theorem k307_64 : decode (gb 307) 64 = .ok (.iload_n 1, 1) := by decide +kernel
theorem k307_65 : decode (gb 307) 65 = .ok (.imul, 1) := by decide +kernel
theorem k307_66 : decode (gb 307) 66 = .ok (.aload_n 0, 1) := by decide +kernel
theorem k307_67 : decode (gb 307) 67 = .ok (.getfield 456, 3) := by decide +kernel
theorem k307_70 : decode (gb 307) 70 = .ok (.iload_n 1, 1) := by decide +kernel
theorem k307_71 : decode (gb 307) 71 = .ok (.iaload, 1) := by decide +kernel
theorem k307_72 : decode (gb 307) 72 = .ok (.iadd, 1) := by decide +kernel
theorem k307_73 : decode (gb 307) 73 = .ok (.istore_n 2, 1) := by decide +kernel
theorem k307_74 : decode (gb 307) 74 = .ok (.aload_n 0, 1) := by decide +kernel
theorem k307_75 : decode (gb 307) 75 = .ok (.getfield 408, 3) := by decide +kernel
theorem k307_78 : decode (gb 307) 78 = .ok (.iconst 0, 1) := by decide +kernel
theorem k307_79 : decode (gb 307) 79 = .ok (.aload_n 0, 1) := by decide +kernel
theorem k307_80 : decode (gb 307) 80 = .ok (.getfield 459, 3) := by decide +kernel
theorem k307_83 : decode (gb 307) 83 = .ok (.bipush 100, 2) := by decide +kernel
theorem k307_85 : decode (gb 307) 85 = .ok (.iload_n 2, 1) := by decide +kernel
theorem k307_86 : decode (gb 307) 86 = .ok (.imul, 1) := by decide +kernel
theorem k307_87 : decode (gb 307) 87 = .ok (.aload_n 0, 1) := by decide +kernel
theorem k307_88 : decode (gb 307) 88 = .ok (.getfield 414, 3) := by decide +kernel
theorem k307_91 : decode (gb 307) 91 = .ok (.invokestatic 228, 3) := by decide +kernel
theorem k307_94 : decode (gb 307) 94 = .ok (.aload_n 0, 1) := by decide +kernel
theorem k307_95 : decode (gb 307) 95 = .ok (.getfield 462, 3) := by decide +kernel
theorem k307_98 : decode (gb 307) 98 = .ok (.iload_n 2, 1) := by decide +kernel
theorem k307_99 : decode (gb 307) 99 = .ok (.aload_n 0, 1) := by decide +kernel
theorem k307_100 : decode (gb 307) 100 = .ok (.getfield 414, 3) := by decide +kernel
theorem k307_103 : decode (gb 307) 103 = .ok (.iastore, 1) := by decide +kernel
theorem k307_104 : decode (gb 307) 104 = .ok (.aload_n 0, 1) := by decide +kernel
theorem k307_105 : decode (gb 307) 105 = .ok (.getfield 465, 3) := by decide +kernel
theorem k307_108 : decode (gb 307) 108 = .ok (.iload_n 2, 1) := by decide +kernel
theorem k307_109 : decode (gb 307) 109 = .ok (.aload_n 0, 1) := by decide +kernel
theorem k307_110 : decode (gb 307) 110 = .ok (.getfield 405, 3) := by decide +kernel
theorem k307_113 : decode (gb 307) 113 = .ok (.iastore, 1) := by decide +kernel
theorem k307_114 : decode (gb 307) 114 = .ok (.aload_n 0, 1) := by decide +kernel
theorem k307_115 : decode (gb 307) 115 = .ok (.getfield 456, 3) := by decide +kernel
theorem k307_118 : decode (gb 307) 118 = .ok (.iload_n 1, 1) := by decide +kernel
theorem k307_119 : decode (gb 307) 119 = .ok (.dup2, 1) := by decide +kernel
theorem k307_120 : decode (gb 307) 120 = .ok (.iaload, 1) := by decide +kernel
theorem k307_121 : decode (gb 307) 121 = .ok (.iconst 1, 1) := by decide +kernel
theorem k307_122 : decode (gb 307) 122 = .ok (.iadd, 1) := by decide +kernel
theorem k307_123 : decode (gb 307) 123 = .ok (.iastore, 1) := by decide +kernel
theorem k307_124 : decode (gb 307) 124 = .ok (.aload_n 0, 1) := by decide +kernel
theorem k307_125 : decode (gb 307) 125 = .ok (.getfield 447, 3) := by decide +kernel
theorem k307_128 : decode (gb 307) 128 = .ok (.iload_n 1, 1) := by decide +kernel
theorem k307_129 : decode (gb 307) 129 = .ok (.dup2, 1) := by decide +kernel
theorem k307_130 : decode (gb 307) 130 = .ok (.iaload, 1) := by decide +kernel
theorem k307_131 : decode (gb 307) 131 = .ok (.aload_n 0, 1) := by decide +kernel
theorem k307_132 : decode (gb 307) 132 = .ok (.getfield 414, 3) := by decide +kernel
theorem k307_135 : decode (gb 307) 135 = .ok (.iadd, 1) := by decide +kernel
theorem k307_136 : decode (gb 307) 136 = .ok (.iastore, 1) := by decide +kernel
theorem k307_137 : decode (gb 307) 137 = .ok (.return_, 1) := by decide +kernel
def b307_37 (kl37 : Int32 → Mem → Option (Mem)) (v1 : Int32) (μ : Mem) : Option (Mem) :=
  (ldA 172 v1 μ).bind fun x1 =>
  if (x1 + (μ.1 129 83)) ≤ (1200 : Int32) then
    (ldA 171 v1 μ).bind fun x4 =>
    nm (((90 : Int32) * v1) + x4) fun x6 =>
    (f273 164 (0 : Int32) 176 ((100 : Int32) * x6) (μ.1 129 83) μ).bind fun r7 =>
    (stA 177 x6 (r7.1 129 83) r7).bind fun m9 =>
    (stA 178 x6 (m9.1 129 77) m9).bind fun m11 =>
    (ldA 171 v1 m11).bind fun x13 =>
    (stA 171 v1 (x13 + (1 : Int32)) m11).bind fun m15 =>
    (ldA 172 v1 m15).bind fun x17 =>
    (stA 172 v1 (x17 + (m15.1 129 83)) m15).bind fun m19 =>
    some m19
  else
    (f308 v1 μ).bind fun r21 =>
    kl37 v1 r21
theorem b307_37_ok {L : Nat} (kl37 : Int32 → Mem → Option (Mem)) (hk37 : (∀ (v1 : Int32) (μ : Mem) (res : Mem), kl37 v1 μ = some res → Sx 307 37 [(0, .ref 129), (1, .int v1)] [] 0 0 (mk L μ) (mk L res, none))) (v1 : Int32) (μ : Mem) (res : Mem) (h : b307_37 kl37 v1 μ = some res) : Sx 307 37 [(0, .ref 129), (1, .int v1)] [] 0 0 (mk L μ) (mk L res, none) := by
  unfold b307_37 at h
  refine sx_aload_n (i := 0) k307_37 rfl rfl ?_
  refine cx_getR (k := 94) k307_38 ow_307 fl_12_447 (by decide) sk_129 ft_11_94 sr_129_94 ?_
  refine sx_iload_n (i := 1) k307_41 rfl rfl ?_
  obtain ⟨x1, e2, h⟩ := Option.bind_eq_some_iff.mp h
  refine cx_iald k307_42 sk_172 e2 ?_
  refine sx_aload_n (i := 0) k307_43 rfl rfl ?_
  refine cx_getI (k := 83) k307_44 ow_307 fl_12_414 (by decide) sk_129 ft_11_83 ?_
  refine sx_iadd k307_47 ?_
  refine sx_sipush (v := 1200) k307_48 (by decide) ?_
  by_cases hb3 : (x1 + (μ.1 129 83)) ≤ (1200 : Int32)
  · rw [if_pos hb3] at h
    refine sx_icmp_le (tgt := 62) k307_51 (by decide) (fun _ => ?_) (fun q => absurd hb3 q)
    refine sx_bipush (v := 90) k307_62 (by decide) ?_
    refine sx_iload_n (i := 1) k307_64 rfl rfl ?_
    refine sx_imul k307_65 ?_
    refine sx_aload_n (i := 0) k307_66 rfl rfl ?_
    refine cx_getR (k := 93) k307_67 ow_307 fl_12_456 (by decide) sk_129 ft_11_93 sr_129_93 ?_
    refine sx_iload_n (i := 1) k307_70 rfl rfl ?_
    obtain ⟨x4, e5, h⟩ := Option.bind_eq_some_iff.mp h
    refine cx_iald k307_71 sk_171 e5 ?_
    refine sx_iadd k307_72 ?_
    refine cx_nm h (fun x6 h => ?_)
    refine cx_istore_n (lo2 := [(2, .int x6), (0, .ref 129), (1, .int v1)]) k307_73 rfl (by rw [mx_307]; decide) rfl ?_
    refine sx_aload_n (i := 0) k307_74 rfl rfl ?_
    refine cx_getR (k := 82) k307_75 ow_307 fl_12_408 (by decide) sk_129 ft_11_82 sr_129_82 ?_
    refine sx_iconst (v := 0) k307_78 (by decide) ?_
    refine sx_aload_n (i := 0) k307_79 rfl rfl ?_
    refine cx_getR (k := 98) k307_80 ow_307 fl_12_459 (by decide) sk_129 ft_11_98 sr_129_98 ?_
    refine sx_bipush (v := 100) k307_83 (by decide) ?_
    refine sx_iload_n (i := 2) k307_85 rfl rfl ?_
    refine sx_imul k307_86 ?_
    refine sx_aload_n (i := 0) k307_87 rfl rfl ?_
    refine cx_getI (k := 83) k307_88 ow_307 fl_12_414 (by decide) sk_129 ft_11_83 ?_
    obtain ⟨r7, e8, h⟩ := Option.bind_eq_some_iff.mp h
    refine cx_S (sk := []) (vs := [.ref 164, .int (0 : Int32), .ref 176, .int ((100 : Int32) * x6), .int (μ.1 129 83)]) st_307_273 k307_91 ow_307 cl_12_228 (by decide) rfl (Nat.le_of_ble_eq_true rfl) (ok273 164 (0 : Int32) 176 ((100 : Int32) * x6) (μ.1 129 83) sk_164 sk_176 _ _ e8) (sk3 := []) rfl rfl ?_
    refine sx_aload_n (i := 0) k307_94 rfl rfl ?_
    refine cx_getR (k := 99) k307_95 ow_307 fl_12_462 (by decide) sk_129 ft_11_99 sr_129_99 ?_
    refine sx_iload_n (i := 2) k307_98 rfl rfl ?_
    refine sx_aload_n (i := 0) k307_99 rfl rfl ?_
    refine cx_getI (k := 83) k307_100 ow_307 fl_12_414 (by decide) sk_129 ft_11_83 ?_
    obtain ⟨m9, e10, h⟩ := Option.bind_eq_some_iff.mp h
    refine cx_iast k307_103 sk_177 e10 ?_
    refine sx_aload_n (i := 0) k307_104 rfl rfl ?_
    refine cx_getR (k := 100) k307_105 ow_307 fl_12_465 (by decide) sk_129 ft_11_100 sr_129_100 ?_
    refine sx_iload_n (i := 2) k307_108 rfl rfl ?_
    refine sx_aload_n (i := 0) k307_109 rfl rfl ?_
    refine cx_getI (k := 77) k307_110 ow_307 fl_12_405 (by decide) sk_129 ft_11_77 ?_
    obtain ⟨m11, e12, h⟩ := Option.bind_eq_some_iff.mp h
    refine cx_iast k307_113 sk_178 e12 ?_
    refine sx_aload_n (i := 0) k307_114 rfl rfl ?_
    refine cx_getR (k := 93) k307_115 ow_307 fl_12_456 (by decide) sk_129 ft_11_93 sr_129_93 ?_
    refine sx_iload_n (i := 1) k307_118 rfl rfl ?_
    refine sx_dup2 k307_119 rfl rfl ?_
    obtain ⟨x13, e14, h⟩ := Option.bind_eq_some_iff.mp h
    refine cx_iald k307_120 sk_171 e14 ?_
    refine sx_iconst (v := 1) k307_121 (by decide) ?_
    refine sx_iadd k307_122 ?_
    obtain ⟨m15, e16, h⟩ := Option.bind_eq_some_iff.mp h
    refine cx_iast k307_123 sk_171 e16 ?_
    refine sx_aload_n (i := 0) k307_124 rfl rfl ?_
    refine cx_getR (k := 94) k307_125 ow_307 fl_12_447 (by decide) sk_129 ft_11_94 sr_129_94 ?_
    refine sx_iload_n (i := 1) k307_128 rfl rfl ?_
    refine sx_dup2 k307_129 rfl rfl ?_
    obtain ⟨x17, e18, h⟩ := Option.bind_eq_some_iff.mp h
    refine cx_iald k307_130 sk_172 e18 ?_
    refine sx_aload_n (i := 0) k307_131 rfl rfl ?_
    refine cx_getI (k := 83) k307_132 ow_307 fl_12_414 (by decide) sk_129 ft_11_83 ?_
    refine sx_iadd k307_135 ?_
    obtain ⟨m19, e20, h⟩ := Option.bind_eq_some_iff.mp h
    refine cx_iast k307_136 sk_172 e20 ?_
    exact cx_retv k307_137 rt_307 h
  · rw [if_neg hb3] at h
    refine sx_icmp_le (tgt := 62) k307_51 (by decide) (fun q => absurd q hb3) (fun _ => ?_)
    refine sx_aload_n (i := 0) k307_54 rfl rfl ?_
    refine sx_iload_n (i := 1) k307_55 rfl rfl ?_
    obtain ⟨r21, e22, h⟩ := Option.bind_eq_some_iff.mp h
    refine cx_V (sk := []) (vs := [.int v1]) st_307_308 k307_56 ow_307 cl_12_453 (by decide) rfl (Nat.le_of_ble_eq_true rfl) sk_129 (ok308 v1 _ _ e22) (sk3 := []) rfl rfl ?_
    refine sx_goto (tgt := 37) k307_59 (by decide) ?_
    refine sx_pick (lo2 := [(0, .ref 129), (1, .int v1)]) [0, 1] rfl ?_
    exact hk37 v1 _ _ h
def l307_37 : Nat → Int32 × Mem → Option (Mem) :=
  fixN (fun self x => b307_37 (fun v1 μ => self (v1, μ)) (x.1) (x.2))
theorem l307_37_ok {L : Nat} (n : Nat) (v1 : Int32) (μ : Mem) (res : Mem) (h : l307_37 n (v1, μ) = some res) : Sx 307 37 [(0, .ref 129), (1, .int v1)] [] 0 0 (mk L μ) (mk L res, none) := by
  have key := fixN_ind (P := fun x res => Sx 307 37 [(0, .ref 129), (1, .int (x.1))] [] 0 0 (mk L (x.2)) (mk L res, none)) (F := fun self x => b307_37 (fun v1 μ => self (v1, μ)) (x.1) (x.2)) (fun self hself x res h => b307_37_ok (fun v1 μ => self (v1, μ)) (fun v1 μ res hh => hself (v1, μ) res hh) (x.1) (x.2) res h) n (v1, μ) res h
  exact key
/-- CraftHouseModel.keep(I)V -/
def f307 (p1 : Int32) (μ : Mem) : Option (Mem) :=
  (ldA 169 p1 μ).bind fun x1 =>
  if x1 = 0 then
    (ldA 172 p1 μ).bind fun x4 =>
    if (x4 + (μ.1 129 83)) ≤ (1200 : Int32) then
      l307_37 gF (p1, μ)
    else
      (ldA 173 p1 μ).bind fun x7 =>
      (stA 173 p1 (x7 + (1 : Int32)) μ).bind fun m9 =>
      some m9
  else
    l307_37 gF (p1, μ)
theorem ok307 {L : Nat} (p1 : Int32) (μ : Mem) (res : Mem) (h : f307 p1 μ = some res) : Mx 307 [.ref 129, .int p1] (mk L μ) (mk L res, none) := by
  refine Mx_of ml_307 (by rw [mx_307]; exact Nat.le_of_ble_eq_true rfl) ?_
  show Sx 307 0 [(0, .ref 129), (1, .int p1)] [] 0 0 (mk L μ) _
  unfold f307 at h
  refine sx_aload_n (i := 0) k307_0 rfl rfl ?_
  refine cx_getR (k := 91) k307_1 ow_307 fl_12_444 (by decide) sk_129 ft_11_91 sr_129_91 ?_
  refine sx_iload_n (i := 1) k307_4 rfl rfl ?_
  obtain ⟨x1, e2, h⟩ := Option.bind_eq_some_iff.mp h
  refine cx_iald k307_5 sk_169 e2 ?_
  by_cases hb3 : x1 = 0
  · rw [if_pos hb3] at h
    refine sx_if_ne (tgt := 37) k307_6 (by decide) (fun q => absurd hb3 q) (fun _ => ?_)
    refine sx_aload_n (i := 0) k307_9 rfl rfl ?_
    refine cx_getR (k := 94) k307_10 ow_307 fl_12_447 (by decide) sk_129 ft_11_94 sr_129_94 ?_
    refine sx_iload_n (i := 1) k307_13 rfl rfl ?_
    obtain ⟨x4, e5, h⟩ := Option.bind_eq_some_iff.mp h
    refine cx_iald k307_14 sk_172 e5 ?_
    refine sx_aload_n (i := 0) k307_15 rfl rfl ?_
    refine cx_getI (k := 83) k307_16 ow_307 fl_12_414 (by decide) sk_129 ft_11_83 ?_
    refine sx_iadd k307_19 ?_
    refine sx_sipush (v := 1200) k307_20 (by decide) ?_
    by_cases hb6 : (x4 + (μ.1 129 83)) ≤ (1200 : Int32)
    · rw [if_pos hb6] at h
      refine sx_icmp_le (tgt := 37) k307_23 (by decide) (fun _ => ?_) (fun q => absurd hb6 q)
      refine sx_pick (lo2 := [(0, .ref 129), (1, .int p1)]) [0, 1] rfl ?_
      exact l307_37_ok gF p1 _ _ h
    · rw [if_neg hb6] at h
      refine sx_icmp_le (tgt := 37) k307_23 (by decide) (fun q => absurd q hb6) (fun _ => ?_)
      refine sx_aload_n (i := 0) k307_26 rfl rfl ?_
      refine cx_getR (k := 95) k307_27 ow_307 fl_12_450 (by decide) sk_129 ft_11_95 sr_129_95 ?_
      refine sx_iload_n (i := 1) k307_30 rfl rfl ?_
      refine sx_dup2 k307_31 rfl rfl ?_
      obtain ⟨x7, e8, h⟩ := Option.bind_eq_some_iff.mp h
      refine cx_iald k307_32 sk_173 e8 ?_
      refine sx_iconst (v := 1) k307_33 (by decide) ?_
      refine sx_iadd k307_34 ?_
      obtain ⟨m9, e10, h⟩ := Option.bind_eq_some_iff.mp h
      refine cx_iast k307_35 sk_173 e10 ?_
      exact cx_retv k307_36 rt_307 h
  · rw [if_neg hb3] at h
    refine sx_if_ne (tgt := 37) k307_6 (by decide) (fun _ => ?_) (fun q => absurd q hb3)
    refine sx_pick (lo2 := [(0, .ref 129), (1, .int p1)]) [0, 1] rfl ?_
    exact l307_37_ok gF p1 _ _ h
theorem k305_0 : decode (gb 305) 0 = .ok (.bipush 15, 2) := by decide +kernel
theorem k305_2 : decode (gb 305) 2 = .ok (.aload_n 0, 1) := by decide +kernel
theorem k305_3 : decode (gb 305) 3 = .ok (.getfield 399, 3) := by decide +kernel
theorem k305_6 : decode (gb 305) 6 = .ok (.iadd, 1) := by decide +kernel
theorem k305_7 : decode (gb 305) 7 = .ok (.istore_n 3, 1) := by decide +kernel
theorem k305_8 : decode (gb 305) 8 = .ok (.aload_n 0, 1) := by decide +kernel
theorem k305_9 : decode (gb 305) 9 = .ok (.getfield 408, 3) := by decide +kernel
theorem k305_12 : decode (gb 305) 12 = .ok (.iconst 0, 1) := by decide +kernel
theorem k305_13 : decode (gb 305) 13 = .ok (.bipush 8, 2) := by decide +kernel
theorem k305_15 : decode (gb 305) 15 = .ok (.iastore, 1) := by decide +kernel
theorem k305_16 : decode (gb 305) 16 = .ok (.aload_n 0, 1) := by decide +kernel
theorem k305_17 : decode (gb 305) 17 = .ok (.getfield 408, 3) := by decide +kernel
theorem k305_20 : decode (gb 305) 20 = .ok (.iconst 1, 1) := by decide +kernel
theorem k305_21 : decode (gb 305) 21 = .ok (.bipush 12, 2) := by decide +kernel
theorem k305_23 : decode (gb 305) 23 = .ok (.iastore, 1) := by decide +kernel
theorem k305_24 : decode (gb 305) 24 = .ok (.aload_n 0, 1) := by decide +kernel
theorem k305_25 : decode (gb 305) 25 = .ok (.getfield 408, 3) := by decide +kernel
theorem k305_28 : decode (gb 305) 28 = .ok (.iconst 2, 1) := by decide +kernel
theorem k305_29 : decode (gb 305) 29 = .ok (.sipush 192, 3) := by decide +kernel
theorem k305_32 : decode (gb 305) 32 = .ok (.aload_n 0, 1) := by decide +kernel
theorem k305_33 : decode (gb 305) 33 = .ok (.getfield 411, 3) := by decide +kernel
theorem k305_36 : decode (gb 305) 36 = .ok (.bipush 8, 2) := by decide +kernel
theorem k305_38 : decode (gb 305) 38 = .ok (.ishr, 1) := by decide +kernel
theorem k305_39 : decode (gb 305) 39 = .ok (.bipush 63, 2) := by decide +kernel
theorem k305_41 : decode (gb 305) 41 = .ok (.iand, 1) := by decide +kernel
theorem k305_42 : decode (gb 305) 42 = .ok (.ior, 1) := by decide +kernel
theorem k305_43 : decode (gb 305) 43 = .ok (.iastore, 1) := by decide +kernel
theorem k305_44 : decode (gb 305) 44 = .ok (.aload_n 0, 1) := by decide +kernel
theorem k305_45 : decode (gb 305) 45 = .ok (.getfield 408, 3) := by decide +kernel
theorem k305_48 : decode (gb 305) 48 = .ok (.iconst 3, 1) := by decide +kernel
theorem k305_49 : decode (gb 305) 49 = .ok (.aload_n 0, 1) := by decide +kernel
theorem k305_50 : decode (gb 305) 50 = .ok (.getfield 411, 3) := by decide +kernel
theorem k305_53 : decode (gb 305) 53 = .ok (.sipush 255, 3) := by decide +kernel
theorem k305_56 : decode (gb 305) 56 = .ok (.iand, 1) := by decide +kernel
theorem k305_57 : decode (gb 305) 57 = .ok (.iastore, 1) := by decide +kernel
theorem k305_58 : decode (gb 305) 58 = .ok (.aload_n 0, 1) := by decide +kernel
theorem k305_59 : decode (gb 305) 59 = .ok (.getfield 408, 3) := by decide +kernel
theorem k305_62 : decode (gb 305) 62 = .ok (.iconst 4, 1) := by decide +kernel
theorem k305_63 : decode (gb 305) 63 = .ok (.iload_n 3, 1) := by decide +kernel
theorem k305_64 : decode (gb 305) 64 = .ok (.bipush 7, 2) := by decide +kernel
theorem k305_66 : decode (gb 305) 66 = .ok (.isub, 1) := by decide +kernel
theorem k305_67 : decode (gb 305) 67 = .ok (.bipush 8, 2) := by decide +kernel
theorem k305_69 : decode (gb 305) 69 = .ok (.ishr, 1) := by decide +kernel
theorem k305_70 : decode (gb 305) 70 = .ok (.iastore, 1) := by decide +kernel
theorem k305_71 : decode (gb 305) 71 = .ok (.aload_n 0, 1) := by decide +kernel
theorem k305_72 : decode (gb 305) 72 = .ok (.getfield 408, 3) := by decide +kernel
theorem k305_75 : decode (gb 305) 75 = .ok (.iconst 5, 1) := by decide +kernel
theorem k305_76 : decode (gb 305) 76 = .ok (.iload_n 3, 1) := by decide +kernel
theorem k305_77 : decode (gb 305) 77 = .ok (.bipush 7, 2) := by decide +kernel
theorem k305_79 : decode (gb 305) 79 = .ok (.isub, 1) := by decide +kernel
theorem k305_80 : decode (gb 305) 80 = .ok (.sipush 255, 3) := by decide +kernel
theorem k305_83 : decode (gb 305) 83 = .ok (.iand, 1) := by decide +kernel
theorem k305_84 : decode (gb 305) 84 = .ok (.iastore, 1) := by decide +kernel
theorem k305_85 : decode (gb 305) 85 = .ok (.aload_n 0, 1) := by decide +kernel
theorem k305_86 : decode (gb 305) 86 = .ok (.getfield 408, 3) := by decide +kernel
theorem k305_89 : decode (gb 305) 89 = .ok (.bipush 6, 2) := by decide +kernel
theorem k305_91 : decode (gb 305) 91 = .ok (.bipush 32, 2) := by decide +kernel
theorem k305_93 : decode (gb 305) 93 = .ok (.iastore, 1) := by decide +kernel
theorem k305_94 : decode (gb 305) 94 = .ok (.aload_n 0, 1) := by decide +kernel
theorem k305_95 : decode (gb 305) 95 = .ok (.getfield 408, 3) := by decide +kernel
theorem k305_98 : decode (gb 305) 98 = .ok (.bipush 7, 2) := by decide +kernel
theorem k305_100 : decode (gb 305) 100 = .ok (.iload_n 1, 1) := by decide +kernel
theorem k305_101 : decode (gb 305) 101 = .ok (.iastore, 1) := by decide +kernel
theorem k305_102 : decode (gb 305) 102 = .ok (.aload_n 0, 1) := by decide +kernel
theorem k305_103 : decode (gb 305) 103 = .ok (.getfield 408, 3) := by decide +kernel
theorem k305_106 : decode (gb 305) 106 = .ok (.bipush 8, 2) := by decide +kernel
theorem k305_108 : decode (gb 305) 108 = .ok (.iload_n 2, 1) := by decide +kernel
theorem k305_109 : decode (gb 305) 109 = .ok (.iastore, 1) := by decide +kernel
theorem k305_110 : decode (gb 305) 110 = .ok (.iconst 0, 1) := by decide +kernel
theorem k305_111 : decode (gb 305) 111 = .ok (.istore 4, 2) := by decide +kernel
theorem k305_113 : decode (gb 305) 113 = .ok (.iload 4, 2) := by decide +kernel
theorem k305_115 : decode (gb 305) 115 = .ok (.iconst 4, 1) := by decide +kernel
theorem k305_116 : decode (gb 305) 116 = .ok (.if_icmp .ge 36, 3) := by decide +kernel
theorem k305_119 : decode (gb 305) 119 = .ok (.aload_n 0, 1) := by decide +kernel
theorem k305_120 : decode (gb 305) 120 = .ok (.getfield 408, 3) := by decide +kernel
theorem k305_123 : decode (gb 305) 123 = .ok (.bipush 9, 2) := by decide +kernel
theorem k305_125 : decode (gb 305) 125 = .ok (.iload 4, 2) := by decide +kernel
theorem k305_127 : decode (gb 305) 127 = .ok (.iadd, 1) := by decide +kernel
theorem k305_128 : decode (gb 305) 128 = .ok (.aload_n 0, 1) := by decide +kernel
theorem k305_129 : decode (gb 305) 129 = .ok (.getfield 405, 3) := by decide +kernel
theorem k305_132 : decode (gb 305) 132 = .ok (.bipush 24, 2) := by decide +kernel
theorem k305_134 : decode (gb 305) 134 = .ok (.bipush 8, 2) := by decide +kernel
theorem k305_136 : decode (gb 305) 136 = .ok (.iload 4, 2) := by decide +kernel
theorem k305_138 : decode (gb 305) 138 = .ok (.imul, 1) := by decide +kernel
theorem k305_139 : decode (gb 305) 139 = .ok (.isub, 1) := by decide +kernel
theorem k305_140 : decode (gb 305) 140 = .ok (.iushr, 1) := by decide +kernel
theorem k305_141 : decode (gb 305) 141 = .ok (.sipush 255, 3) := by decide +kernel
theorem k305_144 : decode (gb 305) 144 = .ok (.iand, 1) := by decide +kernel
theorem k305_145 : decode (gb 305) 145 = .ok (.iastore, 1) := by decide +kernel
theorem k305_146 : decode (gb 305) 146 = .ok (.iinc 4 1, 3) := by decide +kernel
theorem k305_149 : decode (gb 305) 149 = .ok (.goto (-36), 3) := by decide +kernel
theorem k305_152 : decode (gb 305) 152 = .ok (.iconst 0, 1) := by decide +kernel
theorem k305_153 : decode (gb 305) 153 = .ok (.istore 4, 2) := by decide +kernel
theorem k305_155 : decode (gb 305) 155 = .ok (.iload 4, 2) := by decide +kernel
theorem k305_157 : decode (gb 305) 157 = .ok (.aload_n 0, 1) := by decide +kernel
theorem k305_158 : decode (gb 305) 158 = .ok (.getfield 399, 3) := by decide +kernel
theorem k305_161 : decode (gb 305) 161 = .ok (.if_icmp .ge 26, 3) := by decide +kernel
theorem k305_164 : decode (gb 305) 164 = .ok (.aload_n 0, 1) := by decide +kernel
theorem k305_165 : decode (gb 305) 165 = .ok (.getfield 408, 3) := by decide +kernel
theorem k305_168 : decode (gb 305) 168 = .ok (.bipush 13, 2) := by decide +kernel
theorem k305_170 : decode (gb 305) 170 = .ok (.iload 4, 2) := by decide +kernel
theorem k305_172 : decode (gb 305) 172 = .ok (.iadd, 1) := by decide +kernel
theorem k305_173 : decode (gb 305) 173 = .ok (.aload_n 0, 1) := by decide +kernel
theorem k305_174 : decode (gb 305) 174 = .ok (.getfield 396, 3) := by decide +kernel
theorem k305_177 : decode (gb 305) 177 = .ok (.iload 4, 2) := by decide +kernel
theorem k305_179 : decode (gb 305) 179 = .ok (.iaload, 1) := by decide +kernel
theorem k305_180 : decode (gb 305) 180 = .ok (.iastore, 1) := by decide +kernel
theorem k305_181 : decode (gb 305) 181 = .ok (.iinc 4 1, 3) := by decide +kernel
theorem k305_184 : decode (gb 305) 184 = .ok (.goto (-29), 3) := by decide +kernel
theorem k305_187 : decode (gb 305) 187 = .ok (.aload_n 0, 1) := by decide +kernel
theorem k305_188 : decode (gb 305) 188 = .ok (.getfield 408, 3) := by decide +kernel
theorem k305_191 : decode (gb 305) 191 = .ok (.iconst 0, 1) := by decide +kernel
theorem k305_192 : decode (gb 305) 192 = .ok (.iload_n 3, 1) := by decide +kernel
theorem k305_193 : decode (gb 305) 193 = .ok (.iconst 2, 1) := by decide +kernel
theorem k305_194 : decode (gb 305) 194 = .ok (.isub, 1) := by decide +kernel
theorem k305_195 : decode (gb 305) 195 = .ok (.invokestatic 11, 3) := by decide +kernel
theorem k305_198 : decode (gb 305) 198 = .ok (.istore 4, 2) := by decide +kernel
theorem k305_200 : decode (gb 305) 200 = .ok (.aload_n 0, 1) := by decide +kernel
theorem k305_201 : decode (gb 305) 201 = .ok (.getfield 408, 3) := by decide +kernel
theorem k305_204 : decode (gb 305) 204 = .ok (.iload_n 3, 1) := by decide +kernel
theorem k305_205 : decode (gb 305) 205 = .ok (.iconst 2, 1) := by decide +kernel
theorem k305_206 : decode (gb 305) 206 = .ok (.isub, 1) := by decide +kernel
theorem k305_207 : decode (gb 305) 207 = .ok (.iload 4, 2) := by decide +kernel
theorem k305_209 : decode (gb 305) 209 = .ok (.bipush 8, 2) := by decide +kernel
theorem k305_211 : decode (gb 305) 211 = .ok (.ishr, 1) := by decide +kernel
theorem k305_212 : decode (gb 305) 212 = .ok (.iastore, 1) := by decide +kernel
theorem k305_213 : decode (gb 305) 213 = .ok (.aload_n 0, 1) := by decide +kernel
theorem k305_214 : decode (gb 305) 214 = .ok (.getfield 408, 3) := by decide +kernel
theorem k305_217 : decode (gb 305) 217 = .ok (.iload_n 3, 1) := by decide +kernel
theorem k305_218 : decode (gb 305) 218 = .ok (.iconst 1, 1) := by decide +kernel
theorem k305_219 : decode (gb 305) 219 = .ok (.isub, 1) := by decide +kernel
theorem k305_220 : decode (gb 305) 220 = .ok (.iload 4, 2) := by decide +kernel
theorem k305_222 : decode (gb 305) 222 = .ok (.sipush 255, 3) := by decide +kernel
theorem k305_225 : decode (gb 305) 225 = .ok (.iand, 1) := by decide +kernel
theorem k305_226 : decode (gb 305) 226 = .ok (.iastore, 1) := by decide +kernel
theorem k305_227 : decode (gb 305) 227 = .ok (.aload_n 0, 1) := by decide +kernel
theorem k305_228 : decode (gb 305) 228 = .ok (.iload_n 3, 1) := by decide +kernel
theorem k305_229 : decode (gb 305) 229 = .ok (.putfield 414, 3) := by decide +kernel
theorem k305_232 : decode (gb 305) 232 = .ok (.aload_n 0, 1) := by decide +kernel
theorem k305_233 : decode (gb 305) 233 = .ok (.dup, 1) := by decide +kernel
theorem k305_234 : decode (gb 305) 234 = .ok (.getfield 411, 3) := by decide +kernel
theorem k305_237 : decode (gb 305) 237 = .ok (.iconst 1, 1) := by decide +kernel
theorem k305_238 : decode (gb 305) 238 = .ok (.iadd, 1) := by decide +kernel
theorem k305_239 : decode (gb 305) 239 = .ok (.putfield 411, 3) := by decide +kernel
theorem k305_242 : decode (gb 305) 242 = .ok (.aload_n 0, 1) := by decide +kernel
theorem k305_243 : decode (gb 305) 243 = .ok (.iconst 0, 1) := by decide +kernel
theorem k305_244 : decode (gb 305) 244 = .ok (.putfield 399, 3) := by decide +kernel
theorem k305_247 : decode (gb 305) 247 = .ok (.iconst 0, 1) := by decide +kernel
theorem k305_248 : decode (gb 305) 248 = .ok (.istore 5, 2) := by decide +kernel
theorem k305_250 : decode (gb 305) 250 = .ok (.iload 5, 2) := by decide +kernel
theorem k305_252 : decode (gb 305) 252 = .ok (.iconst 2, 1) := by decide +kernel
theorem k305_253 : decode (gb 305) 253 = .ok (.if_icmp .ge 36, 3) := by decide +kernel
theorem k305_256 : decode (gb 305) 256 = .ok (.aload_n 0, 1) := by decide +kernel
theorem k305_257 : decode (gb 305) 257 = .ok (.getfield 417, 3) := by decide +kernel
theorem k305_260 : decode (gb 305) 260 = .ok (.iload 5, 2) := by decide +kernel
theorem k305_262 : decode (gb 305) 262 = .ok (.baload, 1) := by decide +kernel
theorem k305_263 : decode (gb 305) 263 = .ok (.ifCond .eq 20, 3) := by decide +kernel
theorem k305_266 : decode (gb 305) 266 = .ok (.aload_n 0, 1) := by decide +kernel
theorem k305_267 : decode (gb 305) 267 = .ok (.iload 5, 2) := by decide +kernel
theorem k305_269 : decode (gb 305) 269 = .ok (.iload_n 1, 1) := by decide +kernel
theorem k305_270 : decode (gb 305) 270 = .ok (.iload_n 2, 1) := by decide +kernel
theorem k305_271 : decode (gb 305) 271 = .ok (.invokevirtual 420, 3) := by decide +kernel
theorem k305_274 : decode (gb 305) 274 = .ok (.ifCond .eq 9, 3) := by decide +kernel
theorem k305_277 : decode (gb 305) 277 = .ok (.aload_n 0, 1) := by decide +kernel
theorem k305_278 : decode (gb 305) 278 = .ok (.iload 5, 2) := by decide +kernel
theorem k305_280 : decode (gb 305) 280 = .ok (.invokevirtual 423, 3) := by decide +kernel
theorem k305_283 : decode (gb 305) 283 = .ok (.iinc 5 1, 3) := by decide +kernel
theorem k305_286 : decode (gb 305) 286 = .ok (.goto (-36), 3) := by decide +kernel
theorem k305_289 : decode (gb 305) 289 = .ok (.aload_n 0, 1) := by decide +kernel
theorem k305_290 : decode (gb 305) 290 = .ok (.getfield 426, 3) := by decide +kernel
theorem k305_293 : decode (gb 305) 293 = .ok (.bipush 24, 2) := by decide +kernel
theorem k305_295 : decode (gb 305) 295 = .ok (.if_icmp .ne 16, 3) := by decide +kernel
theorem k305_298 : decode (gb 305) 298 = .ok (.aload_n 0, 1) := by decide +kernel
theorem k305_299 : decode (gb 305) 299 = .ok (.dup, 1) := by decide +kernel
theorem k305_300 : decode (gb 305) 300 = .ok (.getfield 429, 3) := by decide +kernel
theorem k305_303 : decode (gb 305) 303 = .ok (.iconst 1, 1) := by decide +kernel
theorem k305_304 : decode (gb 305) 304 = .ok (.iadd, 1) := by decide +kernel
theorem k305_305 : decode (gb 305) 305 = .ok (.putfield 429, 3) := by decide +kernel
theorem k305_308 : decode (gb 305) 308 = .ok (.goto 43, 3) := by decide +kernel
theorem k305_311 : decode (gb 305) 311 = .ok (.aload_n 0, 1) := by decide +kernel
theorem k305_312 : decode (gb 305) 312 = .ok (.getfield 408, 3) := by decide +kernel
theorem k305_315 : decode (gb 305) 315 = .ok (.iconst 0, 1) := by decide +kernel
theorem k305_316 : decode (gb 305) 316 = .ok (.aload_n 0, 1) := by decide +kernel
theorem k305_317 : decode (gb 305) 317 = .ok (.getfield 432, 3) := by decide +kernel
theorem k305_320 : decode (gb 305) 320 = .ok (.bipush 100, 2) := by decide +kernel
theorem k305_322 : decode (gb 305) 322 = .ok (.aload_n 0, 1) := by decide +kernel
theorem k305_323 : decode (gb 305) 323 = .ok (.getfield 426, 3) := by decide +kernel
theorem k305_326 : decode (gb 305) 326 = .ok (.imul, 1) := by decide +kernel
theorem k305_327 : decode (gb 305) 327 = .ok (.iload_n 3, 1) := by decide +kernel
theorem k305_328 : decode (gb 305) 328 = .ok (.invokestatic 228, 3) := by decide +kernel
theorem k305_331 : decode (gb 305) 331 = .ok (.aload_n 0, 1) := by decide +kernel
theorem k305_332 : decode (gb 305) 332 = .ok (.getfield 435, 3) := by decide +kernel
theorem k305_335 : decode (gb 305) 335 = .ok (.aload_n 0, 1) := by decide +kernel
theorem k305_336 : decode (gb 305) 336 = .ok (.getfield 426, 3) := by decide +kernel
theorem k305_339 : decode (gb 305) 339 = .ok (.iload_n 3, 1) := by decide +kernel
theorem k305_340 : decode (gb 305) 340 = .ok (.iastore, 1) := by decide +kernel
theorem k305_341 : decode (gb 305) 341 = .ok (.aload_n 0, 1) := by decide +kernel
theorem k305_342 : decode (gb 305) 342 = .ok (.dup, 1) := by decide +kernel
theorem k305_343 : decode (gb 305) 343 = .ok (.getfield 426, 3) := by decide +kernel
theorem k305_346 : decode (gb 305) 346 = .ok (.iconst 1, 1) := by decide +kernel
theorem k305_347 : decode (gb 305) 347 = .ok (.iadd, 1) := by decide +kernel
theorem k305_348 : decode (gb 305) 348 = .ok (.putfield 426, 3) := by decide +kernel
theorem k305_351 : decode (gb 305) 351 = .ok (.return_, 1) := by decide +kernel
def c305_283 (kl250 : Int32 → Int32 → Int32 → Int32 → Mem → Option (Mem)) (v1 : Int32) (v2 : Int32) (v3 : Int32) (v5 : Int32) (μ : Mem) : Option (Mem) :=
  nm (v5 + (1 : Int32)) fun x1 =>
  kl250 v1 v2 v3 x1 μ
theorem c305_283_ok {L : Nat} (kl250 : Int32 → Int32 → Int32 → Int32 → Mem → Option (Mem)) (hk250 : (∀ (v1 : Int32) (v2 : Int32) (v3 : Int32) (v5 : Int32) (μ : Mem) (res : Mem), kl250 v1 v2 v3 v5 μ = some res → Sx 305 250 [(0, .ref 129), (1, .int v1), (2, .int v2), (3, .int v3), (5, .int v5)] [] 0 0 (mk L μ) (mk L res, none))) (v1 : Int32) (v2 : Int32) (v3 : Int32) (v5 : Int32) (μ : Mem) (res : Mem) (h : c305_283 kl250 v1 v2 v3 v5 μ = some res) : Sx 305 283 [(0, .ref 129), (1, .int v1), (2, .int v2), (3, .int v3), (5, .int v5)] [] 0 0 (mk L μ) (mk L res, none) := by
  unfold c305_283 at h
  refine cx_iinc (c := 1) (lo2 := fun x1 => [(5, .int x1), (0, .ref 129), (1, .int v1), (2, .int v2), (3, .int v3)]) k305_283 rfl (by decide) (by rw [mx_305]; decide) (fun _ => rfl) h (fun x1 h => ?_)
  refine sx_goto (tgt := 250) k305_286 (by decide) ?_
  refine sx_pick (lo2 := [(0, .ref 129), (1, .int v1), (2, .int v2), (3, .int v3), (5, .int x1)]) [1, 2, 3, 4, 0] rfl ?_
  exact hk250 v1 v2 v3 x1 _ _ h
def b305_250 (kl250 : Int32 → Int32 → Int32 → Int32 → Mem → Option (Mem)) (v1 : Int32) (v2 : Int32) (v3 : Int32) (v5 : Int32) (μ : Mem) : Option (Mem) :=
  if (2 : Int32) ≤ v5 then
    if (μ.1 129 86) = (24 : Int32) then
      (pfI 129 87 ((μ.1 129 87) + (1 : Int32)) μ).bind fun m9 =>
      some m9
    else
      (f273 164 (0 : Int32) 165 ((100 : Int32) * (μ.1 129 86)) v3 μ).bind fun r3 =>
      (stA 166 (r3.1 129 86) v3 r3).bind fun m5 =>
      (pfI 129 86 ((m5.1 129 86) + (1 : Int32)) m5).bind fun m7 =>
      some m7
  else
    (ldA 170 v5 μ).bind fun x11 =>
    if x11 = 0 then
      c305_283 kl250 v1 v2 v3 v5 μ
    else
      (f306 v5 v1 v2 μ).bind fun r14 =>
      if r14.2 = 0 then
        c305_283 kl250 v1 v2 v3 v5 r14.1
      else
        (f307 v5 r14.1).bind fun r17 =>
        c305_283 kl250 v1 v2 v3 v5 r17
theorem b305_250_ok {L : Nat} (kl250 : Int32 → Int32 → Int32 → Int32 → Mem → Option (Mem)) (hk250 : (∀ (v1 : Int32) (v2 : Int32) (v3 : Int32) (v5 : Int32) (μ : Mem) (res : Mem), kl250 v1 v2 v3 v5 μ = some res → Sx 305 250 [(0, .ref 129), (1, .int v1), (2, .int v2), (3, .int v3), (5, .int v5)] [] 0 0 (mk L μ) (mk L res, none))) (v1 : Int32) (v2 : Int32) (v3 : Int32) (v5 : Int32) (μ : Mem) (res : Mem) (h : b305_250 kl250 v1 v2 v3 v5 μ = some res) : Sx 305 250 [(0, .ref 129), (1, .int v1), (2, .int v2), (3, .int v3), (5, .int v5)] [] 0 0 (mk L μ) (mk L res, none) := by
  unfold b305_250 at h
  refine sx_iload k305_250 rfl ?_
  refine sx_iconst (v := 2) k305_252 (by decide) ?_
  by_cases hb1 : (2 : Int32) ≤ v5
  · rw [if_pos hb1] at h
    refine sx_icmp_ge (tgt := 289) k305_253 (by decide) (fun _ => ?_) (fun q => absurd hb1 q)
    refine sx_aload_n (i := 0) k305_289 rfl rfl ?_
    refine cx_getI (k := 86) k305_290 ow_305 fl_12_426 (by decide) sk_129 ft_11_86 ?_
    refine sx_bipush (v := 24) k305_293 (by decide) ?_
    by_cases hb2 : (μ.1 129 86) = (24 : Int32)
    · rw [if_pos hb2] at h
      refine sx_icmp_ne (tgt := 311) k305_295 (by decide) (fun q => absurd hb2 q) (fun _ => ?_)
      refine sx_aload_n (i := 0) k305_298 rfl rfl ?_
      refine sx_dup k305_299 rfl ?_
      refine cx_getI (k := 87) k305_300 ow_305 fl_12_429 (by decide) sk_129 ft_11_87 ?_
      refine sx_iconst (v := 1) k305_303 (by decide) ?_
      refine sx_iadd k305_304 ?_
      obtain ⟨m9, e10, h⟩ := Option.bind_eq_some_iff.mp h
      refine cx_putI (k := 87) k305_305 ow_305 fl_12_429 (by decide) sk_129 nf_11_87 fu_11_87 e10 ?_
      refine sx_goto (tgt := 351) k305_308 (by decide) ?_
      exact cx_retv k305_351 rt_305 h
    · rw [if_neg hb2] at h
      refine sx_icmp_ne (tgt := 311) k305_295 (by decide) (fun _ => ?_) (fun q => absurd q hb2)
      refine sx_aload_n (i := 0) k305_311 rfl rfl ?_
      refine cx_getR (k := 82) k305_312 ow_305 fl_12_408 (by decide) sk_129 ft_11_82 sr_129_82 ?_
      refine sx_iconst (v := 0) k305_315 (by decide) ?_
      refine sx_aload_n (i := 0) k305_316 rfl rfl ?_
      refine cx_getR (k := 84) k305_317 ow_305 fl_12_432 (by decide) sk_129 ft_11_84 sr_129_84 ?_
      refine sx_bipush (v := 100) k305_320 (by decide) ?_
      refine sx_aload_n (i := 0) k305_322 rfl rfl ?_
      refine cx_getI (k := 86) k305_323 ow_305 fl_12_426 (by decide) sk_129 ft_11_86 ?_
      refine sx_imul k305_326 ?_
      refine sx_iload_n (i := 3) k305_327 rfl rfl ?_
      obtain ⟨r3, e4, h⟩ := Option.bind_eq_some_iff.mp h
      refine cx_S (sk := []) (vs := [.ref 164, .int (0 : Int32), .ref 165, .int ((100 : Int32) * (μ.1 129 86)), .int v3]) st_305_273 k305_328 ow_305 cl_12_228 (by decide) rfl (Nat.le_of_ble_eq_true rfl) (ok273 164 (0 : Int32) 165 ((100 : Int32) * (μ.1 129 86)) v3 sk_164 sk_165 _ _ e4) (sk3 := []) rfl rfl ?_
      refine sx_aload_n (i := 0) k305_331 rfl rfl ?_
      refine cx_getR (k := 85) k305_332 ow_305 fl_12_435 (by decide) sk_129 ft_11_85 sr_129_85 ?_
      refine sx_aload_n (i := 0) k305_335 rfl rfl ?_
      refine cx_getI (k := 86) k305_336 ow_305 fl_12_426 (by decide) sk_129 ft_11_86 ?_
      refine sx_iload_n (i := 3) k305_339 rfl rfl ?_
      obtain ⟨m5, e6, h⟩ := Option.bind_eq_some_iff.mp h
      refine cx_iast k305_340 sk_166 e6 ?_
      refine sx_aload_n (i := 0) k305_341 rfl rfl ?_
      refine sx_dup k305_342 rfl ?_
      refine cx_getI (k := 86) k305_343 ow_305 fl_12_426 (by decide) sk_129 ft_11_86 ?_
      refine sx_iconst (v := 1) k305_346 (by decide) ?_
      refine sx_iadd k305_347 ?_
      obtain ⟨m7, e8, h⟩ := Option.bind_eq_some_iff.mp h
      refine cx_putI (k := 86) k305_348 ow_305 fl_12_426 (by decide) sk_129 nf_11_86 fu_11_86 e8 ?_
      exact cx_retv k305_351 rt_305 h
  · rw [if_neg hb1] at h
    refine sx_icmp_ge (tgt := 289) k305_253 (by decide) (fun q => absurd q hb1) (fun _ => ?_)
    refine sx_aload_n (i := 0) k305_256 rfl rfl ?_
    refine cx_getR (k := 92) k305_257 ow_305 fl_12_417 (by decide) sk_129 ft_11_92 sr_129_92 ?_
    refine sx_iload k305_260 rfl ?_
    obtain ⟨x11, e12, h⟩ := Option.bind_eq_some_iff.mp h
    refine cx_bald k305_262 (Or.inr sk_170) e12 ?_
    by_cases hb13 : x11 = 0
    · rw [if_pos hb13] at h
      refine sx_if_eq (tgt := 283) k305_263 (by decide) (fun _ => ?_) (fun q => absurd hb13 q)
      refine sx_pick (lo2 := [(0, .ref 129), (1, .int v1), (2, .int v2), (3, .int v3), (5, .int v5)]) [0, 1, 2, 3, 4] rfl ?_
      exact c305_283_ok kl250 hk250 v1 v2 v3 v5 _ _ h
    · rw [if_neg hb13] at h
      refine sx_if_eq (tgt := 283) k305_263 (by decide) (fun q => absurd q hb13) (fun _ => ?_)
      refine sx_aload_n (i := 0) k305_266 rfl rfl ?_
      refine sx_iload k305_267 rfl ?_
      refine sx_iload_n (i := 1) k305_269 rfl rfl ?_
      refine sx_iload_n (i := 2) k305_270 rfl rfl ?_
      obtain ⟨r14, e15, h⟩ := Option.bind_eq_some_iff.mp h
      refine cx_V (sk := []) (vs := [.int v5, .int v1, .int v2]) st_305_306 k305_271 ow_305 cl_12_420 (by decide) rfl (Nat.le_of_ble_eq_true rfl) sk_129 (ok306 v5 v1 v2 _ _ e15) (sk3 := [.int r14.2]) rfl rfl ?_
      by_cases hb16 : r14.2 = 0
      · rw [if_pos hb16] at h
        refine sx_if_eq (tgt := 283) k305_274 (by decide) (fun _ => ?_) (fun q => absurd hb16 q)
        refine sx_pick (lo2 := [(0, .ref 129), (1, .int v1), (2, .int v2), (3, .int v3), (5, .int v5)]) [0, 1, 2, 3, 4] rfl ?_
        exact c305_283_ok kl250 hk250 v1 v2 v3 v5 _ _ h
      · rw [if_neg hb16] at h
        refine sx_if_eq (tgt := 283) k305_274 (by decide) (fun q => absurd q hb16) (fun _ => ?_)
        refine sx_aload_n (i := 0) k305_277 rfl rfl ?_
        refine sx_iload k305_278 rfl ?_
        obtain ⟨r17, e18, h⟩ := Option.bind_eq_some_iff.mp h
        refine cx_V (sk := []) (vs := [.int v5]) st_305_307 k305_280 ow_305 cl_12_423 (by decide) rfl (Nat.le_of_ble_eq_true rfl) sk_129 (ok307 v5 _ _ e18) (sk3 := []) rfl rfl ?_
        refine sx_pick (lo2 := [(0, .ref 129), (1, .int v1), (2, .int v2), (3, .int v3), (5, .int v5)]) [0, 1, 2, 3, 4] rfl ?_
        exact c305_283_ok kl250 hk250 v1 v2 v3 v5 _ _ h
def l305_250 : Nat → Int32 × Int32 × Int32 × Int32 × Mem → Option (Mem) :=
  fixN (fun self x => b305_250 (fun v1 v2 v3 v5 μ => self (v1, v2, v3, v5, μ)) (x.1) (x.2.1) (x.2.2.1) (x.2.2.2.1) (x.2.2.2.2))
theorem l305_250_ok {L : Nat} (n : Nat) (v1 : Int32) (v2 : Int32) (v3 : Int32) (v5 : Int32) (μ : Mem) (res : Mem) (h : l305_250 n (v1, v2, v3, v5, μ) = some res) : Sx 305 250 [(0, .ref 129), (1, .int v1), (2, .int v2), (3, .int v3), (5, .int v5)] [] 0 0 (mk L μ) (mk L res, none) := by
  have key := fixN_ind (P := fun x res => Sx 305 250 [(0, .ref 129), (1, .int (x.1)), (2, .int (x.2.1)), (3, .int (x.2.2.1)), (5, .int (x.2.2.2.1))] [] 0 0 (mk L (x.2.2.2.2)) (mk L res, none)) (F := fun self x => b305_250 (fun v1 v2 v3 v5 μ => self (v1, v2, v3, v5, μ)) (x.1) (x.2.1) (x.2.2.1) (x.2.2.2.1) (x.2.2.2.2)) (fun self hself x res h => b305_250_ok (fun v1 v2 v3 v5 μ => self (v1, v2, v3, v5, μ)) (fun v1 v2 v3 v5 μ res hh => hself (v1, v2, v3, v5, μ) res hh) (x.1) (x.2.1) (x.2.2.1) (x.2.2.2.1) (x.2.2.2.2) res h) n (v1, v2, v3, v5, μ) res h
  exact key
def b305_155 (kl155 : Int32 → Int32 → Int32 → Int32 → Mem → Option (Mem)) (v1 : Int32) (v2 : Int32) (v3 : Int32) (v4 : Int32) (μ : Mem) : Option (Mem) :=
  if (μ.1 129 80) ≤ v4 then
    (f245 164 (0 : Int32) (v3 - (2 : Int32)) μ).bind fun r2 =>
    (stA 164 (v3 - (2 : Int32)) (jshr r2.2 (8 : Int32)) r2.1).bind fun m4 =>
    (stA 164 (v3 - (1 : Int32)) (r2.2 &&& (255 : Int32)) m4).bind fun m6 =>
    (pfI 129 83 v3 m6).bind fun m8 =>
    (pfI 129 81 ((m8.1 129 81) + (1 : Int32)) m8).bind fun m10 =>
    (pfI 129 80 (0 : Int32) m10).bind fun m12 =>
    l305_250 gF (v1, v2, v3, (0 : Int32), m12)
  else
    (ldA 163 v4 μ).bind fun x14 =>
    (stA 164 ((13 : Int32) + v4) x14 μ).bind fun m16 =>
    nm (v4 + (1 : Int32)) fun x18 =>
    kl155 v1 v2 v3 x18 m16
theorem b305_155_ok {L : Nat} (kl155 : Int32 → Int32 → Int32 → Int32 → Mem → Option (Mem)) (hk155 : (∀ (v1 : Int32) (v2 : Int32) (v3 : Int32) (v4 : Int32) (μ : Mem) (res : Mem), kl155 v1 v2 v3 v4 μ = some res → Sx 305 155 [(0, .ref 129), (1, .int v1), (2, .int v2), (3, .int v3), (4, .int v4)] [] 0 0 (mk L μ) (mk L res, none))) (v1 : Int32) (v2 : Int32) (v3 : Int32) (v4 : Int32) (μ : Mem) (res : Mem) (h : b305_155 kl155 v1 v2 v3 v4 μ = some res) : Sx 305 155 [(0, .ref 129), (1, .int v1), (2, .int v2), (3, .int v3), (4, .int v4)] [] 0 0 (mk L μ) (mk L res, none) := by
  unfold b305_155 at h
  refine sx_iload k305_155 rfl ?_
  refine sx_aload_n (i := 0) k305_157 rfl rfl ?_
  refine cx_getI (k := 80) k305_158 ow_305 fl_12_399 (by decide) sk_129 ft_11_80 ?_
  by_cases hb1 : (μ.1 129 80) ≤ v4
  · rw [if_pos hb1] at h
    refine sx_icmp_ge (tgt := 187) k305_161 (by decide) (fun _ => ?_) (fun q => absurd hb1 q)
    refine sx_aload_n (i := 0) k305_187 rfl rfl ?_
    refine cx_getR (k := 82) k305_188 ow_305 fl_12_408 (by decide) sk_129 ft_11_82 sr_129_82 ?_
    refine sx_iconst (v := 0) k305_191 (by decide) ?_
    refine sx_iload_n (i := 3) k305_192 rfl rfl ?_
    refine sx_iconst (v := 2) k305_193 (by decide) ?_
    refine sx_isub k305_194 ?_
    obtain ⟨r2, e3, h⟩ := Option.bind_eq_some_iff.mp h
    refine cx_S (sk := []) (vs := [.ref 164, .int (0 : Int32), .int (v3 - (2 : Int32))]) st_305_245 k305_195 ow_305 cl_12_11 (by decide) rfl (Nat.le_of_ble_eq_true rfl) (ok245 164 (0 : Int32) (v3 - (2 : Int32)) sk_164 _ _ e3) (sk3 := [.int r2.2]) rfl rfl ?_
    refine cx_istore (lo2 := [(4, .int r2.2), (0, .ref 129), (1, .int v1), (2, .int v2), (3, .int v3)]) k305_198 (by rw [mx_305]; decide) rfl ?_
    refine sx_aload_n (i := 0) k305_200 rfl rfl ?_
    refine cx_getR (k := 82) k305_201 ow_305 fl_12_408 (by decide) sk_129 ft_11_82 sr_129_82 ?_
    refine sx_iload_n (i := 3) k305_204 rfl rfl ?_
    refine sx_iconst (v := 2) k305_205 (by decide) ?_
    refine sx_isub k305_206 ?_
    refine sx_iload k305_207 rfl ?_
    refine sx_bipush (v := 8) k305_209 (by decide) ?_
    refine sx_ishr k305_211 ?_
    obtain ⟨m4, e5, h⟩ := Option.bind_eq_some_iff.mp h
    refine cx_iast k305_212 sk_164 e5 ?_
    refine sx_aload_n (i := 0) k305_213 rfl rfl ?_
    refine cx_getR (k := 82) k305_214 ow_305 fl_12_408 (by decide) sk_129 ft_11_82 sr_129_82 ?_
    refine sx_iload_n (i := 3) k305_217 rfl rfl ?_
    refine sx_iconst (v := 1) k305_218 (by decide) ?_
    refine sx_isub k305_219 ?_
    refine sx_iload k305_220 rfl ?_
    refine sx_sipush (v := 255) k305_222 (by decide) ?_
    refine sx_iand k305_225 ?_
    obtain ⟨m6, e7, h⟩ := Option.bind_eq_some_iff.mp h
    refine cx_iast k305_226 sk_164 e7 ?_
    refine sx_aload_n (i := 0) k305_227 rfl rfl ?_
    refine sx_iload_n (i := 3) k305_228 rfl rfl ?_
    obtain ⟨m8, e9, h⟩ := Option.bind_eq_some_iff.mp h
    refine cx_putI (k := 83) k305_229 ow_305 fl_12_414 (by decide) sk_129 nf_11_83 fu_11_83 e9 ?_
    refine sx_aload_n (i := 0) k305_232 rfl rfl ?_
    refine sx_dup k305_233 rfl ?_
    refine cx_getI (k := 81) k305_234 ow_305 fl_12_411 (by decide) sk_129 ft_11_81 ?_
    refine sx_iconst (v := 1) k305_237 (by decide) ?_
    refine sx_iadd k305_238 ?_
    obtain ⟨m10, e11, h⟩ := Option.bind_eq_some_iff.mp h
    refine cx_putI (k := 81) k305_239 ow_305 fl_12_411 (by decide) sk_129 nf_11_81 fu_11_81 e11 ?_
    refine sx_aload_n (i := 0) k305_242 rfl rfl ?_
    refine sx_iconst (v := 0) k305_243 (by decide) ?_
    obtain ⟨m12, e13, h⟩ := Option.bind_eq_some_iff.mp h
    refine cx_putI (k := 80) k305_244 ow_305 fl_12_399 (by decide) sk_129 nf_11_80 fu_11_80 e13 ?_
    refine sx_iconst (v := 0) k305_247 (by decide) ?_
    refine cx_istore (lo2 := [(5, .int (0 : Int32)), (4, .int r2.2), (0, .ref 129), (1, .int v1), (2, .int v2), (3, .int v3)]) k305_248 (by rw [mx_305]; decide) rfl ?_
    refine sx_pick (lo2 := [(0, .ref 129), (1, .int v1), (2, .int v2), (3, .int v3), (5, .int (0 : Int32))]) [2, 3, 4, 5, 0] rfl ?_
    exact l305_250_ok gF v1 v2 v3 (0 : Int32) _ _ h
  · rw [if_neg hb1] at h
    refine sx_icmp_ge (tgt := 187) k305_161 (by decide) (fun q => absurd q hb1) (fun _ => ?_)
    refine sx_aload_n (i := 0) k305_164 rfl rfl ?_
    refine cx_getR (k := 82) k305_165 ow_305 fl_12_408 (by decide) sk_129 ft_11_82 sr_129_82 ?_
    refine sx_bipush (v := 13) k305_168 (by decide) ?_
    refine sx_iload k305_170 rfl ?_
    refine sx_iadd k305_172 ?_
    refine sx_aload_n (i := 0) k305_173 rfl rfl ?_
    refine cx_getR (k := 79) k305_174 ow_305 fl_12_396 (by decide) sk_129 ft_11_79 sr_129_79 ?_
    refine sx_iload k305_177 rfl ?_
    obtain ⟨x14, e15, h⟩ := Option.bind_eq_some_iff.mp h
    refine cx_iald k305_179 sk_163 e15 ?_
    obtain ⟨m16, e17, h⟩ := Option.bind_eq_some_iff.mp h
    refine cx_iast k305_180 sk_164 e17 ?_
    refine cx_iinc (c := 1) (lo2 := fun x18 => [(4, .int x18), (0, .ref 129), (1, .int v1), (2, .int v2), (3, .int v3)]) k305_181 rfl (by decide) (by rw [mx_305]; decide) (fun _ => rfl) h (fun x18 h => ?_)
    refine sx_goto (tgt := 155) k305_184 (by decide) ?_
    refine sx_pick (lo2 := [(0, .ref 129), (1, .int v1), (2, .int v2), (3, .int v3), (4, .int x18)]) [1, 2, 3, 4, 0] rfl ?_
    exact hk155 v1 v2 v3 x18 _ _ h
def l305_155 : Nat → Int32 × Int32 × Int32 × Int32 × Mem → Option (Mem) :=
  fixN (fun self x => b305_155 (fun v1 v2 v3 v4 μ => self (v1, v2, v3, v4, μ)) (x.1) (x.2.1) (x.2.2.1) (x.2.2.2.1) (x.2.2.2.2))
theorem l305_155_ok {L : Nat} (n : Nat) (v1 : Int32) (v2 : Int32) (v3 : Int32) (v4 : Int32) (μ : Mem) (res : Mem) (h : l305_155 n (v1, v2, v3, v4, μ) = some res) : Sx 305 155 [(0, .ref 129), (1, .int v1), (2, .int v2), (3, .int v3), (4, .int v4)] [] 0 0 (mk L μ) (mk L res, none) := by
  have key := fixN_ind (P := fun x res => Sx 305 155 [(0, .ref 129), (1, .int (x.1)), (2, .int (x.2.1)), (3, .int (x.2.2.1)), (4, .int (x.2.2.2.1))] [] 0 0 (mk L (x.2.2.2.2)) (mk L res, none)) (F := fun self x => b305_155 (fun v1 v2 v3 v4 μ => self (v1, v2, v3, v4, μ)) (x.1) (x.2.1) (x.2.2.1) (x.2.2.2.1) (x.2.2.2.2)) (fun self hself x res h => b305_155_ok (fun v1 v2 v3 v4 μ => self (v1, v2, v3, v4, μ)) (fun v1 v2 v3 v4 μ res hh => hself (v1, v2, v3, v4, μ) res hh) (x.1) (x.2.1) (x.2.2.1) (x.2.2.2.1) (x.2.2.2.2) res h) n (v1, v2, v3, v4, μ) res h
  exact key
def b305_113 (kl113 : Int32 → Int32 → Int32 → Int32 → Mem → Option (Mem)) (v1 : Int32) (v2 : Int32) (v3 : Int32) (v4 : Int32) (μ : Mem) : Option (Mem) :=
  if (4 : Int32) ≤ v4 then
    l305_155 gF (v1, v2, v3, (0 : Int32), μ)
  else
    (stA 164 ((9 : Int32) + v4) ((jushr (μ.1 129 77) ((24 : Int32) - ((8 : Int32) * v4))) &&& (255 : Int32)) μ).bind fun m2 =>
    nm (v4 + (1 : Int32)) fun x4 =>
    kl113 v1 v2 v3 x4 m2
theorem b305_113_ok {L : Nat} (kl113 : Int32 → Int32 → Int32 → Int32 → Mem → Option (Mem)) (hk113 : (∀ (v1 : Int32) (v2 : Int32) (v3 : Int32) (v4 : Int32) (μ : Mem) (res : Mem), kl113 v1 v2 v3 v4 μ = some res → Sx 305 113 [(0, .ref 129), (1, .int v1), (2, .int v2), (3, .int v3), (4, .int v4)] [] 0 0 (mk L μ) (mk L res, none))) (v1 : Int32) (v2 : Int32) (v3 : Int32) (v4 : Int32) (μ : Mem) (res : Mem) (h : b305_113 kl113 v1 v2 v3 v4 μ = some res) : Sx 305 113 [(0, .ref 129), (1, .int v1), (2, .int v2), (3, .int v3), (4, .int v4)] [] 0 0 (mk L μ) (mk L res, none) := by
  unfold b305_113 at h
  refine sx_iload k305_113 rfl ?_
  refine sx_iconst (v := 4) k305_115 (by decide) ?_
  by_cases hb1 : (4 : Int32) ≤ v4
  · rw [if_pos hb1] at h
    refine sx_icmp_ge (tgt := 152) k305_116 (by decide) (fun _ => ?_) (fun q => absurd hb1 q)
    refine sx_iconst (v := 0) k305_152 (by decide) ?_
    refine cx_istore (lo2 := [(4, .int (0 : Int32)), (0, .ref 129), (1, .int v1), (2, .int v2), (3, .int v3)]) k305_153 (by rw [mx_305]; decide) rfl ?_
    refine sx_pick (lo2 := [(0, .ref 129), (1, .int v1), (2, .int v2), (3, .int v3), (4, .int (0 : Int32))]) [1, 2, 3, 4, 0] rfl ?_
    exact l305_155_ok gF v1 v2 v3 (0 : Int32) _ _ h
  · rw [if_neg hb1] at h
    refine sx_icmp_ge (tgt := 152) k305_116 (by decide) (fun q => absurd q hb1) (fun _ => ?_)
    refine sx_aload_n (i := 0) k305_119 rfl rfl ?_
    refine cx_getR (k := 82) k305_120 ow_305 fl_12_408 (by decide) sk_129 ft_11_82 sr_129_82 ?_
    refine sx_bipush (v := 9) k305_123 (by decide) ?_
    refine sx_iload k305_125 rfl ?_
    refine sx_iadd k305_127 ?_
    refine sx_aload_n (i := 0) k305_128 rfl rfl ?_
    refine cx_getI (k := 77) k305_129 ow_305 fl_12_405 (by decide) sk_129 ft_11_77 ?_
    refine sx_bipush (v := 24) k305_132 (by decide) ?_
    refine sx_bipush (v := 8) k305_134 (by decide) ?_
    refine sx_iload k305_136 rfl ?_
    refine sx_imul k305_138 ?_
    refine sx_isub k305_139 ?_
    refine sx_iushr k305_140 ?_
    refine sx_sipush (v := 255) k305_141 (by decide) ?_
    refine sx_iand k305_144 ?_
    obtain ⟨m2, e3, h⟩ := Option.bind_eq_some_iff.mp h
    refine cx_iast k305_145 sk_164 e3 ?_
    refine cx_iinc (c := 1) (lo2 := fun x4 => [(4, .int x4), (0, .ref 129), (1, .int v1), (2, .int v2), (3, .int v3)]) k305_146 rfl (by decide) (by rw [mx_305]; decide) (fun _ => rfl) h (fun x4 h => ?_)
    refine sx_goto (tgt := 113) k305_149 (by decide) ?_
    refine sx_pick (lo2 := [(0, .ref 129), (1, .int v1), (2, .int v2), (3, .int v3), (4, .int x4)]) [1, 2, 3, 4, 0] rfl ?_
    exact hk113 v1 v2 v3 x4 _ _ h
def l305_113 : Nat → Int32 × Int32 × Int32 × Int32 × Mem → Option (Mem) :=
  fixN (fun self x => b305_113 (fun v1 v2 v3 v4 μ => self (v1, v2, v3, v4, μ)) (x.1) (x.2.1) (x.2.2.1) (x.2.2.2.1) (x.2.2.2.2))
theorem l305_113_ok {L : Nat} (n : Nat) (v1 : Int32) (v2 : Int32) (v3 : Int32) (v4 : Int32) (μ : Mem) (res : Mem) (h : l305_113 n (v1, v2, v3, v4, μ) = some res) : Sx 305 113 [(0, .ref 129), (1, .int v1), (2, .int v2), (3, .int v3), (4, .int v4)] [] 0 0 (mk L μ) (mk L res, none) := by
  have key := fixN_ind (P := fun x res => Sx 305 113 [(0, .ref 129), (1, .int (x.1)), (2, .int (x.2.1)), (3, .int (x.2.2.1)), (4, .int (x.2.2.2.1))] [] 0 0 (mk L (x.2.2.2.2)) (mk L res, none)) (F := fun self x => b305_113 (fun v1 v2 v3 v4 μ => self (v1, v2, v3, v4, μ)) (x.1) (x.2.1) (x.2.2.1) (x.2.2.2.1) (x.2.2.2.2)) (fun self hself x res h => b305_113_ok (fun v1 v2 v3 v4 μ => self (v1, v2, v3, v4, μ)) (fun v1 v2 v3 v4 μ res hh => hself (v1, v2, v3, v4, μ) res hh) (x.1) (x.2.1) (x.2.2.1) (x.2.2.2.1) (x.2.2.2.2) res h) n (v1, v2, v3, v4, μ) res h
  exact key
/-- CraftHouseModel.make(II)V -/
def f305 (p1 : Int32) (p2 : Int32) (μ : Mem) : Option (Mem) :=
  nm ((15 : Int32) + (μ.1 129 80)) fun x1 =>
  (stA 164 (0 : Int32) (8 : Int32) μ).bind fun m2 =>
  (stA 164 (1 : Int32) (12 : Int32) m2).bind fun m4 =>
  (stA 164 (2 : Int32) ((192 : Int32) ||| ((jshr (m4.1 129 81) (8 : Int32)) &&& (63 : Int32))) m4).bind fun m6 =>
  (stA 164 (3 : Int32) ((m6.1 129 81) &&& (255 : Int32)) m6).bind fun m8 =>
  (stA 164 (4 : Int32) (jshr (x1 - (7 : Int32)) (8 : Int32)) m8).bind fun m10 =>
  (stA 164 (5 : Int32) ((x1 - (7 : Int32)) &&& (255 : Int32)) m10).bind fun m12 =>
  (stA 164 (6 : Int32) (32 : Int32) m12).bind fun m14 =>
  (stA 164 (7 : Int32) p1 m14).bind fun m16 =>
  (stA 164 (8 : Int32) p2 m16).bind fun m18 =>
  l305_113 gF (p1, p2, x1, (0 : Int32), m18)
theorem ok305 {L : Nat} (p1 : Int32) (p2 : Int32) (μ : Mem) (res : Mem) (h : f305 p1 p2 μ = some res) : Mx 305 [.ref 129, .int p1, .int p2] (mk L μ) (mk L res, none) := by
  refine Mx_of ml_305 (by rw [mx_305]; exact Nat.le_of_ble_eq_true rfl) ?_
  show Sx 305 0 [(0, .ref 129), (1, .int p1), (2, .int p2)] [] 0 0 (mk L μ) _
  unfold f305 at h
  refine sx_bipush (v := 15) k305_0 (by decide) ?_
  refine sx_aload_n (i := 0) k305_2 rfl rfl ?_
  refine cx_getI (k := 80) k305_3 ow_305 fl_12_399 (by decide) sk_129 ft_11_80 ?_
  refine sx_iadd k305_6 ?_
  refine cx_nm h (fun x1 h => ?_)
  refine cx_istore_n (lo2 := [(3, .int x1), (0, .ref 129), (1, .int p1), (2, .int p2)]) k305_7 rfl (by rw [mx_305]; decide) rfl ?_
  refine sx_aload_n (i := 0) k305_8 rfl rfl ?_
  refine cx_getR (k := 82) k305_9 ow_305 fl_12_408 (by decide) sk_129 ft_11_82 sr_129_82 ?_
  refine sx_iconst (v := 0) k305_12 (by decide) ?_
  refine sx_bipush (v := 8) k305_13 (by decide) ?_
  obtain ⟨m2, e3, h⟩ := Option.bind_eq_some_iff.mp h
  refine cx_iast k305_15 sk_164 e3 ?_
  refine sx_aload_n (i := 0) k305_16 rfl rfl ?_
  refine cx_getR (k := 82) k305_17 ow_305 fl_12_408 (by decide) sk_129 ft_11_82 sr_129_82 ?_
  refine sx_iconst (v := 1) k305_20 (by decide) ?_
  refine sx_bipush (v := 12) k305_21 (by decide) ?_
  obtain ⟨m4, e5, h⟩ := Option.bind_eq_some_iff.mp h
  refine cx_iast k305_23 sk_164 e5 ?_
  refine sx_aload_n (i := 0) k305_24 rfl rfl ?_
  refine cx_getR (k := 82) k305_25 ow_305 fl_12_408 (by decide) sk_129 ft_11_82 sr_129_82 ?_
  refine sx_iconst (v := 2) k305_28 (by decide) ?_
  refine sx_sipush (v := 192) k305_29 (by decide) ?_
  refine sx_aload_n (i := 0) k305_32 rfl rfl ?_
  refine cx_getI (k := 81) k305_33 ow_305 fl_12_411 (by decide) sk_129 ft_11_81 ?_
  refine sx_bipush (v := 8) k305_36 (by decide) ?_
  refine sx_ishr k305_38 ?_
  refine sx_bipush (v := 63) k305_39 (by decide) ?_
  refine sx_iand k305_41 ?_
  refine sx_ior k305_42 ?_
  obtain ⟨m6, e7, h⟩ := Option.bind_eq_some_iff.mp h
  refine cx_iast k305_43 sk_164 e7 ?_
  refine sx_aload_n (i := 0) k305_44 rfl rfl ?_
  refine cx_getR (k := 82) k305_45 ow_305 fl_12_408 (by decide) sk_129 ft_11_82 sr_129_82 ?_
  refine sx_iconst (v := 3) k305_48 (by decide) ?_
  refine sx_aload_n (i := 0) k305_49 rfl rfl ?_
  refine cx_getI (k := 81) k305_50 ow_305 fl_12_411 (by decide) sk_129 ft_11_81 ?_
  refine sx_sipush (v := 255) k305_53 (by decide) ?_
  refine sx_iand k305_56 ?_
  obtain ⟨m8, e9, h⟩ := Option.bind_eq_some_iff.mp h
  refine cx_iast k305_57 sk_164 e9 ?_
  refine sx_aload_n (i := 0) k305_58 rfl rfl ?_
  refine cx_getR (k := 82) k305_59 ow_305 fl_12_408 (by decide) sk_129 ft_11_82 sr_129_82 ?_
  refine sx_iconst (v := 4) k305_62 (by decide) ?_
  refine sx_iload_n (i := 3) k305_63 rfl rfl ?_
  refine sx_bipush (v := 7) k305_64 (by decide) ?_
  refine sx_isub k305_66 ?_
  refine sx_bipush (v := 8) k305_67 (by decide) ?_
  refine sx_ishr k305_69 ?_
  obtain ⟨m10, e11, h⟩ := Option.bind_eq_some_iff.mp h
  refine cx_iast k305_70 sk_164 e11 ?_
  refine sx_aload_n (i := 0) k305_71 rfl rfl ?_
  refine cx_getR (k := 82) k305_72 ow_305 fl_12_408 (by decide) sk_129 ft_11_82 sr_129_82 ?_
  refine sx_iconst (v := 5) k305_75 (by decide) ?_
  refine sx_iload_n (i := 3) k305_76 rfl rfl ?_
  refine sx_bipush (v := 7) k305_77 (by decide) ?_
  refine sx_isub k305_79 ?_
  refine sx_sipush (v := 255) k305_80 (by decide) ?_
  refine sx_iand k305_83 ?_
  obtain ⟨m12, e13, h⟩ := Option.bind_eq_some_iff.mp h
  refine cx_iast k305_84 sk_164 e13 ?_
  refine sx_aload_n (i := 0) k305_85 rfl rfl ?_
  refine cx_getR (k := 82) k305_86 ow_305 fl_12_408 (by decide) sk_129 ft_11_82 sr_129_82 ?_
  refine sx_bipush (v := 6) k305_89 (by decide) ?_
  refine sx_bipush (v := 32) k305_91 (by decide) ?_
  obtain ⟨m14, e15, h⟩ := Option.bind_eq_some_iff.mp h
  refine cx_iast k305_93 sk_164 e15 ?_
  refine sx_aload_n (i := 0) k305_94 rfl rfl ?_
  refine cx_getR (k := 82) k305_95 ow_305 fl_12_408 (by decide) sk_129 ft_11_82 sr_129_82 ?_
  refine sx_bipush (v := 7) k305_98 (by decide) ?_
  refine sx_iload_n (i := 1) k305_100 rfl rfl ?_
  obtain ⟨m16, e17, h⟩ := Option.bind_eq_some_iff.mp h
  refine cx_iast k305_101 sk_164 e17 ?_
  refine sx_aload_n (i := 0) k305_102 rfl rfl ?_
  refine cx_getR (k := 82) k305_103 ow_305 fl_12_408 (by decide) sk_129 ft_11_82 sr_129_82 ?_
  refine sx_bipush (v := 8) k305_106 (by decide) ?_
  refine sx_iload_n (i := 2) k305_108 rfl rfl ?_
  obtain ⟨m18, e19, h⟩ := Option.bind_eq_some_iff.mp h
  refine cx_iast k305_109 sk_164 e19 ?_
  refine sx_iconst (v := 0) k305_110 (by decide) ?_
  refine cx_istore (lo2 := [(4, .int (0 : Int32)), (3, .int x1), (0, .ref 129), (1, .int p1), (2, .int p2)]) k305_111 (by rw [mx_305]; decide) rfl ?_
  refine sx_pick (lo2 := [(0, .ref 129), (1, .int p1), (2, .int p2), (3, .int x1), (4, .int (0 : Int32))]) [2, 3, 4, 1, 0] rfl ?_
  exact l305_113_ok gF p1 p2 x1 (0 : Int32) _ _ h
theorem k318_0 : decode (gb 318) 0 = .ok (.aload_n 0, 1) := by decide +kernel
theorem k318_1 : decode (gb 318) 1 = .ok (.iload_n 2, 1) := by decide +kernel
theorem k318_2 : decode (gb 318) 2 = .ok (.iconst 1, 1) := by decide +kernel
theorem k318_3 : decode (gb 318) 3 = .ok (.invokevirtual 501, 3) := by decide +kernel
theorem k318_6 : decode (gb 318) 6 = .ok (.aload_n 0, 1) := by decide +kernel
theorem k318_7 : decode (gb 318) 7 = .ok (.iload_n 3, 1) := by decide +kernel
theorem k318_8 : decode (gb 318) 8 = .ok (.iconst 1, 1) := by decide +kernel
theorem k318_9 : decode (gb 318) 9 = .ok (.invokevirtual 501, 3) := by decide +kernel
theorem k318_12 : decode (gb 318) 12 = .ok (.iload 4, 2) := by decide +kernel
theorem k318_14 : decode (gb 318) 14 = .ok (.ifCond .le 10, 3) := by decide +kernel
theorem k318_17 : decode (gb 318) 17 = .ok (.aload_n 0, 1) := by decide +kernel
theorem k318_18 : decode (gb 318) 18 = .ok (.iload 4, 2) := by decide +kernel
theorem k318_20 : decode (gb 318) 20 = .ok (.iconst 1, 1) := by decide +kernel
theorem k318_21 : decode (gb 318) 21 = .ok (.invokevirtual 501, 3) := by decide +kernel
theorem k318_24 : decode (gb 318) 24 = .ok (.aload_n 0, 1) := by decide +kernel
theorem k318_25 : decode (gb 318) 25 = .ok (.iconst 1, 1) := by decide +kernel
theorem k318_26 : decode (gb 318) 26 = .ok (.iload_n 1, 1) := by decide +kernel
theorem k318_27 : decode (gb 318) 27 = .ok (.invokevirtual 504, 3) := by decide +kernel
theorem k318_30 : decode (gb 318) 30 = .ok (.return_, 1) := by decide +kernel
def c318_24 (v1 : Int32) (μ : Mem) : Option (Mem) :=
  (f305 (1 : Int32) v1 μ).bind fun r1 =>
  some r1
theorem c318_24_ok {L : Nat} (v1 : Int32) (μ : Mem) (res : Mem) (h : c318_24 v1 μ = some res) : Sx 318 24 [(0, .ref 129), (1, .int v1)] [] 0 0 (mk L μ) (mk L res, none) := by
  unfold c318_24 at h
  refine sx_aload_n (i := 0) k318_24 rfl rfl ?_
  refine sx_iconst (v := 1) k318_25 (by decide) ?_
  refine sx_iload_n (i := 1) k318_26 rfl rfl ?_
  obtain ⟨r1, e2, h⟩ := Option.bind_eq_some_iff.mp h
  refine cx_V (sk := []) (vs := [.int (1 : Int32), .int v1]) st_318_305 k318_27 ow_318 cl_12_504 (by decide) rfl (Nat.le_of_ble_eq_true rfl) sk_129 (ok305 (1 : Int32) v1 _ _ e2) (sk3 := []) rfl rfl ?_
  exact cx_retv k318_30 rt_318 h
/-- CraftHouseModel.verified(IIII)V -/
def f318 (p1 : Int32) (p2 : Int32) (p3 : Int32) (p4 : Int32) (μ : Mem) : Option (Mem) :=
  (f303 p2 (1 : Int32) μ).bind fun r1 =>
  (f303 p3 (1 : Int32) r1).bind fun r3 =>
  if p4 ≤ 0 then
    c318_24 p1 r3
  else
    (f303 p4 (1 : Int32) r3).bind fun r6 =>
    c318_24 p1 r6
theorem ok318 {L : Nat} (p1 : Int32) (p2 : Int32) (p3 : Int32) (p4 : Int32) (μ : Mem) (res : Mem) (h : f318 p1 p2 p3 p4 μ = some res) : Mx 318 [.ref 129, .int p1, .int p2, .int p3, .int p4] (mk L μ) (mk L res, none) := by
  refine Mx_of ml_318 (by rw [mx_318]; exact Nat.le_of_ble_eq_true rfl) ?_
  show Sx 318 0 [(0, .ref 129), (1, .int p1), (2, .int p2), (3, .int p3), (4, .int p4)] [] 0 0 (mk L μ) _
  unfold f318 at h
  refine sx_aload_n (i := 0) k318_0 rfl rfl ?_
  refine sx_iload_n (i := 2) k318_1 rfl rfl ?_
  refine sx_iconst (v := 1) k318_2 (by decide) ?_
  obtain ⟨r1, e2, h⟩ := Option.bind_eq_some_iff.mp h
  refine cx_V (sk := []) (vs := [.int p2, .int (1 : Int32)]) st_318_303 k318_3 ow_318 cl_12_501 (by decide) rfl (Nat.le_of_ble_eq_true rfl) sk_129 (ok303 p2 (1 : Int32) _ _ e2) (sk3 := []) rfl rfl ?_
  refine sx_aload_n (i := 0) k318_6 rfl rfl ?_
  refine sx_iload_n (i := 3) k318_7 rfl rfl ?_
  refine sx_iconst (v := 1) k318_8 (by decide) ?_
  obtain ⟨r3, e4, h⟩ := Option.bind_eq_some_iff.mp h
  refine cx_V (sk := []) (vs := [.int p3, .int (1 : Int32)]) st_318_303 k318_9 ow_318 cl_12_501 (by decide) rfl (Nat.le_of_ble_eq_true rfl) sk_129 (ok303 p3 (1 : Int32) _ _ e4) (sk3 := []) rfl rfl ?_
  refine sx_iload k318_12 rfl ?_
  by_cases hb5 : p4 ≤ 0
  · rw [if_pos hb5] at h
    refine sx_if_le (tgt := 24) k318_14 (by decide) (fun _ => ?_) (fun q => absurd hb5 q)
    refine sx_pick (lo2 := [(0, .ref 129), (1, .int p1)]) [0, 1] rfl ?_
    exact c318_24_ok p1 _ _ h
  · rw [if_neg hb5] at h
    refine sx_if_le (tgt := 24) k318_14 (by decide) (fun q => absurd q hb5) (fun _ => ?_)
    refine sx_aload_n (i := 0) k318_17 rfl rfl ?_
    refine sx_iload k318_18 rfl ?_
    refine sx_iconst (v := 1) k318_20 (by decide) ?_
    obtain ⟨r6, e7, h⟩ := Option.bind_eq_some_iff.mp h
    refine cx_V (sk := []) (vs := [.int p4, .int (1 : Int32)]) st_318_303 k318_21 ow_318 cl_12_501 (by decide) rfl (Nat.le_of_ble_eq_true rfl) sk_129 (ok303 p4 (1 : Int32) _ _ e7) (sk3 := []) rfl rfl ?_
    refine sx_pick (lo2 := [(0, .ref 129), (1, .int p1)]) [0, 1] rfl ?_
    exact c318_24_ok p1 _ _ h
theorem k317_0 : decode (gb 317) 0 = .ok (.aload_n 0, 1) := by decide +kernel
theorem k317_1 : decode (gb 317) 1 = .ok (.invokevirtual 484, 3) := by decide +kernel
theorem k317_4 : decode (gb 317) 4 = .ok (.istore_n 2, 1) := by decide +kernel
theorem k317_5 : decode (gb 317) 5 = .ok (.aload_n 0, 1) := by decide +kernel
theorem k317_6 : decode (gb 317) 6 = .ok (.getfield 164, 3) := by decide +kernel
theorem k317_9 : decode (gb 317) 9 = .ok (.iconst 2, 1) := by decide +kernel
theorem k317_10 : decode (gb 317) 10 = .ok (.if_icmp .le 12, 3) := by decide +kernel
theorem k317_13 : decode (gb 317) 13 = .ok (.aload_n 0, 1) := by decide +kernel
theorem k317_14 : decode (gb 317) 14 = .ok (.getfield 167, 3) := by decide +kernel
theorem k317_17 : decode (gb 317) 17 = .ok (.iconst 2, 1) := by decide +kernel
theorem k317_18 : decode (gb 317) 18 = .ok (.iaload, 1) := by decide +kernel
theorem k317_19 : decode (gb 317) 19 = .ok (.goto 4, 3) := by decide +kernel
theorem k317_22 : decode (gb 317) 22 = .ok (.iconst 0, 1) := by decide +kernel
theorem k317_23 : decode (gb 317) 23 = .ok (.istore_n 3, 1) := by decide +kernel
theorem k317_24 : decode (gb 317) 24 = .ok (.aload_n 0, 1) := by decide +kernel
theorem k317_25 : decode (gb 317) 25 = .ok (.getfield 164, 3) := by decide +kernel
theorem k317_28 : decode (gb 317) 28 = .ok (.iconst 3, 1) := by decide +kernel
theorem k317_29 : decode (gb 317) 29 = .ok (.if_icmp .le 12, 3) := by decide +kernel
theorem k317_32 : decode (gb 317) 32 = .ok (.aload_n 0, 1) := by decide +kernel
theorem k317_33 : decode (gb 317) 33 = .ok (.getfield 167, 3) := by decide +kernel
theorem k317_36 : decode (gb 317) 36 = .ok (.iconst 3, 1) := by decide +kernel
theorem k317_37 : decode (gb 317) 37 = .ok (.iaload, 1) := by decide +kernel
theorem k317_38 : decode (gb 317) 38 = .ok (.goto 4, 3) := by decide +kernel
theorem k317_41 : decode (gb 317) 41 = .ok (.iconst 0, 1) := by decide +kernel
theorem k317_42 : decode (gb 317) 42 = .ok (.istore 4, 2) := by decide +kernel
theorem k317_44 : decode (gb 317) 44 = .ok (.iload_n 2, 1) := by decide +kernel
theorem k317_45 : decode (gb 317) 45 = .ok (.ifCond .le 24, 3) := by decide +kernel
theorem k317_48 : decode (gb 317) 48 = .ok (.aload_n 0, 1) := by decide +kernel
theorem k317_49 : decode (gb 317) 49 = .ok (.getfield 126, 3) := by decide +kernel
theorem k317_52 : decode (gb 317) 52 = .ok (.bipush 18, 2) := by decide +kernel
theorem k317_54 : decode (gb 317) 54 = .ok (.dup2, 1) := by decide +kernel
theorem k317_55 : decode (gb 317) 55 = .ok (.iaload, 1) := by decide +kernel
theorem k317_56 : decode (gb 317) 56 = .ok (.iconst 1, 1) := by decide +kernel
theorem k317_57 : decode (gb 317) 57 = .ok (.iadd, 1) := by decide +kernel
theorem k317_58 : decode (gb 317) 58 = .ok (.iastore, 1) := by decide +kernel
theorem k317_59 : decode (gb 317) 59 = .ok (.aload_n 0, 1) := by decide +kernel
theorem k317_60 : decode (gb 317) 60 = .ok (.iconst 2, 1) := by decide +kernel
theorem k317_61 : decode (gb 317) 61 = .ok (.iload_n 3, 1) := by decide +kernel
theorem k317_62 : decode (gb 317) 62 = .ok (.iload 4, 2) := by decide +kernel
theorem k317_64 : decode (gb 317) 64 = .ok (.iload_n 2, 1) := by decide +kernel
theorem k317_65 : decode (gb 317) 65 = .ok (.invokevirtual 488, 3) := by decide +kernel
theorem k317_68 : decode (gb 317) 68 = .ok (.return_, 1) := by decide +kernel
theorem k317_69 : decode (gb 317) 69 = .ok (.aload_n 0, 1) := by decide +kernel
theorem k317_70 : decode (gb 317) 70 = .ok (.getfield 167, 3) := by decide +kernel
theorem k317_73 : decode (gb 317) 73 = .ok (.bipush 6, 2) := by decide +kernel
theorem k317_75 : decode (gb 317) 75 = .ok (.iaload, 1) := by decide +kernel
theorem k317_76 : decode (gb 317) 76 = .ok (.bipush 8, 2) := by decide +kernel
theorem k317_78 : decode (gb 317) 78 = .ok (.iand, 1) := by decide +kernel
theorem k317_79 : decode (gb 317) 79 = .ok (.ifCond .eq 12, 3) := by decide +kernel
theorem k317_82 : decode (gb 317) 82 = .ok (.aload_n 0, 1) := by decide +kernel
theorem k317_83 : decode (gb 317) 83 = .ok (.iconst 1, 1) := by decide +kernel
theorem k317_84 : decode (gb 317) 84 = .ok (.iload_n 3, 1) := by decide +kernel
theorem k317_85 : decode (gb 317) 85 = .ok (.iload 4, 2) := by decide +kernel
theorem k317_87 : decode (gb 317) 87 = .ok (.iconst 0, 1) := by decide +kernel
theorem k317_88 : decode (gb 317) 88 = .ok (.invokevirtual 488, 3) := by decide +kernel
theorem k317_91 : decode (gb 317) 91 = .ok (.aload_n 0, 1) := by decide +kernel
theorem k317_92 : decode (gb 317) 92 = .ok (.getfield 167, 3) := by decide +kernel
theorem k317_95 : decode (gb 317) 95 = .ok (.iconst 0, 1) := by decide +kernel
theorem k317_96 : decode (gb 317) 96 = .ok (.aload_n 0, 1) := by decide +kernel
theorem k317_97 : decode (gb 317) 97 = .ok (.getfield 492, 3) := by decide +kernel
theorem k317_100 : decode (gb 317) 100 = .ok (.bipush 64, 2) := by decide +kernel
theorem k317_102 : decode (gb 317) 102 = .ok (.aload_n 0, 1) := by decide +kernel
theorem k317_103 : decode (gb 317) 103 = .ok (.getfield 148, 3) := by decide +kernel
theorem k317_106 : decode (gb 317) 106 = .ok (.imul, 1) := by decide +kernel
theorem k317_107 : decode (gb 317) 107 = .ok (.aload_n 0, 1) := by decide +kernel
theorem k317_108 : decode (gb 317) 108 = .ok (.getfield 164, 3) := by decide +kernel
theorem k317_111 : decode (gb 317) 111 = .ok (.invokestatic 228, 3) := by decide +kernel
theorem k317_114 : decode (gb 317) 114 = .ok (.aload_n 0, 1) := by decide +kernel
theorem k317_115 : decode (gb 317) 115 = .ok (.getfield 495, 3) := by decide +kernel
theorem k317_118 : decode (gb 317) 118 = .ok (.aload_n 0, 1) := by decide +kernel
theorem k317_119 : decode (gb 317) 119 = .ok (.getfield 148, 3) := by decide +kernel
theorem k317_122 : decode (gb 317) 122 = .ok (.aload_n 0, 1) := by decide +kernel
theorem k317_123 : decode (gb 317) 123 = .ok (.getfield 164, 3) := by decide +kernel
theorem k317_126 : decode (gb 317) 126 = .ok (.iastore, 1) := by decide +kernel
theorem k317_127 : decode (gb 317) 127 = .ok (.aload_n 0, 1) := by decide +kernel
theorem k317_128 : decode (gb 317) 128 = .ok (.getfield 498, 3) := by decide +kernel
theorem k317_131 : decode (gb 317) 131 = .ok (.aload_n 0, 1) := by decide +kernel
theorem k317_132 : decode (gb 317) 132 = .ok (.getfield 148, 3) := by decide +kernel
theorem k317_135 : decode (gb 317) 135 = .ok (.iload_n 1, 1) := by decide +kernel
theorem k317_136 : decode (gb 317) 136 = .ok (.iastore, 1) := by decide +kernel
theorem k317_137 : decode (gb 317) 137 = .ok (.aload_n 0, 1) := by decide +kernel
theorem k317_138 : decode (gb 317) 138 = .ok (.dup, 1) := by decide +kernel
theorem k317_139 : decode (gb 317) 139 = .ok (.getfield 148, 3) := by decide +kernel
theorem k317_142 : decode (gb 317) 142 = .ok (.iconst 1, 1) := by decide +kernel
theorem k317_143 : decode (gb 317) 143 = .ok (.iadd, 1) := by decide +kernel
theorem k317_144 : decode (gb 317) 144 = .ok (.putfield 148, 3) := by decide +kernel
theorem k317_147 : decode (gb 317) 147 = .ok (.return_, 1) := by decide +kernel
def c317_91 (v1 : Int32) (μ : Mem) : Option (Mem) :=
  (f273 140 (0 : Int32) 179 ((64 : Int32) * (μ.1 129 104)) (μ.1 129 27) μ).bind fun r1 =>
  (stA 180 (r1.1 129 104) (r1.1 129 27) r1).bind fun m3 =>
  (stA 181 (m3.1 129 104) v1 m3).bind fun m5 =>
  (pfI 129 104 ((m5.1 129 104) + (1 : Int32)) m5).bind fun m7 =>
  some m7
theorem c317_91_ok {L : Nat} (v1 : Int32) (μ : Mem) (res : Mem) (h : c317_91 v1 μ = some res) : Sx 317 91 [(0, .ref 129), (1, .int v1)] [] 0 0 (mk L μ) (mk L res, none) := by
  unfold c317_91 at h
  refine sx_aload_n (i := 0) k317_91 rfl rfl ?_
  refine cx_getR (k := 26) k317_92 ow_317 fl_12_167 (by decide) sk_129 ft_11_26 sr_129_26 ?_
  refine sx_iconst (v := 0) k317_95 (by decide) ?_
  refine sx_aload_n (i := 0) k317_96 rfl rfl ?_
  refine cx_getR (k := 101) k317_97 ow_317 fl_12_492 (by decide) sk_129 ft_11_101 sr_129_101 ?_
  refine sx_bipush (v := 64) k317_100 (by decide) ?_
  refine sx_aload_n (i := 0) k317_102 rfl rfl ?_
  refine cx_getI (k := 104) k317_103 ow_317 fl_12_148 (by decide) sk_129 ft_11_104 ?_
  refine sx_imul k317_106 ?_
  refine sx_aload_n (i := 0) k317_107 rfl rfl ?_
  refine cx_getI (k := 27) k317_108 ow_317 fl_12_164 (by decide) sk_129 ft_11_27 ?_
  obtain ⟨r1, e2, h⟩ := Option.bind_eq_some_iff.mp h
  refine cx_S (sk := []) (vs := [.ref 140, .int (0 : Int32), .ref 179, .int ((64 : Int32) * (μ.1 129 104)), .int (μ.1 129 27)]) st_317_273 k317_111 ow_317 cl_12_228 (by decide) rfl (Nat.le_of_ble_eq_true rfl) (ok273 140 (0 : Int32) 179 ((64 : Int32) * (μ.1 129 104)) (μ.1 129 27) sk_140 sk_179 _ _ e2) (sk3 := []) rfl rfl ?_
  refine sx_aload_n (i := 0) k317_114 rfl rfl ?_
  refine cx_getR (k := 102) k317_115 ow_317 fl_12_495 (by decide) sk_129 ft_11_102 sr_129_102 ?_
  refine sx_aload_n (i := 0) k317_118 rfl rfl ?_
  refine cx_getI (k := 104) k317_119 ow_317 fl_12_148 (by decide) sk_129 ft_11_104 ?_
  refine sx_aload_n (i := 0) k317_122 rfl rfl ?_
  refine cx_getI (k := 27) k317_123 ow_317 fl_12_164 (by decide) sk_129 ft_11_27 ?_
  obtain ⟨m3, e4, h⟩ := Option.bind_eq_some_iff.mp h
  refine cx_iast k317_126 sk_180 e4 ?_
  refine sx_aload_n (i := 0) k317_127 rfl rfl ?_
  refine cx_getR (k := 103) k317_128 ow_317 fl_12_498 (by decide) sk_129 ft_11_103 sr_129_103 ?_
  refine sx_aload_n (i := 0) k317_131 rfl rfl ?_
  refine cx_getI (k := 104) k317_132 ow_317 fl_12_148 (by decide) sk_129 ft_11_104 ?_
  refine sx_iload_n (i := 1) k317_135 rfl rfl ?_
  obtain ⟨m5, e6, h⟩ := Option.bind_eq_some_iff.mp h
  refine cx_iast k317_136 sk_181 e6 ?_
  refine sx_aload_n (i := 0) k317_137 rfl rfl ?_
  refine sx_dup k317_138 rfl ?_
  refine cx_getI (k := 104) k317_139 ow_317 fl_12_148 (by decide) sk_129 ft_11_104 ?_
  refine sx_iconst (v := 1) k317_142 (by decide) ?_
  refine sx_iadd k317_143 ?_
  obtain ⟨m7, e8, h⟩ := Option.bind_eq_some_iff.mp h
  refine cx_putI (k := 104) k317_144 ow_317 fl_12_148 (by decide) sk_129 nf_11_104 fu_11_104 e8 ?_
  exact cx_retv k317_147 rt_317 h
def c317_42 (v1 : Int32) (v2 : Int32) (v3 : Int32) (s0 : Int32) (μ : Mem) : Option (Mem) :=
  if v2 ≤ 0 then
    (ldA 140 (6 : Int32) μ).bind fun x2 =>
    if (x2 &&& (8 : Int32)) = 0 then
      c317_91 v1 μ
    else
      (f318 (1 : Int32) v3 s0 (0 : Int32) μ).bind fun r5 =>
      c317_91 v1 r5
  else
    (ldA 162 (18 : Int32) μ).bind fun x7 =>
    (stA 162 (18 : Int32) (x7 + (1 : Int32)) μ).bind fun m9 =>
    (f318 (2 : Int32) v3 s0 v2 m9).bind fun r11 =>
    some r11
theorem c317_42_ok {L : Nat} (v1 : Int32) (v2 : Int32) (v3 : Int32) (s0 : Int32) (μ : Mem) (res : Mem) (h : c317_42 v1 v2 v3 s0 μ = some res) : Sx 317 42 [(0, .ref 129), (1, .int v1), (2, .int v2), (3, .int v3)] [.int s0] 0 0 (mk L μ) (mk L res, none) := by
  unfold c317_42 at h
  refine cx_istore (lo2 := [(4, .int s0), (0, .ref 129), (1, .int v1), (2, .int v2), (3, .int v3)]) k317_42 (by rw [mx_317]; decide) rfl ?_
  refine sx_iload_n (i := 2) k317_44 rfl rfl ?_
  by_cases hb1 : v2 ≤ 0
  · rw [if_pos hb1] at h
    refine sx_if_le (tgt := 69) k317_45 (by decide) (fun _ => ?_) (fun q => absurd hb1 q)
    refine sx_aload_n (i := 0) k317_69 rfl rfl ?_
    refine cx_getR (k := 26) k317_70 ow_317 fl_12_167 (by decide) sk_129 ft_11_26 sr_129_26 ?_
    refine sx_bipush (v := 6) k317_73 (by decide) ?_
    obtain ⟨x2, e3, h⟩ := Option.bind_eq_some_iff.mp h
    refine cx_iald k317_75 sk_140 e3 ?_
    refine sx_bipush (v := 8) k317_76 (by decide) ?_
    refine sx_iand k317_78 ?_
    by_cases hb4 : (x2 &&& (8 : Int32)) = 0
    · rw [if_pos hb4] at h
      refine sx_if_eq (tgt := 91) k317_79 (by decide) (fun _ => ?_) (fun q => absurd hb4 q)
      refine sx_pick (lo2 := [(0, .ref 129), (1, .int v1)]) [1, 2] rfl ?_
      exact c317_91_ok v1 _ _ h
    · rw [if_neg hb4] at h
      refine sx_if_eq (tgt := 91) k317_79 (by decide) (fun q => absurd q hb4) (fun _ => ?_)
      refine sx_aload_n (i := 0) k317_82 rfl rfl ?_
      refine sx_iconst (v := 1) k317_83 (by decide) ?_
      refine sx_iload_n (i := 3) k317_84 rfl rfl ?_
      refine sx_iload k317_85 rfl ?_
      refine sx_iconst (v := 0) k317_87 (by decide) ?_
      obtain ⟨r5, e6, h⟩ := Option.bind_eq_some_iff.mp h
      refine cx_V (sk := []) (vs := [.int (1 : Int32), .int v3, .int s0, .int (0 : Int32)]) st_317_318 k317_88 ow_317 cl_12_488 (by decide) rfl (Nat.le_of_ble_eq_true rfl) sk_129 (ok318 (1 : Int32) v3 s0 (0 : Int32) _ _ e6) (sk3 := []) rfl rfl ?_
      refine sx_pick (lo2 := [(0, .ref 129), (1, .int v1)]) [1, 2] rfl ?_
      exact c317_91_ok v1 _ _ h
  · rw [if_neg hb1] at h
    refine sx_if_le (tgt := 69) k317_45 (by decide) (fun q => absurd q hb1) (fun _ => ?_)
    refine sx_aload_n (i := 0) k317_48 rfl rfl ?_
    refine cx_getR (k := 78) k317_49 ow_317 fl_12_126 (by decide) sk_129 ft_11_78 sr_129_78 ?_
    refine sx_bipush (v := 18) k317_52 (by decide) ?_
    refine sx_dup2 k317_54 rfl rfl ?_
    obtain ⟨x7, e8, h⟩ := Option.bind_eq_some_iff.mp h
    refine cx_iald k317_55 sk_162 e8 ?_
    refine sx_iconst (v := 1) k317_56 (by decide) ?_
    refine sx_iadd k317_57 ?_
    obtain ⟨m9, e10, h⟩ := Option.bind_eq_some_iff.mp h
    refine cx_iast k317_58 sk_162 e10 ?_
    refine sx_aload_n (i := 0) k317_59 rfl rfl ?_
    refine sx_iconst (v := 2) k317_60 (by decide) ?_
    refine sx_iload_n (i := 3) k317_61 rfl rfl ?_
    refine sx_iload k317_62 rfl ?_
    refine sx_iload_n (i := 2) k317_64 rfl rfl ?_
    obtain ⟨r11, e12, h⟩ := Option.bind_eq_some_iff.mp h
    refine cx_V (sk := []) (vs := [.int (2 : Int32), .int v3, .int s0, .int v2]) st_317_318 k317_65 ow_317 cl_12_488 (by decide) rfl (Nat.le_of_ble_eq_true rfl) sk_129 (ok318 (2 : Int32) v3 s0 v2 _ _ e12) (sk3 := []) rfl rfl ?_
    exact cx_retv k317_68 rt_317 h
def c317_23 (v1 : Int32) (v2 : Int32) (s0 : Int32) (μ : Mem) : Option (Mem) :=
  if (μ.1 129 27) ≤ (3 : Int32) then
    c317_42 v1 v2 s0 (0 : Int32) μ
  else
    (ldA 140 (3 : Int32) μ).bind fun x2 =>
    c317_42 v1 v2 s0 x2 μ
theorem c317_23_ok {L : Nat} (v1 : Int32) (v2 : Int32) (s0 : Int32) (μ : Mem) (res : Mem) (h : c317_23 v1 v2 s0 μ = some res) : Sx 317 23 [(0, .ref 129), (1, .int v1), (2, .int v2)] [.int s0] 0 0 (mk L μ) (mk L res, none) := by
  unfold c317_23 at h
  refine cx_istore_n (lo2 := [(3, .int s0), (0, .ref 129), (1, .int v1), (2, .int v2)]) k317_23 rfl (by rw [mx_317]; decide) rfl ?_
  refine sx_aload_n (i := 0) k317_24 rfl rfl ?_
  refine cx_getI (k := 27) k317_25 ow_317 fl_12_164 (by decide) sk_129 ft_11_27 ?_
  refine sx_iconst (v := 3) k317_28 (by decide) ?_
  by_cases hb1 : (μ.1 129 27) ≤ (3 : Int32)
  · rw [if_pos hb1] at h
    refine sx_icmp_le (tgt := 41) k317_29 (by decide) (fun _ => ?_) (fun q => absurd hb1 q)
    refine sx_iconst (v := 0) k317_41 (by decide) ?_
    refine sx_pick (lo2 := [(0, .ref 129), (1, .int v1), (2, .int v2), (3, .int s0)]) [1, 2, 3, 0] rfl ?_
    exact c317_42_ok v1 v2 s0 (0 : Int32) _ _ h
  · rw [if_neg hb1] at h
    refine sx_icmp_le (tgt := 41) k317_29 (by decide) (fun q => absurd q hb1) (fun _ => ?_)
    refine sx_aload_n (i := 0) k317_32 rfl rfl ?_
    refine cx_getR (k := 26) k317_33 ow_317 fl_12_167 (by decide) sk_129 ft_11_26 sr_129_26 ?_
    refine sx_iconst (v := 3) k317_36 (by decide) ?_
    obtain ⟨x2, e3, h⟩ := Option.bind_eq_some_iff.mp h
    refine cx_iald k317_37 sk_140 e3 ?_
    refine sx_goto (tgt := 42) k317_38 (by decide) ?_
    refine sx_pick (lo2 := [(0, .ref 129), (1, .int v1), (2, .int v2), (3, .int s0)]) [1, 2, 3, 0] rfl ?_
    exact c317_42_ok v1 v2 s0 x2 _ _ h
/-- CraftHouseModel.lookAt(I)V -/
def f317 (p1 : Int32) (μ : Mem) : Option (Mem) :=
  (f316 μ).bind fun r1 =>
  if (r1.1.1 129 27) ≤ (2 : Int32) then
    c317_23 p1 r1.2 (0 : Int32) r1.1
  else
    (ldA 140 (2 : Int32) r1.1).bind fun x4 =>
    c317_23 p1 r1.2 x4 r1.1
theorem ok317 {L : Nat} (p1 : Int32) (μ : Mem) (res : Mem) (h : f317 p1 μ = some res) : Mx 317 [.ref 129, .int p1] (mk L μ) (mk L res, none) := by
  refine Mx_of ml_317 (by rw [mx_317]; exact Nat.le_of_ble_eq_true rfl) ?_
  show Sx 317 0 [(0, .ref 129), (1, .int p1)] [] 0 0 (mk L μ) _
  unfold f317 at h
  refine sx_aload_n (i := 0) k317_0 rfl rfl ?_
  obtain ⟨r1, e2, h⟩ := Option.bind_eq_some_iff.mp h
  refine cx_V (sk := []) (vs := []) st_317_316 k317_1 ow_317 cl_12_484 (by decide) rfl (Nat.le_of_ble_eq_true rfl) sk_129 (ok316 _ _ e2) (sk3 := [.int r1.2]) rfl rfl ?_
  refine cx_istore_n (lo2 := [(2, .int r1.2), (0, .ref 129), (1, .int p1)]) k317_4 rfl (by rw [mx_317]; decide) rfl ?_
  refine sx_aload_n (i := 0) k317_5 rfl rfl ?_
  refine cx_getI (k := 27) k317_6 ow_317 fl_12_164 (by decide) sk_129 ft_11_27 ?_
  refine sx_iconst (v := 2) k317_9 (by decide) ?_
  by_cases hb3 : (r1.1.1 129 27) ≤ (2 : Int32)
  · rw [if_pos hb3] at h
    refine sx_icmp_le (tgt := 22) k317_10 (by decide) (fun _ => ?_) (fun q => absurd hb3 q)
    refine sx_iconst (v := 0) k317_22 (by decide) ?_
    refine sx_pick (lo2 := [(0, .ref 129), (1, .int p1), (2, .int r1.2)]) [1, 2, 0] rfl ?_
    exact c317_23_ok p1 r1.2 (0 : Int32) _ _ h
  · rw [if_neg hb3] at h
    refine sx_icmp_le (tgt := 22) k317_10 (by decide) (fun q => absurd q hb3) (fun _ => ?_)
    refine sx_aload_n (i := 0) k317_13 rfl rfl ?_
    refine cx_getR (k := 26) k317_14 ow_317 fl_12_167 (by decide) sk_129 ft_11_26 sr_129_26 ?_
    refine sx_iconst (v := 2) k317_17 (by decide) ?_
    obtain ⟨x4, e5, h⟩ := Option.bind_eq_some_iff.mp h
    refine cx_iald k317_18 sk_140 e5 ?_
    refine sx_goto (tgt := 23) k317_19 (by decide) ?_
    refine sx_pick (lo2 := [(0, .ref 129), (1, .int p1), (2, .int r1.2)]) [1, 2, 0] rfl ?_
    exact c317_23_ok p1 r1.2 x4 _ _ h
theorem k270_0 : decode (gb 270) 0 = .ok (.aload_n 0, 1) := by decide +kernel
theorem k270_1 : decode (gb 270) 1 = .ok (.getfield 126, 3) := by decide +kernel
theorem k270_4 : decode (gb 270) 4 = .ok (.bipush 16, 2) := by decide +kernel
theorem k270_6 : decode (gb 270) 6 = .ok (.dup2, 1) := by decide +kernel
theorem k270_7 : decode (gb 270) 7 = .ok (.iaload, 1) := by decide +kernel
theorem k270_8 : decode (gb 270) 8 = .ok (.iconst 1, 1) := by decide +kernel
theorem k270_9 : decode (gb 270) 9 = .ok (.iadd, 1) := by decide +kernel
theorem k270_10 : decode (gb 270) 10 = .ok (.iastore, 1) := by decide +kernel
theorem k270_11 : decode (gb 270) 11 = .ok (.aload_n 0, 1) := by decide +kernel
theorem k270_12 : decode (gb 270) 12 = .ok (.iload_n 2, 1) := by decide +kernel
theorem k270_13 : decode (gb 270) 13 = .ok (.putfield 164, 3) := by decide +kernel
theorem k270_16 : decode (gb 270) 16 = .ok (.iconst 0, 1) := by decide +kernel
theorem k270_17 : decode (gb 270) 17 = .ok (.istore_n 3, 1) := by decide +kernel
theorem k270_18 : decode (gb 270) 18 = .ok (.iload_n 3, 1) := by decide +kernel
theorem k270_19 : decode (gb 270) 19 = .ok (.iload_n 2, 1) := by decide +kernel
theorem k270_20 : decode (gb 270) 20 = .ok (.if_icmp .ge 23, 3) := by decide +kernel
theorem k270_23 : decode (gb 270) 23 = .ok (.aload_n 0, 1) := by decide +kernel
theorem k270_24 : decode (gb 270) 24 = .ok (.getfield 167, 3) := by decide +kernel
theorem k270_27 : decode (gb 270) 27 = .ok (.iload_n 3, 1) := by decide +kernel
theorem k270_28 : decode (gb 270) 28 = .ok (.aload_n 0, 1) := by decide +kernel
theorem k270_29 : decode (gb 270) 29 = .ok (.getfield 123, 3) := by decide +kernel
theorem k270_32 : decode (gb 270) 32 = .ok (.iload_n 1, 1) := by decide +kernel
theorem k270_33 : decode (gb 270) 33 = .ok (.iload_n 3, 1) := by decide +kernel
theorem k270_34 : decode (gb 270) 34 = .ok (.iadd, 1) := by decide +kernel
theorem k270_35 : decode (gb 270) 35 = .ok (.iaload, 1) := by decide +kernel
theorem k270_36 : decode (gb 270) 36 = .ok (.iastore, 1) := by decide +kernel
theorem k270_37 : decode (gb 270) 37 = .ok (.iinc 3 1, 3) := by decide +kernel
theorem k270_40 : decode (gb 270) 40 = .ok (.goto (-22), 3) := by decide +kernel
theorem k270_43 : decode (gb 270) 43 = .ok (.aload_n 0, 1) := by decide +kernel
theorem k270_44 : decode (gb 270) 44 = .ok (.iconst 0, 1) := by decide +kernel
theorem k270_45 : decode (gb 270) 45 = .ok (.invokevirtual 170, 3) := by decide +kernel
theorem k270_48 : decode (gb 270) 48 = .ok (.return_, 1) := by decide +kernel
def b270_18 (kl18 : Int32 → Int32 → Int32 → Mem → Option (Mem)) (v1 : Int32) (v2 : Int32) (v3 : Int32) (μ : Mem) : Option (Mem) :=
  if v2 ≤ v3 then
    (f317 (0 : Int32) μ).bind fun r2 =>
    some r2
  else
    (ldA 139 (v1 + v3) μ).bind fun x4 =>
    (stA 140 v3 x4 μ).bind fun m6 =>
    nm (v3 + (1 : Int32)) fun x8 =>
    kl18 v1 v2 x8 m6
theorem b270_18_ok {L : Nat} (kl18 : Int32 → Int32 → Int32 → Mem → Option (Mem)) (hk18 : (∀ (v1 : Int32) (v2 : Int32) (v3 : Int32) (μ : Mem) (res : Mem), kl18 v1 v2 v3 μ = some res → Sx 270 18 [(0, .ref 129), (1, .int v1), (2, .int v2), (3, .int v3)] [] 0 0 (mk L μ) (mk L res, none))) (v1 : Int32) (v2 : Int32) (v3 : Int32) (μ : Mem) (res : Mem) (h : b270_18 kl18 v1 v2 v3 μ = some res) : Sx 270 18 [(0, .ref 129), (1, .int v1), (2, .int v2), (3, .int v3)] [] 0 0 (mk L μ) (mk L res, none) := by
  unfold b270_18 at h
  refine sx_iload_n (i := 3) k270_18 rfl rfl ?_
  refine sx_iload_n (i := 2) k270_19 rfl rfl ?_
  by_cases hb1 : v2 ≤ v3
  · rw [if_pos hb1] at h
    refine sx_icmp_ge (tgt := 43) k270_20 (by decide) (fun _ => ?_) (fun q => absurd hb1 q)
    refine sx_aload_n (i := 0) k270_43 rfl rfl ?_
    refine sx_iconst (v := 0) k270_44 (by decide) ?_
    obtain ⟨r2, e3, h⟩ := Option.bind_eq_some_iff.mp h
    refine cx_V (sk := []) (vs := [.int (0 : Int32)]) st_270_317 k270_45 ow_270 cl_12_170 (by decide) rfl (Nat.le_of_ble_eq_true rfl) sk_129 (ok317 (0 : Int32) _ _ e3) (sk3 := []) rfl rfl ?_
    exact cx_retv k270_48 rt_270 h
  · rw [if_neg hb1] at h
    refine sx_icmp_ge (tgt := 43) k270_20 (by decide) (fun q => absurd q hb1) (fun _ => ?_)
    refine sx_aload_n (i := 0) k270_23 rfl rfl ?_
    refine cx_getR (k := 26) k270_24 ow_270 fl_12_167 (by decide) sk_129 ft_11_26 sr_129_26 ?_
    refine sx_iload_n (i := 3) k270_27 rfl rfl ?_
    refine sx_aload_n (i := 0) k270_28 rfl rfl ?_
    refine cx_getR (k := 15) k270_29 ow_270 fl_12_123 (by decide) sk_129 ft_11_15 sr_129_15 ?_
    refine sx_iload_n (i := 1) k270_32 rfl rfl ?_
    refine sx_iload_n (i := 3) k270_33 rfl rfl ?_
    refine sx_iadd k270_34 ?_
    obtain ⟨x4, e5, h⟩ := Option.bind_eq_some_iff.mp h
    refine cx_iald k270_35 sk_139 e5 ?_
    obtain ⟨m6, e7, h⟩ := Option.bind_eq_some_iff.mp h
    refine cx_iast k270_36 sk_140 e7 ?_
    refine cx_iinc (c := 1) (lo2 := fun x8 => [(3, .int x8), (0, .ref 129), (1, .int v1), (2, .int v2)]) k270_37 rfl (by decide) (by rw [mx_270]; decide) (fun _ => rfl) h (fun x8 h => ?_)
    refine sx_goto (tgt := 18) k270_40 (by decide) ?_
    refine sx_pick (lo2 := [(0, .ref 129), (1, .int v1), (2, .int v2), (3, .int x8)]) [1, 2, 3, 0] rfl ?_
    exact hk18 v1 v2 x8 _ _ h
def l270_18 : Nat → Int32 × Int32 × Int32 × Mem → Option (Mem) :=
  fixN (fun self x => b270_18 (fun v1 v2 v3 μ => self (v1, v2, v3, μ)) (x.1) (x.2.1) (x.2.2.1) (x.2.2.2))
theorem l270_18_ok {L : Nat} (n : Nat) (v1 : Int32) (v2 : Int32) (v3 : Int32) (μ : Mem) (res : Mem) (h : l270_18 n (v1, v2, v3, μ) = some res) : Sx 270 18 [(0, .ref 129), (1, .int v1), (2, .int v2), (3, .int v3)] [] 0 0 (mk L μ) (mk L res, none) := by
  have key := fixN_ind (P := fun x res => Sx 270 18 [(0, .ref 129), (1, .int (x.1)), (2, .int (x.2.1)), (3, .int (x.2.2.1))] [] 0 0 (mk L (x.2.2.2)) (mk L res, none)) (F := fun self x => b270_18 (fun v1 v2 v3 μ => self (v1, v2, v3, μ)) (x.1) (x.2.1) (x.2.2.1) (x.2.2.2)) (fun self hself x res h => b270_18_ok (fun v1 v2 v3 μ => self (v1, v2, v3, μ)) (fun v1 v2 v3 μ res hh => hself (v1, v2, v3, μ) res hh) (x.1) (x.2.1) (x.2.2.1) (x.2.2.2) res h) n (v1, v2, v3, μ) res h
  exact key
/-- CraftHouseModel.take(II)V -/
def f270 (p1 : Int32) (p2 : Int32) (μ : Mem) : Option (Mem) :=
  (ldA 162 (16 : Int32) μ).bind fun x1 =>
  (stA 162 (16 : Int32) (x1 + (1 : Int32)) μ).bind fun m3 =>
  (pfI 129 27 p2 m3).bind fun m5 =>
  l270_18 gF (p1, p2, (0 : Int32), m5)
theorem ok270 {L : Nat} (p1 : Int32) (p2 : Int32) (μ : Mem) (res : Mem) (h : f270 p1 p2 μ = some res) : Mx 270 [.ref 129, .int p1, .int p2] (mk L μ) (mk L res, none) := by
  refine Mx_of ml_270 (by rw [mx_270]; exact Nat.le_of_ble_eq_true rfl) ?_
  show Sx 270 0 [(0, .ref 129), (1, .int p1), (2, .int p2)] [] 0 0 (mk L μ) _
  unfold f270 at h
  refine sx_aload_n (i := 0) k270_0 rfl rfl ?_
  refine cx_getR (k := 78) k270_1 ow_270 fl_12_126 (by decide) sk_129 ft_11_78 sr_129_78 ?_
  refine sx_bipush (v := 16) k270_4 (by decide) ?_
  refine sx_dup2 k270_6 rfl rfl ?_
  obtain ⟨x1, e2, h⟩ := Option.bind_eq_some_iff.mp h
  refine cx_iald k270_7 sk_162 e2 ?_
  refine sx_iconst (v := 1) k270_8 (by decide) ?_
  refine sx_iadd k270_9 ?_
  obtain ⟨m3, e4, h⟩ := Option.bind_eq_some_iff.mp h
  refine cx_iast k270_10 sk_162 e4 ?_
  refine sx_aload_n (i := 0) k270_11 rfl rfl ?_
  refine sx_iload_n (i := 2) k270_12 rfl rfl ?_
  obtain ⟨m5, e6, h⟩ := Option.bind_eq_some_iff.mp h
  refine cx_putI (k := 27) k270_13 ow_270 fl_12_164 (by decide) sk_129 nf_11_27 fu_11_27 e6 ?_
  refine sx_iconst (v := 0) k270_16 (by decide) ?_
  refine cx_istore_n (lo2 := [(3, .int (0 : Int32)), (0, .ref 129), (1, .int p1), (2, .int p2)]) k270_17 rfl (by rw [mx_270]; decide) rfl ?_
  refine sx_pick (lo2 := [(0, .ref 129), (1, .int p1), (2, .int p2), (3, .int (0 : Int32))]) [1, 2, 3, 0] rfl ?_
  exact l270_18_ok gF p1 p2 (0 : Int32) _ _ h
theorem k269_0 : decode (gb 269) 0 = .ok (.iload_n 1, 1) := by decide +kernel
theorem k269_1 : decode (gb 269) 1 = .ok (.aload_n 0, 1) := by decide +kernel
theorem k269_2 : decode (gb 269) 2 = .ok (.getfield 139, 3) := by decide +kernel
theorem k269_5 : decode (gb 269) 5 = .ok (.isub, 1) := by decide +kernel
theorem k269_6 : decode (gb 269) 6 = .ok (.sipush 255, 3) := by decide +kernel
theorem k269_9 : decode (gb 269) 9 = .ok (.iand, 1) := by decide +kernel
theorem k269_10 : decode (gb 269) 10 = .ok (.istore 4, 2) := by decide +kernel
theorem k269_12 : decode (gb 269) 12 = .ok (.iload 4, 2) := by decide +kernel
theorem k269_14 : decode (gb 269) 14 = .ok (.ifCond .ne 60, 3) := by decide +kernel
theorem k269_17 : decode (gb 269) 17 = .ok (.aload_n 0, 1) := by decide +kernel
theorem k269_18 : decode (gb 269) 18 = .ok (.getfield 142, 3) := by decide +kernel
theorem k269_21 : decode (gb 269) 21 = .ok (.ifCond .ne 53, 3) := by decide +kernel
theorem k269_24 : decode (gb 269) 24 = .ok (.aload_n 0, 1) := by decide +kernel
theorem k269_25 : decode (gb 269) 25 = .ok (.getfield 148, 3) := by decide +kernel
theorem k269_28 : decode (gb 269) 28 = .ok (.bipush 8, 2) := by decide +kernel
theorem k269_30 : decode (gb 269) 30 = .ok (.if_icmp .ge 31, 3) := by decide +kernel
theorem k269_33 : decode (gb 269) 33 = .ok (.aload_n 0, 1) := by decide +kernel
theorem k269_34 : decode (gb 269) 34 = .ok (.aload_n 0, 1) := by decide +kernel
theorem k269_35 : decode (gb 269) 35 = .ok (.getfield 139, 3) := by decide +kernel
theorem k269_38 : decode (gb 269) 38 = .ok (.iconst 1, 1) := by decide +kernel
theorem k269_39 : decode (gb 269) 39 = .ok (.iadd, 1) := by decide +kernel
theorem k269_40 : decode (gb 269) 40 = .ok (.sipush 255, 3) := by decide +kernel
theorem k269_43 : decode (gb 269) 43 = .ok (.iand, 1) := by decide +kernel
theorem k269_44 : decode (gb 269) 44 = .ok (.putfield 139, 3) := by decide +kernel
theorem k269_47 : decode (gb 269) 47 = .ok (.aload_n 0, 1) := by decide +kernel
theorem k269_48 : decode (gb 269) 48 = .ok (.iconst 0, 1) := by decide +kernel
theorem k269_49 : decode (gb 269) 49 = .ok (.putfield 145, 3) := by decide +kernel
theorem k269_52 : decode (gb 269) 52 = .ok (.aload_n 0, 1) := by decide +kernel
theorem k269_53 : decode (gb 269) 53 = .ok (.iload_n 2, 1) := by decide +kernel
theorem k269_54 : decode (gb 269) 54 = .ok (.iload_n 3, 1) := by decide +kernel
theorem k269_55 : decode (gb 269) 55 = .ok (.invokevirtual 151, 3) := by decide +kernel
theorem k269_58 : decode (gb 269) 58 = .ok (.goto 66, 3) := by decide +kernel
theorem k269_61 : decode (gb 269) 61 = .ok (.aload_n 0, 1) := by decide +kernel
theorem k269_62 : decode (gb 269) 62 = .ok (.iconst 1, 1) := by decide +kernel
theorem k269_63 : decode (gb 269) 63 = .ok (.putfield 142, 3) := by decide +kernel
theorem k269_66 : decode (gb 269) 66 = .ok (.aload_n 0, 1) := by decide +kernel
theorem k269_67 : decode (gb 269) 67 = .ok (.iconst 1, 1) := by decide +kernel
theorem k269_68 : decode (gb 269) 68 = .ok (.putfield 145, 3) := by decide +kernel
theorem k269_71 : decode (gb 269) 71 = .ok (.goto 53, 3) := by decide +kernel
theorem k269_74 : decode (gb 269) 74 = .ok (.iload 4, 2) := by decide +kernel
theorem k269_76 : decode (gb 269) 76 = .ok (.iconst 1, 1) := by decide +kernel
theorem k269_77 : decode (gb 269) 77 = .ok (.if_icmp .lt 22, 3) := by decide +kernel
theorem k269_80 : decode (gb 269) 80 = .ok (.iload 4, 2) := by decide +kernel
theorem k269_82 : decode (gb 269) 82 = .ok (.aload_n 0, 1) := by decide +kernel
theorem k269_83 : decode (gb 269) 83 = .ok (.getfield 161, 3) := by decide +kernel
theorem k269_86 : decode (gb 269) 86 = .ok (.iconst 2, 1) := by decide +kernel
theorem k269_87 : decode (gb 269) 87 = .ok (.idiv, 1) := by decide +kernel
theorem k269_88 : decode (gb 269) 88 = .ok (.if_icmp .ge 11, 3) := by decide +kernel
theorem k269_91 : decode (gb 269) 91 = .ok (.aload_n 0, 1) := by decide +kernel
theorem k269_92 : decode (gb 269) 92 = .ok (.iconst 1, 1) := by decide +kernel
theorem k269_93 : decode (gb 269) 93 = .ok (.putfield 145, 3) := by decide +kernel
theorem k269_96 : decode (gb 269) 96 = .ok (.goto 28, 3) := by decide +kernel
theorem k269_99 : decode (gb 269) 99 = .ok (.iload 4, 2) := by decide +kernel
theorem k269_101 : decode (gb 269) 101 = .ok (.ifCond .eq 23, 3) := by decide +kernel
theorem k269_104 : decode (gb 269) 104 = .ok (.iload 4, 2) := by decide +kernel
theorem k269_106 : decode (gb 269) 106 = .ok (.sipush 256, 3) := by decide +kernel
theorem k269_109 : decode (gb 269) 109 = .ok (.aload_n 0, 1) := by decide +kernel
theorem k269_110 : decode (gb 269) 110 = .ok (.getfield 161, 3) := by decide +kernel
theorem k269_113 : decode (gb 269) 113 = .ok (.iconst 2, 1) := by decide +kernel
theorem k269_114 : decode (gb 269) 114 = .ok (.idiv, 1) := by decide +kernel
theorem k269_115 : decode (gb 269) 115 = .ok (.isub, 1) := by decide +kernel
theorem k269_116 : decode (gb 269) 116 = .ok (.if_icmp .ge 8, 3) := by decide +kernel
theorem k269_119 : decode (gb 269) 119 = .ok (.aload_n 0, 1) := by decide +kernel
theorem k269_120 : decode (gb 269) 120 = .ok (.iconst 1, 1) := by decide +kernel
theorem k269_121 : decode (gb 269) 121 = .ok (.putfield 136, 3) := by decide +kernel
theorem k269_124 : decode (gb 269) 124 = .ok (.return_, 1) := by decide +kernel
def c269_99 (v4 : Int32) (μ : Mem) : Option (Mem) :=
  if v4 = 0 then
    some μ
  else
    if ((256 : Int32) - ((μ.1 129 24) / (2 : Int32))) ≤ v4 then
      some μ
    else
      (pfZ 129 20 (1 : Int32) μ).bind fun m3 =>
      some m3
theorem c269_99_ok {L : Nat} (v4 : Int32) (μ : Mem) (res : Mem) (h : c269_99 v4 μ = some res) : Sx 269 99 [(0, .ref 129), (4, .int v4)] [] 0 0 (mk L μ) (mk L res, none) := by
  unfold c269_99 at h
  refine sx_iload k269_99 rfl ?_
  by_cases hb1 : v4 = 0
  · rw [if_pos hb1] at h
    refine sx_if_eq (tgt := 124) k269_101 (by decide) (fun _ => ?_) (fun q => absurd hb1 q)
    exact cx_retv k269_124 rt_269 h
  · rw [if_neg hb1] at h
    refine sx_if_eq (tgt := 124) k269_101 (by decide) (fun q => absurd q hb1) (fun _ => ?_)
    refine sx_iload k269_104 rfl ?_
    refine sx_sipush (v := 256) k269_106 (by decide) ?_
    refine sx_aload_n (i := 0) k269_109 rfl rfl ?_
    refine cx_getI (k := 24) k269_110 ow_269 fl_12_161 (by decide) sk_129 ft_11_24 ?_
    refine sx_iconst (v := 2) k269_113 (by decide) ?_
    refine sx_idiv k269_114 (by decide) ?_
    refine sx_isub k269_115 ?_
    by_cases hb2 : ((256 : Int32) - ((μ.1 129 24) / (2 : Int32))) ≤ v4
    · rw [if_pos hb2] at h
      refine sx_icmp_ge (tgt := 124) k269_116 (by decide) (fun _ => ?_) (fun q => absurd hb2 q)
      exact cx_retv k269_124 rt_269 h
    · rw [if_neg hb2] at h
      refine sx_icmp_ge (tgt := 124) k269_116 (by decide) (fun q => absurd q hb2) (fun _ => ?_)
      refine sx_aload_n (i := 0) k269_119 rfl rfl ?_
      refine sx_iconst (v := 1) k269_120 (by decide) ?_
      obtain ⟨m3, e4, h⟩ := Option.bind_eq_some_iff.mp h
      refine cx_putZ (k := 20) k269_121 ow_269 fl_12_136 (by decide) sk_129 nf_11_20 fu_11_20 e4 ?_
      exact cx_retv k269_124 rt_269 h
def c269_74 (v4 : Int32) (μ : Mem) : Option (Mem) :=
  if v4 < (1 : Int32) then
    c269_99 v4 μ
  else
    if ((μ.1 129 24) / (2 : Int32)) ≤ v4 then
      c269_99 v4 μ
    else
      (pfZ 129 22 (1 : Int32) μ).bind fun m3 =>
      some m3
theorem c269_74_ok {L : Nat} (v4 : Int32) (μ : Mem) (res : Mem) (h : c269_74 v4 μ = some res) : Sx 269 74 [(0, .ref 129), (4, .int v4)] [] 0 0 (mk L μ) (mk L res, none) := by
  unfold c269_74 at h
  refine sx_iload k269_74 rfl ?_
  refine sx_iconst (v := 1) k269_76 (by decide) ?_
  by_cases hb1 : v4 < (1 : Int32)
  · rw [if_pos hb1] at h
    refine sx_icmp_lt (tgt := 99) k269_77 (by decide) (fun _ => ?_) (fun q => absurd hb1 q)
    refine sx_pick (lo2 := [(0, .ref 129), (4, .int v4)]) [0, 1] rfl ?_
    exact c269_99_ok v4 _ _ h
  · rw [if_neg hb1] at h
    refine sx_icmp_lt (tgt := 99) k269_77 (by decide) (fun q => absurd q hb1) (fun _ => ?_)
    refine sx_iload k269_80 rfl ?_
    refine sx_aload_n (i := 0) k269_82 rfl rfl ?_
    refine cx_getI (k := 24) k269_83 ow_269 fl_12_161 (by decide) sk_129 ft_11_24 ?_
    refine sx_iconst (v := 2) k269_86 (by decide) ?_
    refine sx_idiv k269_87 (by decide) ?_
    by_cases hb2 : ((μ.1 129 24) / (2 : Int32)) ≤ v4
    · rw [if_pos hb2] at h
      refine sx_icmp_ge (tgt := 99) k269_88 (by decide) (fun _ => ?_) (fun q => absurd hb2 q)
      refine sx_pick (lo2 := [(0, .ref 129), (4, .int v4)]) [0, 1] rfl ?_
      exact c269_99_ok v4 _ _ h
    · rw [if_neg hb2] at h
      refine sx_icmp_ge (tgt := 99) k269_88 (by decide) (fun q => absurd q hb2) (fun _ => ?_)
      refine sx_aload_n (i := 0) k269_91 rfl rfl ?_
      refine sx_iconst (v := 1) k269_92 (by decide) ?_
      obtain ⟨m3, e4, h⟩ := Option.bind_eq_some_iff.mp h
      refine cx_putZ (k := 22) k269_93 ow_269 fl_12_145 (by decide) sk_129 nf_11_22 fu_11_22 e4 ?_
      refine sx_goto (tgt := 124) k269_96 (by decide) ?_
      exact cx_retv k269_124 rt_269 h
/-- CraftHouseModel.inOrder(III)V -/
def f269 (p1 : Int32) (p2 : Int32) (p3 : Int32) (μ : Mem) : Option (Mem) :=
  nm ((p1 - (μ.1 129 19)) &&& (255 : Int32)) fun x1 =>
  if x1 = 0 then
    if (μ.1 129 21) = 0 then
      if (8 : Int32) ≤ (μ.1 129 104) then
        (pfZ 129 21 (1 : Int32) μ).bind fun m5 =>
        (pfZ 129 22 (1 : Int32) m5).bind fun m7 =>
        some m7
      else
        (pfI 129 19 (((μ.1 129 19) + (1 : Int32)) &&& (255 : Int32)) μ).bind fun m9 =>
        (pfZ 129 22 (0 : Int32) m9).bind fun m11 =>
        (f270 p2 p3 m11).bind fun r13 =>
        some r13
    else
      c269_74 x1 μ
  else
    c269_74 x1 μ
theorem ok269 {L : Nat} (p1 : Int32) (p2 : Int32) (p3 : Int32) (μ : Mem) (res : Mem) (h : f269 p1 p2 p3 μ = some res) : Mx 269 [.ref 129, .int p1, .int p2, .int p3] (mk L μ) (mk L res, none) := by
  refine Mx_of ml_269 (by rw [mx_269]; exact Nat.le_of_ble_eq_true rfl) ?_
  show Sx 269 0 [(0, .ref 129), (1, .int p1), (2, .int p2), (3, .int p3)] [] 0 0 (mk L μ) _
  unfold f269 at h
  refine sx_iload_n (i := 1) k269_0 rfl rfl ?_
  refine sx_aload_n (i := 0) k269_1 rfl rfl ?_
  refine cx_getI (k := 19) k269_2 ow_269 fl_12_139 (by decide) sk_129 ft_11_19 ?_
  refine sx_isub k269_5 ?_
  refine sx_sipush (v := 255) k269_6 (by decide) ?_
  refine sx_iand k269_9 ?_
  refine cx_nm h (fun x1 h => ?_)
  refine cx_istore (lo2 := [(4, .int x1), (0, .ref 129), (1, .int p1), (2, .int p2), (3, .int p3)]) k269_10 (by rw [mx_269]; decide) rfl ?_
  refine sx_iload k269_12 rfl ?_
  by_cases hb2 : x1 = 0
  · rw [if_pos hb2] at h
    refine sx_if_ne (tgt := 74) k269_14 (by decide) (fun q => absurd hb2 q) (fun _ => ?_)
    refine sx_aload_n (i := 0) k269_17 rfl rfl ?_
    refine cx_getI (k := 21) k269_18 ow_269 fl_12_142 (by decide) sk_129 ft_11_21 ?_
    by_cases hb3 : (μ.1 129 21) = 0
    · rw [if_pos hb3] at h
      refine sx_if_ne (tgt := 74) k269_21 (by decide) (fun q => absurd hb3 q) (fun _ => ?_)
      refine sx_aload_n (i := 0) k269_24 rfl rfl ?_
      refine cx_getI (k := 104) k269_25 ow_269 fl_12_148 (by decide) sk_129 ft_11_104 ?_
      refine sx_bipush (v := 8) k269_28 (by decide) ?_
      by_cases hb4 : (8 : Int32) ≤ (μ.1 129 104)
      · rw [if_pos hb4] at h
        refine sx_icmp_ge (tgt := 61) k269_30 (by decide) (fun _ => ?_) (fun q => absurd hb4 q)
        refine sx_aload_n (i := 0) k269_61 rfl rfl ?_
        refine sx_iconst (v := 1) k269_62 (by decide) ?_
        obtain ⟨m5, e6, h⟩ := Option.bind_eq_some_iff.mp h
        refine cx_putZ (k := 21) k269_63 ow_269 fl_12_142 (by decide) sk_129 nf_11_21 fu_11_21 e6 ?_
        refine sx_aload_n (i := 0) k269_66 rfl rfl ?_
        refine sx_iconst (v := 1) k269_67 (by decide) ?_
        obtain ⟨m7, e8, h⟩ := Option.bind_eq_some_iff.mp h
        refine cx_putZ (k := 22) k269_68 ow_269 fl_12_145 (by decide) sk_129 nf_11_22 fu_11_22 e8 ?_
        refine sx_goto (tgt := 124) k269_71 (by decide) ?_
        exact cx_retv k269_124 rt_269 h
      · rw [if_neg hb4] at h
        refine sx_icmp_ge (tgt := 61) k269_30 (by decide) (fun q => absurd q hb4) (fun _ => ?_)
        refine sx_aload_n (i := 0) k269_33 rfl rfl ?_
        refine sx_aload_n (i := 0) k269_34 rfl rfl ?_
        refine cx_getI (k := 19) k269_35 ow_269 fl_12_139 (by decide) sk_129 ft_11_19 ?_
        refine sx_iconst (v := 1) k269_38 (by decide) ?_
        refine sx_iadd k269_39 ?_
        refine sx_sipush (v := 255) k269_40 (by decide) ?_
        refine sx_iand k269_43 ?_
        obtain ⟨m9, e10, h⟩ := Option.bind_eq_some_iff.mp h
        refine cx_putI (k := 19) k269_44 ow_269 fl_12_139 (by decide) sk_129 nf_11_19 fu_11_19 e10 ?_
        refine sx_aload_n (i := 0) k269_47 rfl rfl ?_
        refine sx_iconst (v := 0) k269_48 (by decide) ?_
        obtain ⟨m11, e12, h⟩ := Option.bind_eq_some_iff.mp h
        refine cx_putZ (k := 22) k269_49 ow_269 fl_12_145 (by decide) sk_129 nf_11_22 fu_11_22 e12 ?_
        refine sx_aload_n (i := 0) k269_52 rfl rfl ?_
        refine sx_iload_n (i := 2) k269_53 rfl rfl ?_
        refine sx_iload_n (i := 3) k269_54 rfl rfl ?_
        obtain ⟨r13, e14, h⟩ := Option.bind_eq_some_iff.mp h
        refine cx_V (sk := []) (vs := [.int p2, .int p3]) st_269_270 k269_55 ow_269 cl_12_151 (by decide) rfl (Nat.le_of_ble_eq_true rfl) sk_129 (ok270 p2 p3 _ _ e14) (sk3 := []) rfl rfl ?_
        refine sx_goto (tgt := 124) k269_58 (by decide) ?_
        exact cx_retv k269_124 rt_269 h
    · rw [if_neg hb3] at h
      refine sx_if_ne (tgt := 74) k269_21 (by decide) (fun _ => ?_) (fun q => absurd q hb3)
      refine sx_pick (lo2 := [(0, .ref 129), (4, .int x1)]) [1, 0] rfl ?_
      exact c269_74_ok x1 _ _ h
  · rw [if_neg hb2] at h
    refine sx_if_ne (tgt := 74) k269_14 (by decide) (fun _ => ?_) (fun q => absurd q hb2)
    refine sx_pick (lo2 := [(0, .ref 129), (4, .int x1)]) [1, 0] rfl ?_
    exact c269_74_ok x1 _ _ h
theorem k268_0 : decode (gb 268) 0 = .ok (.iload_n 2, 1) := by decide +kernel
theorem k268_1 : decode (gb 268) 1 = .ok (.bipush 8, 2) := by decide +kernel
theorem k268_3 : decode (gb 268) 3 = .ok (.if_icmp .lt 49, 3) := by decide +kernel
theorem k268_6 : decode (gb 268) 6 = .ok (.aload_n 0, 1) := by decide +kernel
theorem k268_7 : decode (gb 268) 7 = .ok (.getfield 123, 3) := by decide +kernel
theorem k268_10 : decode (gb 268) 10 = .ok (.iload_n 1, 1) := by decide +kernel
theorem k268_11 : decode (gb 268) 11 = .ok (.iaload, 1) := by decide +kernel
theorem k268_12 : decode (gb 268) 12 = .ok (.sipush 207, 3) := by decide +kernel
theorem k268_15 : decode (gb 268) 15 = .ok (.iand, 1) := by decide +kernel
theorem k268_16 : decode (gb 268) 16 = .ok (.ifCond .ne 36, 3) := by decide +kernel
theorem k268_19 : decode (gb 268) 19 = .ok (.aload_n 0, 1) := by decide +kernel
theorem k268_20 : decode (gb 268) 20 = .ok (.getfield 123, 3) := by decide +kernel
theorem k268_23 : decode (gb 268) 23 = .ok (.iload_n 1, 1) := by decide +kernel
theorem k268_24 : decode (gb 268) 24 = .ok (.iconst 1, 1) := by decide +kernel
theorem k268_25 : decode (gb 268) 25 = .ok (.iadd, 1) := by decide +kernel
theorem k268_26 : decode (gb 268) 26 = .ok (.iaload, 1) := by decide +kernel
theorem k268_27 : decode (gb 268) 27 = .ok (.sipush 171, 3) := by decide +kernel
theorem k268_30 : decode (gb 268) 30 = .ok (.if_icmp .ne 22, 3) := by decide +kernel
theorem k268_33 : decode (gb 268) 33 = .ok (.aload_n 0, 1) := by decide +kernel
theorem k268_34 : decode (gb 268) 34 = .ok (.getfield 123, 3) := by decide +kernel
theorem k268_37 : decode (gb 268) 37 = .ok (.iload_n 1, 1) := by decide +kernel
theorem k268_38 : decode (gb 268) 38 = .ok (.iconst 2, 1) := by decide +kernel
theorem k268_39 : decode (gb 268) 39 = .ok (.iadd, 1) := by decide +kernel
theorem k268_40 : decode (gb 268) 40 = .ok (.iaload, 1) := by decide +kernel
theorem k268_41 : decode (gb 268) 41 = .ok (.sipush 252, 3) := by decide +kernel
theorem k268_44 : decode (gb 268) 44 = .ok (.iand, 1) := by decide +kernel
theorem k268_45 : decode (gb 268) 45 = .ok (.ifCond .ne 7, 3) := by decide +kernel
theorem k268_48 : decode (gb 268) 48 = .ok (.iconst 1, 1) := by decide +kernel
theorem k268_49 : decode (gb 268) 49 = .ok (.goto 4, 3) := by decide +kernel
theorem k268_52 : decode (gb 268) 52 = .ok (.iconst 0, 1) := by decide +kernel
theorem k268_53 : decode (gb 268) 53 = .ok (.istore_n 3, 1) := by decide +kernel
theorem k268_54 : decode (gb 268) 54 = .ok (.iload_n 3, 1) := by decide +kernel
theorem k268_55 : decode (gb 268) 55 = .ok (.ifCond .eq 45, 3) := by decide +kernel
theorem k268_58 : decode (gb 268) 58 = .ok (.aload_n 0, 1) := by decide +kernel
theorem k268_59 : decode (gb 268) 59 = .ok (.getfield 123, 3) := by decide +kernel
theorem k268_62 : decode (gb 268) 62 = .ok (.iload_n 1, 1) := by decide +kernel
theorem k268_63 : decode (gb 268) 63 = .ok (.iload_n 2, 1) := by decide +kernel
theorem k268_64 : decode (gb 268) 64 = .ok (.iconst 2, 1) := by decide +kernel
theorem k268_65 : decode (gb 268) 65 = .ok (.isub, 1) := by decide +kernel
theorem k268_66 : decode (gb 268) 66 = .ok (.invokestatic 11, 3) := by decide +kernel
theorem k268_69 : decode (gb 268) 69 = .ok (.aload_n 0, 1) := by decide +kernel
theorem k268_70 : decode (gb 268) 70 = .ok (.getfield 123, 3) := by decide +kernel
theorem k268_73 : decode (gb 268) 73 = .ok (.iload_n 1, 1) := by decide +kernel
theorem k268_74 : decode (gb 268) 74 = .ok (.iload_n 2, 1) := by decide +kernel
theorem k268_75 : decode (gb 268) 75 = .ok (.iadd, 1) := by decide +kernel
theorem k268_76 : decode (gb 268) 76 = .ok (.iconst 2, 1) := by decide +kernel
theorem k268_77 : decode (gb 268) 77 = .ok (.isub, 1) := by decide +kernel
theorem k268_78 : decode (gb 268) 78 = .ok (.iaload, 1) := by decide +kernel
theorem k268_79 : decode (gb 268) 79 = .ok (.bipush 8, 2) := by decide +kernel
theorem k268_81 : decode (gb 268) 81 = .ok (.ishl, 1) := by decide +kernel
theorem k268_82 : decode (gb 268) 82 = .ok (.aload_n 0, 1) := by decide +kernel
theorem k268_83 : decode (gb 268) 83 = .ok (.getfield 123, 3) := by decide +kernel
theorem k268_86 : decode (gb 268) 86 = .ok (.iload_n 1, 1) := by decide +kernel
theorem k268_87 : decode (gb 268) 87 = .ok (.iload_n 2, 1) := by decide +kernel
theorem k268_88 : decode (gb 268) 88 = .ok (.iadd, 1) := by decide +kernel
theorem k268_89 : decode (gb 268) 89 = .ok (.iconst 1, 1) := by decide +kernel
theorem k268_90 : decode (gb 268) 90 = .ok (.isub, 1) := by decide +kernel
theorem k268_91 : decode (gb 268) 91 = .ok (.iaload, 1) := by decide +kernel
theorem k268_92 : decode (gb 268) 92 = .ok (.ior, 1) := by decide +kernel
theorem k268_93 : decode (gb 268) 93 = .ok (.if_icmp .ne 7, 3) := by decide +kernel
theorem k268_96 : decode (gb 268) 96 = .ok (.iconst 1, 1) := by decide +kernel
theorem k268_97 : decode (gb 268) 97 = .ok (.goto 4, 3) := by decide +kernel
theorem k268_100 : decode (gb 268) 100 = .ok (.iconst 0, 1) := by decide +kernel
theorem k268_101 : decode (gb 268) 101 = .ok (.istore_n 3, 1) := by decide +kernel
theorem k268_102 : decode (gb 268) 102 = .ok (.aload_n 0, 1) := by decide +kernel
theorem k268_103 : decode (gb 268) 103 = .ok (.getfield 123, 3) := by decide +kernel
theorem k268_106 : decode (gb 268) 106 = .ok (.iload_n 1, 1) := by decide +kernel
theorem k268_107 : decode (gb 268) 107 = .ok (.iaload, 1) := by decide +kernel
theorem k268_108 : decode (gb 268) 108 = .ok (.bipush 32, 2) := by decide +kernel
theorem k268_110 : decode (gb 268) 110 = .ok (.iand, 1) := by decide +kernel
theorem k268_111 : decode (gb 268) 111 = .ok (.ifCond .eq 7, 3) := by decide +kernel
theorem k268_114 : decode (gb 268) 114 = .ok (.iconst 1, 1) := by decide +kernel
theorem k268_115 : decode (gb 268) 115 = .ok (.goto 4, 3) := by decide +kernel
theorem k268_118 : decode (gb 268) 118 = .ok (.iconst 0, 1) := by decide +kernel
theorem k268_119 : decode (gb 268) 119 = .ok (.istore 4, 2) := by decide +kernel
theorem k268_121 : decode (gb 268) 121 = .ok (.aload_n 0, 1) := by decide +kernel
theorem k268_122 : decode (gb 268) 122 = .ok (.getfield 123, 3) := by decide +kernel
theorem k268_125 : decode (gb 268) 125 = .ok (.iload_n 1, 1) := by decide +kernel
theorem k268_126 : decode (gb 268) 126 = .ok (.iaload, 1) := by decide +kernel
theorem k268_127 : decode (gb 268) 127 = .ok (.bipush 16, 2) := by decide +kernel
theorem k268_129 : decode (gb 268) 129 = .ok (.iand, 1) := by decide +kernel
theorem k268_130 : decode (gb 268) 130 = .ok (.ifCond .eq 7, 3) := by decide +kernel
theorem k268_133 : decode (gb 268) 133 = .ok (.iconst 1, 1) := by decide +kernel
theorem k268_134 : decode (gb 268) 134 = .ok (.goto 4, 3) := by decide +kernel
theorem k268_137 : decode (gb 268) 137 = .ok (.iconst 0, 1) := by decide +kernel
theorem k268_138 : decode (gb 268) 138 = .ok (.istore 5, 2) := by decide +kernel
theorem k268_140 : decode (gb 268) 140 = .ok (.iload_n 2, 1) := by decide +kernel
theorem k268_141 : decode (gb 268) 141 = .ok (.bipush 7, 2) := by decide +kernel
theorem k268_143 : decode (gb 268) 143 = .ok (.isub, 1) := by decide +kernel
theorem k268_144 : decode (gb 268) 144 = .ok (.istore 6, 2) := by decide +kernel
theorem k268_146 : decode (gb 268) 146 = .ok (.iload_n 1, 1) := by decide +kernel
theorem k268_147 : decode (gb 268) 147 = .ok (.iconst 5, 1) := by decide +kernel
theorem k268_148 : decode (gb 268) 148 = .ok (.iadd, 1) := by decide +kernel
theorem k268_149 : decode (gb 268) 149 = .ok (.istore 7, 2) := by decide +kernel
theorem k268_151 : decode (gb 268) 151 = .ok (.iload 6, 2) := by decide +kernel
theorem k268_153 : decode (gb 268) 153 = .ok (.iconst 1, 1) := by decide +kernel
theorem k268_154 : decode (gb 268) 154 = .ok (.if_icmp .ne 17, 3) := by decide +kernel
theorem k268_157 : decode (gb 268) 157 = .ok (.aload_n 0, 1) := by decide +kernel
theorem k268_158 : decode (gb 268) 158 = .ok (.getfield 123, 3) := by decide +kernel
theorem k268_161 : decode (gb 268) 161 = .ok (.iload 7, 2) := by decide +kernel
theorem k268_163 : decode (gb 268) 163 = .ok (.iaload, 1) := by decide +kernel
theorem k268_164 : decode (gb 268) 164 = .ok (.ifCond .ne 7, 3) := by decide +kernel
theorem k268_167 : decode (gb 268) 167 = .ok (.iconst 1, 1) := by decide +kernel
theorem k268_168 : decode (gb 268) 168 = .ok (.goto 4, 3) := by decide +kernel
theorem k268_171 : decode (gb 268) 171 = .ok (.iconst 0, 1) := by decide +kernel
theorem k268_172 : decode (gb 268) 172 = .ok (.istore 8, 2) := by decide +kernel
theorem k268_174 : decode (gb 268) 174 = .ok (.iload 6, 2) := by decide +kernel
theorem k268_176 : decode (gb 268) 176 = .ok (.iconst 3, 1) := by decide +kernel
theorem k268_177 : decode (gb 268) 177 = .ok (.if_icmp .ne 32, 3) := by decide +kernel
theorem k268_180 : decode (gb 268) 180 = .ok (.aload_n 0, 1) := by decide +kernel
theorem k268_181 : decode (gb 268) 181 = .ok (.getfield 123, 3) := by decide +kernel
theorem k268_184 : decode (gb 268) 184 = .ok (.iload 7, 2) := by decide +kernel
theorem k268_186 : decode (gb 268) 186 = .ok (.iaload, 1) := by decide +kernel
theorem k268_187 : decode (gb 268) 187 = .ok (.sipush 130, 3) := by decide +kernel
theorem k268_190 : decode (gb 268) 190 = .ok (.if_icmp .ne 19, 3) := by decide +kernel
theorem k268_193 : decode (gb 268) 193 = .ok (.aload_n 0, 1) := by decide +kernel
theorem k268_194 : decode (gb 268) 194 = .ok (.getfield 123, 3) := by decide +kernel
theorem k268_197 : decode (gb 268) 197 = .ok (.iload 7, 2) := by decide +kernel
theorem k268_199 : decode (gb 268) 199 = .ok (.iconst 1, 1) := by decide +kernel
theorem k268_200 : decode (gb 268) 200 = .ok (.iadd, 1) := by decide +kernel
theorem k268_201 : decode (gb 268) 201 = .ok (.iaload, 1) := by decide +kernel
theorem k268_202 : decode (gb 268) 202 = .ok (.ifCond .ne 7, 3) := by decide +kernel
theorem k268_205 : decode (gb 268) 205 = .ok (.iconst 1, 1) := by decide +kernel
theorem k268_206 : decode (gb 268) 206 = .ok (.goto 4, 3) := by decide +kernel
theorem k268_209 : decode (gb 268) 209 = .ok (.iconst 0, 1) := by decide +kernel
theorem k268_210 : decode (gb 268) 210 = .ok (.istore 9, 2) := by decide +kernel
theorem k268_212 : decode (gb 268) 212 = .ok (.iload_n 3, 1) := by decide +kernel
theorem k268_213 : decode (gb 268) 213 = .ok (.ifCond .eq 35, 3) := by decide +kernel
theorem k268_216 : decode (gb 268) 216 = .ok (.iload 5, 2) := by decide +kernel
theorem k268_218 : decode (gb 268) 218 = .ok (.ifCond .eq 18, 3) := by decide +kernel
theorem k268_221 : decode (gb 268) 221 = .ok (.iload 4, 2) := by decide +kernel
theorem k268_223 : decode (gb 268) 223 = .ok (.ifCond .eq 25, 3) := by decide +kernel
theorem k268_226 : decode (gb 268) 226 = .ok (.iload 8, 2) := by decide +kernel
theorem k268_228 : decode (gb 268) 228 = .ok (.ifCond .ne 8, 3) := by decide +kernel
theorem k268_231 : decode (gb 268) 231 = .ok (.iload 9, 2) := by decide +kernel
theorem k268_233 : decode (gb 268) 233 = .ok (.ifCond .eq 15, 3) := by decide +kernel
theorem k268_236 : decode (gb 268) 236 = .ok (.iload 5, 2) := by decide +kernel
theorem k268_238 : decode (gb 268) 238 = .ok (.ifCond .ne 24, 3) := by decide +kernel
theorem k268_241 : decode (gb 268) 241 = .ok (.iload 6, 2) := by decide +kernel
theorem k268_243 : decode (gb 268) 243 = .ok (.bipush 60, 2) := by decide +kernel
theorem k268_245 : decode (gb 268) 245 = .ok (.if_icmp .le 17, 3) := by decide +kernel
theorem k268_248 : decode (gb 268) 248 = .ok (.aload_n 0, 1) := by decide +kernel
theorem k268_249 : decode (gb 268) 249 = .ok (.getfield 126, 3) := by decide +kernel
theorem k268_252 : decode (gb 268) 252 = .ok (.bipush 17, 2) := by decide +kernel
theorem k268_254 : decode (gb 268) 254 = .ok (.dup2, 1) := by decide +kernel
theorem k268_255 : decode (gb 268) 255 = .ok (.iaload, 1) := by decide +kernel
theorem k268_256 : decode (gb 268) 256 = .ok (.iconst 1, 1) := by decide +kernel
theorem k268_257 : decode (gb 268) 257 = .ok (.iadd, 1) := by decide +kernel
theorem k268_258 : decode (gb 268) 258 = .ok (.iastore, 1) := by decide +kernel
theorem k268_259 : decode (gb 268) 259 = .ok (.goto 153, 3) := by decide +kernel
theorem k268_262 : decode (gb 268) 262 = .ok (.iload 5, 2) := by decide +kernel
theorem k268_264 : decode (gb 268) 264 = .ok (.ifCond .eq 75, 3) := by decide +kernel
theorem k268_267 : decode (gb 268) 267 = .ok (.aload_n 0, 1) := by decide +kernel
theorem k268_268 : decode (gb 268) 268 = .ok (.aload_n 0, 1) := by decide +kernel
theorem k268_269 : decode (gb 268) 269 = .ok (.getfield 133, 3) := by decide +kernel
theorem k268_272 : decode (gb 268) 272 = .ok (.iconst 1, 1) := by decide +kernel
theorem k268_273 : decode (gb 268) 273 = .ok (.iadd, 1) := by decide +kernel
theorem k268_274 : decode (gb 268) 274 = .ok (.iconst 3, 1) := by decide +kernel
theorem k268_275 : decode (gb 268) 275 = .ok (.iand, 1) := by decide +kernel
theorem k268_276 : decode (gb 268) 276 = .ok (.putfield 133, 3) := by decide +kernel
theorem k268_279 : decode (gb 268) 279 = .ok (.iload 8, 2) := by decide +kernel
theorem k268_281 : decode (gb 268) 281 = .ok (.ifCond .eq 8, 3) := by decide +kernel
theorem k268_284 : decode (gb 268) 284 = .ok (.aload_n 0, 1) := by decide +kernel
theorem k268_285 : decode (gb 268) 285 = .ok (.iconst 0, 1) := by decide +kernel
theorem k268_286 : decode (gb 268) 286 = .ok (.putfield 136, 3) := by decide +kernel
theorem k268_289 : decode (gb 268) 289 = .ok (.iload 8, 2) := by decide +kernel
theorem k268_291 : decode (gb 268) 291 = .ok (.ifCond .ne 10, 3) := by decide +kernel
theorem k268_294 : decode (gb 268) 294 = .ok (.aload_n 0, 1) := by decide +kernel
theorem k268_295 : decode (gb 268) 295 = .ok (.getfield 136, 3) := by decide +kernel
theorem k268_298 : decode (gb 268) 298 = .ok (.ifCond .ne 114, 3) := by decide +kernel
theorem k268_301 : decode (gb 268) 301 = .ok (.aload_n 0, 1) := by decide +kernel
theorem k268_302 : decode (gb 268) 302 = .ok (.iload 8, 2) := by decide +kernel
theorem k268_304 : decode (gb 268) 304 = .ok (.ifCond .eq 10, 3) := by decide +kernel
theorem k268_307 : decode (gb 268) 307 = .ok (.aload_n 0, 1) := by decide +kernel
theorem k268_308 : decode (gb 268) 308 = .ok (.getfield 139, 3) := by decide +kernel
theorem k268_311 : decode (gb 268) 311 = .ok (.goto 12, 3) := by decide +kernel
theorem k268_314 : decode (gb 268) 314 = .ok (.aload_n 0, 1) := by decide +kernel
theorem k268_315 : decode (gb 268) 315 = .ok (.getfield 123, 3) := by decide +kernel
theorem k268_318 : decode (gb 268) 318 = .ok (.iload 7, 2) := by decide +kernel
theorem k268_320 : decode (gb 268) 320 = .ok (.iconst 2, 1) := by decide +kernel
theorem k268_321 : decode (gb 268) 321 = .ok (.iadd, 1) := by decide +kernel
theorem k268_322 : decode (gb 268) 322 = .ok (.iaload, 1) := by decide +kernel
theorem k268_323 : decode (gb 268) 323 = .ok (.putfield 139, 3) := by decide +kernel
theorem k268_326 : decode (gb 268) 326 = .ok (.aload_n 0, 1) := by decide +kernel
theorem k268_327 : decode (gb 268) 327 = .ok (.iconst 0, 1) := by decide +kernel
theorem k268_328 : decode (gb 268) 328 = .ok (.putfield 142, 3) := by decide +kernel
theorem k268_331 : decode (gb 268) 331 = .ok (.aload_n 0, 1) := by decide +kernel
theorem k268_332 : decode (gb 268) 332 = .ok (.iconst 0, 1) := by decide +kernel
theorem k268_333 : decode (gb 268) 333 = .ok (.putfield 145, 3) := by decide +kernel
theorem k268_336 : decode (gb 268) 336 = .ok (.goto 76, 3) := by decide +kernel
theorem k268_339 : decode (gb 268) 339 = .ok (.iload 4, 2) := by decide +kernel
theorem k268_341 : decode (gb 268) 341 = .ok (.ifCond .eq 48, 3) := by decide +kernel
theorem k268_344 : decode (gb 268) 344 = .ok (.aload_n 0, 1) := by decide +kernel
theorem k268_345 : decode (gb 268) 345 = .ok (.aload_n 0, 1) := by decide +kernel
theorem k268_346 : decode (gb 268) 346 = .ok (.getfield 133, 3) := by decide +kernel
theorem k268_349 : decode (gb 268) 349 = .ok (.iconst 1, 1) := by decide +kernel
theorem k268_350 : decode (gb 268) 350 = .ok (.iadd, 1) := by decide +kernel
theorem k268_351 : decode (gb 268) 351 = .ok (.iconst 3, 1) := by decide +kernel
theorem k268_352 : decode (gb 268) 352 = .ok (.iand, 1) := by decide +kernel
theorem k268_353 : decode (gb 268) 353 = .ok (.putfield 133, 3) := by decide +kernel
theorem k268_356 : decode (gb 268) 356 = .ok (.aload_n 0, 1) := by decide +kernel
theorem k268_357 : decode (gb 268) 357 = .ok (.getfield 148, 3) := by decide +kernel
theorem k268_360 : decode (gb 268) 360 = .ok (.bipush 8, 2) := by decide +kernel
theorem k268_362 : decode (gb 268) 362 = .ok (.if_icmp .ge 14, 3) := by decide +kernel
theorem k268_365 : decode (gb 268) 365 = .ok (.aload_n 0, 1) := by decide +kernel
theorem k268_366 : decode (gb 268) 366 = .ok (.iload 7, 2) := by decide +kernel
theorem k268_368 : decode (gb 268) 368 = .ok (.iload 6, 2) := by decide +kernel
theorem k268_370 : decode (gb 268) 370 = .ok (.invokevirtual 151, 3) := by decide +kernel
theorem k268_373 : decode (gb 268) 373 = .ok (.goto 39, 3) := by decide +kernel
theorem k268_376 : decode (gb 268) 376 = .ok (.aload_n 0, 1) := by decide +kernel
theorem k268_377 : decode (gb 268) 377 = .ok (.dup, 1) := by decide +kernel
theorem k268_378 : decode (gb 268) 378 = .ok (.getfield 154, 3) := by decide +kernel
theorem k268_381 : decode (gb 268) 381 = .ok (.iconst 1, 1) := by decide +kernel
theorem k268_382 : decode (gb 268) 382 = .ok (.iadd, 1) := by decide +kernel
theorem k268_383 : decode (gb 268) 383 = .ok (.putfield 154, 3) := by decide +kernel
theorem k268_386 : decode (gb 268) 386 = .ok (.goto 26, 3) := by decide +kernel
theorem k268_389 : decode (gb 268) 389 = .ok (.aload_n 0, 1) := by decide +kernel
theorem k268_390 : decode (gb 268) 390 = .ok (.getfield 136, 3) := by decide +kernel
theorem k268_393 : decode (gb 268) 393 = .ok (.ifCond .ne 19, 3) := by decide +kernel
theorem k268_396 : decode (gb 268) 396 = .ok (.aload_n 0, 1) := by decide +kernel
theorem k268_397 : decode (gb 268) 397 = .ok (.aload_n 0, 1) := by decide +kernel
theorem k268_398 : decode (gb 268) 398 = .ok (.getfield 123, 3) := by decide +kernel
theorem k268_401 : decode (gb 268) 401 = .ok (.iload_n 1, 1) := by decide +kernel
theorem k268_402 : decode (gb 268) 402 = .ok (.iconst 4, 1) := by decide +kernel
theorem k268_403 : decode (gb 268) 403 = .ok (.iadd, 1) := by decide +kernel
theorem k268_404 : decode (gb 268) 404 = .ok (.iaload, 1) := by decide +kernel
theorem k268_405 : decode (gb 268) 405 = .ok (.iload 7, 2) := by decide +kernel
theorem k268_407 : decode (gb 268) 407 = .ok (.iload 6, 2) := by decide +kernel
theorem k268_409 : decode (gb 268) 409 = .ok (.invokevirtual 157, 3) := by decide +kernel
theorem k268_412 : decode (gb 268) 412 = .ok (.return_, 1) := by decide +kernel
def c268_248 (μ : Mem) : Option (Mem) :=
  (ldA 162 (17 : Int32) μ).bind fun x1 =>
  (stA 162 (17 : Int32) (x1 + (1 : Int32)) μ).bind fun m3 =>
  some m3
theorem c268_248_ok {L : Nat} (μ : Mem) (res : Mem) (h : c268_248 μ = some res) : Sx 268 248 [(0, .ref 129)] [] 0 0 (mk L μ) (mk L res, none) := by
  unfold c268_248 at h
  refine sx_aload_n (i := 0) k268_248 rfl rfl ?_
  refine cx_getR (k := 78) k268_249 ow_268 fl_12_126 (by decide) sk_129 ft_11_78 sr_129_78 ?_
  refine sx_bipush (v := 17) k268_252 (by decide) ?_
  refine sx_dup2 k268_254 rfl rfl ?_
  obtain ⟨x1, e2, h⟩ := Option.bind_eq_some_iff.mp h
  refine cx_iald k268_255 sk_162 e2 ?_
  refine sx_iconst (v := 1) k268_256 (by decide) ?_
  refine sx_iadd k268_257 ?_
  obtain ⟨m3, e4, h⟩ := Option.bind_eq_some_iff.mp h
  refine cx_iast k268_258 sk_162 e4 ?_
  refine sx_goto (tgt := 412) k268_259 (by decide) ?_
  exact cx_retv k268_412 rt_268 h
def c268_323 (s1 : Int32) (μ : Mem) : Option (Mem) :=
  (pfI 129 19 s1 μ).bind fun m1 =>
  (pfZ 129 21 (0 : Int32) m1).bind fun m3 =>
  (pfZ 129 22 (0 : Int32) m3).bind fun m5 =>
  some m5
theorem c268_323_ok {L : Nat} (s1 : Int32) (μ : Mem) (res : Mem) (h : c268_323 s1 μ = some res) : Sx 268 323 [(0, .ref 129)] [.int s1, .ref 129] 0 0 (mk L μ) (mk L res, none) := by
  unfold c268_323 at h
  obtain ⟨m1, e2, h⟩ := Option.bind_eq_some_iff.mp h
  refine cx_putI (k := 19) k268_323 ow_268 fl_12_139 (by decide) sk_129 nf_11_19 fu_11_19 e2 ?_
  refine sx_aload_n (i := 0) k268_326 rfl rfl ?_
  refine sx_iconst (v := 0) k268_327 (by decide) ?_
  obtain ⟨m3, e4, h⟩ := Option.bind_eq_some_iff.mp h
  refine cx_putZ (k := 21) k268_328 ow_268 fl_12_142 (by decide) sk_129 nf_11_21 fu_11_21 e4 ?_
  refine sx_aload_n (i := 0) k268_331 rfl rfl ?_
  refine sx_iconst (v := 0) k268_332 (by decide) ?_
  obtain ⟨m5, e6, h⟩ := Option.bind_eq_some_iff.mp h
  refine cx_putZ (k := 22) k268_333 ow_268 fl_12_145 (by decide) sk_129 nf_11_22 fu_11_22 e6 ?_
  refine sx_goto (tgt := 412) k268_336 (by decide) ?_
  exact cx_retv k268_412 rt_268 h
def c268_301 (v7 : Int32) (v8 : Int32) (μ : Mem) : Option (Mem) :=
  if v8 = 0 then
    (ldA 139 (v7 + (2 : Int32)) μ).bind fun x2 =>
    c268_323 x2 μ
  else
    c268_323 (μ.1 129 19) μ
theorem c268_301_ok {L : Nat} (v7 : Int32) (v8 : Int32) (μ : Mem) (res : Mem) (h : c268_301 v7 v8 μ = some res) : Sx 268 301 [(0, .ref 129), (7, .int v7), (8, .int v8)] [] 0 0 (mk L μ) (mk L res, none) := by
  unfold c268_301 at h
  refine sx_aload_n (i := 0) k268_301 rfl rfl ?_
  refine sx_iload k268_302 rfl ?_
  by_cases hb1 : v8 = 0
  · rw [if_pos hb1] at h
    refine sx_if_eq (tgt := 314) k268_304 (by decide) (fun _ => ?_) (fun q => absurd hb1 q)
    refine sx_aload_n (i := 0) k268_314 rfl rfl ?_
    refine cx_getR (k := 15) k268_315 ow_268 fl_12_123 (by decide) sk_129 ft_11_15 sr_129_15 ?_
    refine sx_iload k268_318 rfl ?_
    refine sx_iconst (v := 2) k268_320 (by decide) ?_
    refine sx_iadd k268_321 ?_
    obtain ⟨x2, e3, h⟩ := Option.bind_eq_some_iff.mp h
    refine cx_iald k268_322 sk_139 e3 ?_
    refine sx_pick (lo2 := [(0, .ref 129)]) [0] rfl ?_
    exact c268_323_ok x2 _ _ h
  · rw [if_neg hb1] at h
    refine sx_if_eq (tgt := 314) k268_304 (by decide) (fun q => absurd q hb1) (fun _ => ?_)
    refine sx_aload_n (i := 0) k268_307 rfl rfl ?_
    refine cx_getI (k := 19) k268_308 ow_268 fl_12_139 (by decide) sk_129 ft_11_19 ?_
    refine sx_goto (tgt := 323) k268_311 (by decide) ?_
    refine sx_pick (lo2 := [(0, .ref 129)]) [0] rfl ?_
    exact c268_323_ok (μ.1 129 19) _ _ h
def c268_289 (v7 : Int32) (v8 : Int32) (μ : Mem) : Option (Mem) :=
  if v8 = 0 then
    if (μ.1 129 20) = 0 then
      c268_301 v7 v8 μ
    else
      some μ
  else
    c268_301 v7 v8 μ
theorem c268_289_ok {L : Nat} (v7 : Int32) (v8 : Int32) (μ : Mem) (res : Mem) (h : c268_289 v7 v8 μ = some res) : Sx 268 289 [(0, .ref 129), (7, .int v7), (8, .int v8)] [] 0 0 (mk L μ) (mk L res, none) := by
  unfold c268_289 at h
  refine sx_iload k268_289 rfl ?_
  by_cases hb1 : v8 = 0
  · rw [if_pos hb1] at h
    refine sx_if_ne (tgt := 301) k268_291 (by decide) (fun q => absurd hb1 q) (fun _ => ?_)
    refine sx_aload_n (i := 0) k268_294 rfl rfl ?_
    refine cx_getI (k := 20) k268_295 ow_268 fl_12_136 (by decide) sk_129 ft_11_20 ?_
    by_cases hb2 : (μ.1 129 20) = 0
    · rw [if_pos hb2] at h
      refine sx_if_ne (tgt := 412) k268_298 (by decide) (fun q => absurd hb2 q) (fun _ => ?_)
      refine sx_pick (lo2 := [(0, .ref 129), (7, .int v7), (8, .int v8)]) [0, 1, 2] rfl ?_
      exact c268_301_ok v7 v8 _ _ h
    · rw [if_neg hb2] at h
      refine sx_if_ne (tgt := 412) k268_298 (by decide) (fun _ => ?_) (fun q => absurd q hb2)
      exact cx_retv k268_412 rt_268 h
  · rw [if_neg hb1] at h
    refine sx_if_ne (tgt := 301) k268_291 (by decide) (fun _ => ?_) (fun q => absurd q hb1)
    refine sx_pick (lo2 := [(0, .ref 129), (7, .int v7), (8, .int v8)]) [0, 1, 2] rfl ?_
    exact c268_301_ok v7 v8 _ _ h
def c268_262 (v1 : Int32) (v4 : Int32) (v5 : Int32) (v6 : Int32) (v7 : Int32) (v8 : Int32) (μ : Mem) : Option (Mem) :=
  if v5 = 0 then
    if v4 = 0 then
      if (μ.1 129 20) = 0 then
        (ldA 139 (v1 + (4 : Int32)) μ).bind fun x4 =>
        (f269 x4 v7 v6 μ).bind fun r6 =>
        some r6
      else
        some μ
    else
      (pfI 129 23 (((μ.1 129 23) + (1 : Int32)) &&& (3 : Int32)) μ).bind fun m8 =>
      if (8 : Int32) ≤ (m8.1 129 104) then
        (pfI 129 25 ((m8.1 129 25) + (1 : Int32)) m8).bind fun m11 =>
        some m11
      else
        (f270 v7 v6 m8).bind fun r13 =>
        some r13
  else
    (pfI 129 23 (((μ.1 129 23) + (1 : Int32)) &&& (3 : Int32)) μ).bind fun m15 =>
    if v8 = 0 then
      c268_289 v7 v8 m15
    else
      (pfZ 129 20 (0 : Int32) m15).bind fun m18 =>
      c268_289 v7 v8 m18
theorem c268_262_ok {L : Nat} (v1 : Int32) (v4 : Int32) (v5 : Int32) (v6 : Int32) (v7 : Int32) (v8 : Int32) (μ : Mem) (res : Mem) (h : c268_262 v1 v4 v5 v6 v7 v8 μ = some res) : Sx 268 262 [(0, .ref 129), (1, .int v1), (4, .int v4), (5, .int v5), (6, .int v6), (7, .int v7), (8, .int v8)] [] 0 0 (mk L μ) (mk L res, none) := by
  unfold c268_262 at h
  refine sx_iload k268_262 rfl ?_
  by_cases hb1 : v5 = 0
  · rw [if_pos hb1] at h
    refine sx_if_eq (tgt := 339) k268_264 (by decide) (fun _ => ?_) (fun q => absurd hb1 q)
    refine sx_iload k268_339 rfl ?_
    by_cases hb2 : v4 = 0
    · rw [if_pos hb2] at h
      refine sx_if_eq (tgt := 389) k268_341 (by decide) (fun _ => ?_) (fun q => absurd hb2 q)
      refine sx_aload_n (i := 0) k268_389 rfl rfl ?_
      refine cx_getI (k := 20) k268_390 ow_268 fl_12_136 (by decide) sk_129 ft_11_20 ?_
      by_cases hb3 : (μ.1 129 20) = 0
      · rw [if_pos hb3] at h
        refine sx_if_ne (tgt := 412) k268_393 (by decide) (fun q => absurd hb3 q) (fun _ => ?_)
        refine sx_aload_n (i := 0) k268_396 rfl rfl ?_
        refine sx_aload_n (i := 0) k268_397 rfl rfl ?_
        refine cx_getR (k := 15) k268_398 ow_268 fl_12_123 (by decide) sk_129 ft_11_15 sr_129_15 ?_
        refine sx_iload_n (i := 1) k268_401 rfl rfl ?_
        refine sx_iconst (v := 4) k268_402 (by decide) ?_
        refine sx_iadd k268_403 ?_
        obtain ⟨x4, e5, h⟩ := Option.bind_eq_some_iff.mp h
        refine cx_iald k268_404 sk_139 e5 ?_
        refine sx_iload k268_405 rfl ?_
        refine sx_iload k268_407 rfl ?_
        obtain ⟨r6, e7, h⟩ := Option.bind_eq_some_iff.mp h
        refine cx_V (sk := []) (vs := [.int x4, .int v7, .int v6]) st_268_269 k268_409 ow_268 cl_12_157 (by decide) rfl (Nat.le_of_ble_eq_true rfl) sk_129 (ok269 x4 v7 v6 _ _ e7) (sk3 := []) rfl rfl ?_
        exact cx_retv k268_412 rt_268 h
      · rw [if_neg hb3] at h
        refine sx_if_ne (tgt := 412) k268_393 (by decide) (fun _ => ?_) (fun q => absurd q hb3)
        exact cx_retv k268_412 rt_268 h
    · rw [if_neg hb2] at h
      refine sx_if_eq (tgt := 389) k268_341 (by decide) (fun q => absurd q hb2) (fun _ => ?_)
      refine sx_aload_n (i := 0) k268_344 rfl rfl ?_
      refine sx_aload_n (i := 0) k268_345 rfl rfl ?_
      refine cx_getI (k := 23) k268_346 ow_268 fl_12_133 (by decide) sk_129 ft_11_23 ?_
      refine sx_iconst (v := 1) k268_349 (by decide) ?_
      refine sx_iadd k268_350 ?_
      refine sx_iconst (v := 3) k268_351 (by decide) ?_
      refine sx_iand k268_352 ?_
      obtain ⟨m8, e9, h⟩ := Option.bind_eq_some_iff.mp h
      refine cx_putI (k := 23) k268_353 ow_268 fl_12_133 (by decide) sk_129 nf_11_23 fu_11_23 e9 ?_
      refine sx_aload_n (i := 0) k268_356 rfl rfl ?_
      refine cx_getI (k := 104) k268_357 ow_268 fl_12_148 (by decide) sk_129 ft_11_104 ?_
      refine sx_bipush (v := 8) k268_360 (by decide) ?_
      by_cases hb10 : (8 : Int32) ≤ (m8.1 129 104)
      · rw [if_pos hb10] at h
        refine sx_icmp_ge (tgt := 376) k268_362 (by decide) (fun _ => ?_) (fun q => absurd hb10 q)
        refine sx_aload_n (i := 0) k268_376 rfl rfl ?_
        refine sx_dup k268_377 rfl ?_
        refine cx_getI (k := 25) k268_378 ow_268 fl_12_154 (by decide) sk_129 ft_11_25 ?_
        refine sx_iconst (v := 1) k268_381 (by decide) ?_
        refine sx_iadd k268_382 ?_
        obtain ⟨m11, e12, h⟩ := Option.bind_eq_some_iff.mp h
        refine cx_putI (k := 25) k268_383 ow_268 fl_12_154 (by decide) sk_129 nf_11_25 fu_11_25 e12 ?_
        refine sx_goto (tgt := 412) k268_386 (by decide) ?_
        exact cx_retv k268_412 rt_268 h
      · rw [if_neg hb10] at h
        refine sx_icmp_ge (tgt := 376) k268_362 (by decide) (fun q => absurd q hb10) (fun _ => ?_)
        refine sx_aload_n (i := 0) k268_365 rfl rfl ?_
        refine sx_iload k268_366 rfl ?_
        refine sx_iload k268_368 rfl ?_
        obtain ⟨r13, e14, h⟩ := Option.bind_eq_some_iff.mp h
        refine cx_V (sk := []) (vs := [.int v7, .int v6]) st_268_270 k268_370 ow_268 cl_12_151 (by decide) rfl (Nat.le_of_ble_eq_true rfl) sk_129 (ok270 v7 v6 _ _ e14) (sk3 := []) rfl rfl ?_
        refine sx_goto (tgt := 412) k268_373 (by decide) ?_
        exact cx_retv k268_412 rt_268 h
  · rw [if_neg hb1] at h
    refine sx_if_eq (tgt := 339) k268_264 (by decide) (fun q => absurd q hb1) (fun _ => ?_)
    refine sx_aload_n (i := 0) k268_267 rfl rfl ?_
    refine sx_aload_n (i := 0) k268_268 rfl rfl ?_
    refine cx_getI (k := 23) k268_269 ow_268 fl_12_133 (by decide) sk_129 ft_11_23 ?_
    refine sx_iconst (v := 1) k268_272 (by decide) ?_
    refine sx_iadd k268_273 ?_
    refine sx_iconst (v := 3) k268_274 (by decide) ?_
    refine sx_iand k268_275 ?_
    obtain ⟨m15, e16, h⟩ := Option.bind_eq_some_iff.mp h
    refine cx_putI (k := 23) k268_276 ow_268 fl_12_133 (by decide) sk_129 nf_11_23 fu_11_23 e16 ?_
    refine sx_iload k268_279 rfl ?_
    by_cases hb17 : v8 = 0
    · rw [if_pos hb17] at h
      refine sx_if_eq (tgt := 289) k268_281 (by decide) (fun _ => ?_) (fun q => absurd hb17 q)
      refine sx_pick (lo2 := [(0, .ref 129), (7, .int v7), (8, .int v8)]) [0, 5, 6] rfl ?_
      exact c268_289_ok v7 v8 _ _ h
    · rw [if_neg hb17] at h
      refine sx_if_eq (tgt := 289) k268_281 (by decide) (fun q => absurd q hb17) (fun _ => ?_)
      refine sx_aload_n (i := 0) k268_284 rfl rfl ?_
      refine sx_iconst (v := 0) k268_285 (by decide) ?_
      obtain ⟨m18, e19, h⟩ := Option.bind_eq_some_iff.mp h
      refine cx_putZ (k := 20) k268_286 ow_268 fl_12_136 (by decide) sk_129 nf_11_20 fu_11_20 e19 ?_
      refine sx_pick (lo2 := [(0, .ref 129), (7, .int v7), (8, .int v8)]) [0, 5, 6] rfl ?_
      exact c268_289_ok v7 v8 _ _ h
def c268_236 (v1 : Int32) (v4 : Int32) (v5 : Int32) (v6 : Int32) (v7 : Int32) (v8 : Int32) (μ : Mem) : Option (Mem) :=
  if v5 = 0 then
    if v6 ≤ (60 : Int32) then
      c268_262 v1 v4 v5 v6 v7 v8 μ
    else
      c268_248 μ
  else
    c268_262 v1 v4 v5 v6 v7 v8 μ
theorem c268_236_ok {L : Nat} (v1 : Int32) (v4 : Int32) (v5 : Int32) (v6 : Int32) (v7 : Int32) (v8 : Int32) (μ : Mem) (res : Mem) (h : c268_236 v1 v4 v5 v6 v7 v8 μ = some res) : Sx 268 236 [(0, .ref 129), (1, .int v1), (4, .int v4), (5, .int v5), (6, .int v6), (7, .int v7), (8, .int v8)] [] 0 0 (mk L μ) (mk L res, none) := by
  unfold c268_236 at h
  refine sx_iload k268_236 rfl ?_
  by_cases hb1 : v5 = 0
  · rw [if_pos hb1] at h
    refine sx_if_ne (tgt := 262) k268_238 (by decide) (fun q => absurd hb1 q) (fun _ => ?_)
    refine sx_iload k268_241 rfl ?_
    refine sx_bipush (v := 60) k268_243 (by decide) ?_
    by_cases hb2 : v6 ≤ (60 : Int32)
    · rw [if_pos hb2] at h
      refine sx_icmp_le (tgt := 262) k268_245 (by decide) (fun _ => ?_) (fun q => absurd hb2 q)
      refine sx_pick (lo2 := [(0, .ref 129), (1, .int v1), (4, .int v4), (5, .int v5), (6, .int v6), (7, .int v7), (8, .int v8)]) [0, 1, 2, 3, 4, 5, 6] rfl ?_
      exact c268_262_ok v1 v4 v5 v6 v7 v8 _ _ h
    · rw [if_neg hb2] at h
      refine sx_icmp_le (tgt := 262) k268_245 (by decide) (fun q => absurd q hb2) (fun _ => ?_)
      refine sx_pick (lo2 := [(0, .ref 129)]) [0] rfl ?_
      exact c268_248_ok _ _ h
  · rw [if_neg hb1] at h
    refine sx_if_ne (tgt := 262) k268_238 (by decide) (fun _ => ?_) (fun q => absurd q hb1)
    refine sx_pick (lo2 := [(0, .ref 129), (1, .int v1), (4, .int v4), (5, .int v5), (6, .int v6), (7, .int v7), (8, .int v8)]) [0, 1, 2, 3, 4, 5, 6] rfl ?_
    exact c268_262_ok v1 v4 v5 v6 v7 v8 _ _ h
def c268_210 (v1 : Int32) (v3 : Int32) (v4 : Int32) (v5 : Int32) (v6 : Int32) (v7 : Int32) (v8 : Int32) (s0 : Int32) (μ : Mem) : Option (Mem) :=
  if v3 = 0 then
    c268_248 μ
  else
    if v5 = 0 then
      c268_236 v1 v4 v5 v6 v7 v8 μ
    else
      if v4 = 0 then
        c268_248 μ
      else
        if v8 = 0 then
          if s0 = 0 then
            c268_248 μ
          else
            c268_236 v1 v4 v5 v6 v7 v8 μ
        else
          c268_236 v1 v4 v5 v6 v7 v8 μ
theorem c268_210_ok {L : Nat} (v1 : Int32) (v3 : Int32) (v4 : Int32) (v5 : Int32) (v6 : Int32) (v7 : Int32) (v8 : Int32) (s0 : Int32) (μ : Mem) (res : Mem) (h : c268_210 v1 v3 v4 v5 v6 v7 v8 s0 μ = some res) : Sx 268 210 [(0, .ref 129), (1, .int v1), (3, .int v3), (4, .int v4), (5, .int v5), (6, .int v6), (7, .int v7), (8, .int v8)] [.int s0] 0 0 (mk L μ) (mk L res, none) := by
  unfold c268_210 at h
  refine cx_istore (lo2 := [(9, .int s0), (0, .ref 129), (1, .int v1), (3, .int v3), (4, .int v4), (5, .int v5), (6, .int v6), (7, .int v7), (8, .int v8)]) k268_210 (by rw [mx_268]; decide) rfl ?_
  refine sx_iload_n (i := 3) k268_212 rfl rfl ?_
  by_cases hb1 : v3 = 0
  · rw [if_pos hb1] at h
    refine sx_if_eq (tgt := 248) k268_213 (by decide) (fun _ => ?_) (fun q => absurd hb1 q)
    refine sx_pick (lo2 := [(0, .ref 129)]) [1] rfl ?_
    exact c268_248_ok _ _ h
  · rw [if_neg hb1] at h
    refine sx_if_eq (tgt := 248) k268_213 (by decide) (fun q => absurd q hb1) (fun _ => ?_)
    refine sx_iload k268_216 rfl ?_
    by_cases hb2 : v5 = 0
    · rw [if_pos hb2] at h
      refine sx_if_eq (tgt := 236) k268_218 (by decide) (fun _ => ?_) (fun q => absurd hb2 q)
      refine sx_pick (lo2 := [(0, .ref 129), (1, .int v1), (4, .int v4), (5, .int v5), (6, .int v6), (7, .int v7), (8, .int v8)]) [1, 2, 4, 5, 6, 7, 8] rfl ?_
      exact c268_236_ok v1 v4 v5 v6 v7 v8 _ _ h
    · rw [if_neg hb2] at h
      refine sx_if_eq (tgt := 236) k268_218 (by decide) (fun q => absurd q hb2) (fun _ => ?_)
      refine sx_iload k268_221 rfl ?_
      by_cases hb3 : v4 = 0
      · rw [if_pos hb3] at h
        refine sx_if_eq (tgt := 248) k268_223 (by decide) (fun _ => ?_) (fun q => absurd hb3 q)
        refine sx_pick (lo2 := [(0, .ref 129)]) [1] rfl ?_
        exact c268_248_ok _ _ h
      · rw [if_neg hb3] at h
        refine sx_if_eq (tgt := 248) k268_223 (by decide) (fun q => absurd q hb3) (fun _ => ?_)
        refine sx_iload k268_226 rfl ?_
        by_cases hb4 : v8 = 0
        · rw [if_pos hb4] at h
          refine sx_if_ne (tgt := 236) k268_228 (by decide) (fun q => absurd hb4 q) (fun _ => ?_)
          refine sx_iload k268_231 rfl ?_
          by_cases hb5 : s0 = 0
          · rw [if_pos hb5] at h
            refine sx_if_eq (tgt := 248) k268_233 (by decide) (fun _ => ?_) (fun q => absurd hb5 q)
            refine sx_pick (lo2 := [(0, .ref 129)]) [1] rfl ?_
            exact c268_248_ok _ _ h
          · rw [if_neg hb5] at h
            refine sx_if_eq (tgt := 248) k268_233 (by decide) (fun q => absurd q hb5) (fun _ => ?_)
            refine sx_pick (lo2 := [(0, .ref 129), (1, .int v1), (4, .int v4), (5, .int v5), (6, .int v6), (7, .int v7), (8, .int v8)]) [1, 2, 4, 5, 6, 7, 8] rfl ?_
            exact c268_236_ok v1 v4 v5 v6 v7 v8 _ _ h
        · rw [if_neg hb4] at h
          refine sx_if_ne (tgt := 236) k268_228 (by decide) (fun _ => ?_) (fun q => absurd q hb4)
          refine sx_pick (lo2 := [(0, .ref 129), (1, .int v1), (4, .int v4), (5, .int v5), (6, .int v6), (7, .int v7), (8, .int v8)]) [1, 2, 4, 5, 6, 7, 8] rfl ?_
          exact c268_236_ok v1 v4 v5 v6 v7 v8 _ _ h
def c268_209 (v1 : Int32) (v3 : Int32) (v4 : Int32) (v5 : Int32) (v6 : Int32) (v7 : Int32) (v8 : Int32) (μ : Mem) : Option (Mem) :=
  c268_210 v1 v3 v4 v5 v6 v7 v8 (0 : Int32) μ
theorem c268_209_ok {L : Nat} (v1 : Int32) (v3 : Int32) (v4 : Int32) (v5 : Int32) (v6 : Int32) (v7 : Int32) (v8 : Int32) (μ : Mem) (res : Mem) (h : c268_209 v1 v3 v4 v5 v6 v7 v8 μ = some res) : Sx 268 209 [(0, .ref 129), (1, .int v1), (3, .int v3), (4, .int v4), (5, .int v5), (6, .int v6), (7, .int v7), (8, .int v8)] [] 0 0 (mk L μ) (mk L res, none) := by
  unfold c268_209 at h
  refine sx_iconst (v := 0) k268_209 (by decide) ?_
  refine sx_pick (lo2 := [(0, .ref 129), (1, .int v1), (3, .int v3), (4, .int v4), (5, .int v5), (6, .int v6), (7, .int v7), (8, .int v8)]) [0, 1, 2, 3, 4, 5, 6, 7] rfl ?_
  exact c268_210_ok v1 v3 v4 v5 v6 v7 v8 (0 : Int32) _ _ h
def c268_172 (v1 : Int32) (v3 : Int32) (v4 : Int32) (v5 : Int32) (v6 : Int32) (v7 : Int32) (s0 : Int32) (μ : Mem) : Option (Mem) :=
  if v6 = (3 : Int32) then
    (ldA 139 v7 μ).bind fun x2 =>
    if x2 = (130 : Int32) then
      (ldA 139 (v7 + (1 : Int32)) μ).bind fun x5 =>
      if x5 = 0 then
        c268_210 v1 v3 v4 v5 v6 v7 s0 (1 : Int32) μ
      else
        c268_209 v1 v3 v4 v5 v6 v7 s0 μ
    else
      c268_209 v1 v3 v4 v5 v6 v7 s0 μ
  else
    c268_209 v1 v3 v4 v5 v6 v7 s0 μ
theorem c268_172_ok {L : Nat} (v1 : Int32) (v3 : Int32) (v4 : Int32) (v5 : Int32) (v6 : Int32) (v7 : Int32) (s0 : Int32) (μ : Mem) (res : Mem) (h : c268_172 v1 v3 v4 v5 v6 v7 s0 μ = some res) : Sx 268 172 [(0, .ref 129), (1, .int v1), (3, .int v3), (4, .int v4), (5, .int v5), (6, .int v6), (7, .int v7)] [.int s0] 0 0 (mk L μ) (mk L res, none) := by
  unfold c268_172 at h
  refine cx_istore (lo2 := [(8, .int s0), (0, .ref 129), (1, .int v1), (3, .int v3), (4, .int v4), (5, .int v5), (6, .int v6), (7, .int v7)]) k268_172 (by rw [mx_268]; decide) rfl ?_
  refine sx_iload k268_174 rfl ?_
  refine sx_iconst (v := 3) k268_176 (by decide) ?_
  by_cases hb1 : v6 = (3 : Int32)
  · rw [if_pos hb1] at h
    refine sx_icmp_ne (tgt := 209) k268_177 (by decide) (fun q => absurd hb1 q) (fun _ => ?_)
    refine sx_aload_n (i := 0) k268_180 rfl rfl ?_
    refine cx_getR (k := 15) k268_181 ow_268 fl_12_123 (by decide) sk_129 ft_11_15 sr_129_15 ?_
    refine sx_iload k268_184 rfl ?_
    obtain ⟨x2, e3, h⟩ := Option.bind_eq_some_iff.mp h
    refine cx_iald k268_186 sk_139 e3 ?_
    refine sx_sipush (v := 130) k268_187 (by decide) ?_
    by_cases hb4 : x2 = (130 : Int32)
    · rw [if_pos hb4] at h
      refine sx_icmp_ne (tgt := 209) k268_190 (by decide) (fun q => absurd hb4 q) (fun _ => ?_)
      refine sx_aload_n (i := 0) k268_193 rfl rfl ?_
      refine cx_getR (k := 15) k268_194 ow_268 fl_12_123 (by decide) sk_129 ft_11_15 sr_129_15 ?_
      refine sx_iload k268_197 rfl ?_
      refine sx_iconst (v := 1) k268_199 (by decide) ?_
      refine sx_iadd k268_200 ?_
      obtain ⟨x5, e6, h⟩ := Option.bind_eq_some_iff.mp h
      refine cx_iald k268_201 sk_139 e6 ?_
      by_cases hb7 : x5 = 0
      · rw [if_pos hb7] at h
        refine sx_if_ne (tgt := 209) k268_202 (by decide) (fun q => absurd hb7 q) (fun _ => ?_)
        refine sx_iconst (v := 1) k268_205 (by decide) ?_
        refine sx_goto (tgt := 210) k268_206 (by decide) ?_
        refine sx_pick (lo2 := [(0, .ref 129), (1, .int v1), (3, .int v3), (4, .int v4), (5, .int v5), (6, .int v6), (7, .int v7), (8, .int s0)]) [1, 2, 3, 4, 5, 6, 7, 0] rfl ?_
        exact c268_210_ok v1 v3 v4 v5 v6 v7 s0 (1 : Int32) _ _ h
      · rw [if_neg hb7] at h
        refine sx_if_ne (tgt := 209) k268_202 (by decide) (fun _ => ?_) (fun q => absurd q hb7)
        refine sx_pick (lo2 := [(0, .ref 129), (1, .int v1), (3, .int v3), (4, .int v4), (5, .int v5), (6, .int v6), (7, .int v7), (8, .int s0)]) [1, 2, 3, 4, 5, 6, 7, 0] rfl ?_
        exact c268_209_ok v1 v3 v4 v5 v6 v7 s0 _ _ h
    · rw [if_neg hb4] at h
      refine sx_icmp_ne (tgt := 209) k268_190 (by decide) (fun _ => ?_) (fun q => absurd q hb4)
      refine sx_pick (lo2 := [(0, .ref 129), (1, .int v1), (3, .int v3), (4, .int v4), (5, .int v5), (6, .int v6), (7, .int v7), (8, .int s0)]) [1, 2, 3, 4, 5, 6, 7, 0] rfl ?_
      exact c268_209_ok v1 v3 v4 v5 v6 v7 s0 _ _ h
  · rw [if_neg hb1] at h
    refine sx_icmp_ne (tgt := 209) k268_177 (by decide) (fun _ => ?_) (fun q => absurd q hb1)
    refine sx_pick (lo2 := [(0, .ref 129), (1, .int v1), (3, .int v3), (4, .int v4), (5, .int v5), (6, .int v6), (7, .int v7), (8, .int s0)]) [1, 2, 3, 4, 5, 6, 7, 0] rfl ?_
    exact c268_209_ok v1 v3 v4 v5 v6 v7 s0 _ _ h
def c268_171 (v1 : Int32) (v3 : Int32) (v4 : Int32) (v5 : Int32) (v6 : Int32) (v7 : Int32) (μ : Mem) : Option (Mem) :=
  c268_172 v1 v3 v4 v5 v6 v7 (0 : Int32) μ
theorem c268_171_ok {L : Nat} (v1 : Int32) (v3 : Int32) (v4 : Int32) (v5 : Int32) (v6 : Int32) (v7 : Int32) (μ : Mem) (res : Mem) (h : c268_171 v1 v3 v4 v5 v6 v7 μ = some res) : Sx 268 171 [(0, .ref 129), (1, .int v1), (3, .int v3), (4, .int v4), (5, .int v5), (6, .int v6), (7, .int v7)] [] 0 0 (mk L μ) (mk L res, none) := by
  unfold c268_171 at h
  refine sx_iconst (v := 0) k268_171 (by decide) ?_
  refine sx_pick (lo2 := [(0, .ref 129), (1, .int v1), (3, .int v3), (4, .int v4), (5, .int v5), (6, .int v6), (7, .int v7)]) [0, 1, 2, 3, 4, 5, 6] rfl ?_
  exact c268_172_ok v1 v3 v4 v5 v6 v7 (0 : Int32) _ _ h
def c268_138 (v1 : Int32) (v2 : Int32) (v3 : Int32) (v4 : Int32) (s0 : Int32) (μ : Mem) : Option (Mem) :=
  nm (v2 - (7 : Int32)) fun x1 =>
  nm (v1 + (5 : Int32)) fun x2 =>
  if x1 = (1 : Int32) then
    (ldA 139 x2 μ).bind fun x4 =>
    if x4 = 0 then
      c268_172 v1 v3 v4 s0 x1 x2 (1 : Int32) μ
    else
      c268_171 v1 v3 v4 s0 x1 x2 μ
  else
    c268_171 v1 v3 v4 s0 x1 x2 μ
theorem c268_138_ok {L : Nat} (v1 : Int32) (v2 : Int32) (v3 : Int32) (v4 : Int32) (s0 : Int32) (μ : Mem) (res : Mem) (h : c268_138 v1 v2 v3 v4 s0 μ = some res) : Sx 268 138 [(0, .ref 129), (1, .int v1), (2, .int v2), (3, .int v3), (4, .int v4)] [.int s0] 0 0 (mk L μ) (mk L res, none) := by
  unfold c268_138 at h
  refine cx_istore (lo2 := [(5, .int s0), (0, .ref 129), (1, .int v1), (2, .int v2), (3, .int v3), (4, .int v4)]) k268_138 (by rw [mx_268]; decide) rfl ?_
  refine sx_iload_n (i := 2) k268_140 rfl rfl ?_
  refine sx_bipush (v := 7) k268_141 (by decide) ?_
  refine sx_isub k268_143 ?_
  refine cx_nm h (fun x1 h => ?_)
  refine cx_istore (lo2 := [(6, .int x1), (5, .int s0), (0, .ref 129), (1, .int v1), (2, .int v2), (3, .int v3), (4, .int v4)]) k268_144 (by rw [mx_268]; decide) rfl ?_
  refine sx_iload_n (i := 1) k268_146 rfl rfl ?_
  refine sx_iconst (v := 5) k268_147 (by decide) ?_
  refine sx_iadd k268_148 ?_
  refine cx_nm h (fun x2 h => ?_)
  refine cx_istore (lo2 := [(7, .int x2), (6, .int x1), (5, .int s0), (0, .ref 129), (1, .int v1), (2, .int v2), (3, .int v3), (4, .int v4)]) k268_149 (by rw [mx_268]; decide) rfl ?_
  refine sx_iload k268_151 rfl ?_
  refine sx_iconst (v := 1) k268_153 (by decide) ?_
  by_cases hb3 : x1 = (1 : Int32)
  · rw [if_pos hb3] at h
    refine sx_icmp_ne (tgt := 171) k268_154 (by decide) (fun q => absurd hb3 q) (fun _ => ?_)
    refine sx_aload_n (i := 0) k268_157 rfl rfl ?_
    refine cx_getR (k := 15) k268_158 ow_268 fl_12_123 (by decide) sk_129 ft_11_15 sr_129_15 ?_
    refine sx_iload k268_161 rfl ?_
    obtain ⟨x4, e5, h⟩ := Option.bind_eq_some_iff.mp h
    refine cx_iald k268_163 sk_139 e5 ?_
    by_cases hb6 : x4 = 0
    · rw [if_pos hb6] at h
      refine sx_if_ne (tgt := 171) k268_164 (by decide) (fun q => absurd hb6 q) (fun _ => ?_)
      refine sx_iconst (v := 1) k268_167 (by decide) ?_
      refine sx_goto (tgt := 172) k268_168 (by decide) ?_
      refine sx_pick (lo2 := [(0, .ref 129), (1, .int v1), (3, .int v3), (4, .int v4), (5, .int s0), (6, .int x1), (7, .int x2)]) [3, 4, 6, 7, 2, 1, 0] rfl ?_
      exact c268_172_ok v1 v3 v4 s0 x1 x2 (1 : Int32) _ _ h
    · rw [if_neg hb6] at h
      refine sx_if_ne (tgt := 171) k268_164 (by decide) (fun _ => ?_) (fun q => absurd q hb6)
      refine sx_pick (lo2 := [(0, .ref 129), (1, .int v1), (3, .int v3), (4, .int v4), (5, .int s0), (6, .int x1), (7, .int x2)]) [3, 4, 6, 7, 2, 1, 0] rfl ?_
      exact c268_171_ok v1 v3 v4 s0 x1 x2 _ _ h
  · rw [if_neg hb3] at h
    refine sx_icmp_ne (tgt := 171) k268_154 (by decide) (fun _ => ?_) (fun q => absurd q hb3)
    refine sx_pick (lo2 := [(0, .ref 129), (1, .int v1), (3, .int v3), (4, .int v4), (5, .int s0), (6, .int x1), (7, .int x2)]) [3, 4, 6, 7, 2, 1, 0] rfl ?_
    exact c268_171_ok v1 v3 v4 s0 x1 x2 _ _ h
def c268_119 (v1 : Int32) (v2 : Int32) (v3 : Int32) (s0 : Int32) (μ : Mem) : Option (Mem) :=
  (ldA 139 v1 μ).bind fun x1 =>
  if (x1 &&& (16 : Int32)) = 0 then
    c268_138 v1 v2 v3 s0 (0 : Int32) μ
  else
    c268_138 v1 v2 v3 s0 (1 : Int32) μ
theorem c268_119_ok {L : Nat} (v1 : Int32) (v2 : Int32) (v3 : Int32) (s0 : Int32) (μ : Mem) (res : Mem) (h : c268_119 v1 v2 v3 s0 μ = some res) : Sx 268 119 [(0, .ref 129), (1, .int v1), (2, .int v2), (3, .int v3)] [.int s0] 0 0 (mk L μ) (mk L res, none) := by
  unfold c268_119 at h
  refine cx_istore (lo2 := [(4, .int s0), (0, .ref 129), (1, .int v1), (2, .int v2), (3, .int v3)]) k268_119 (by rw [mx_268]; decide) rfl ?_
  refine sx_aload_n (i := 0) k268_121 rfl rfl ?_
  refine cx_getR (k := 15) k268_122 ow_268 fl_12_123 (by decide) sk_129 ft_11_15 sr_129_15 ?_
  refine sx_iload_n (i := 1) k268_125 rfl rfl ?_
  obtain ⟨x1, e2, h⟩ := Option.bind_eq_some_iff.mp h
  refine cx_iald k268_126 sk_139 e2 ?_
  refine sx_bipush (v := 16) k268_127 (by decide) ?_
  refine sx_iand k268_129 ?_
  by_cases hb3 : (x1 &&& (16 : Int32)) = 0
  · rw [if_pos hb3] at h
    refine sx_if_eq (tgt := 137) k268_130 (by decide) (fun _ => ?_) (fun q => absurd hb3 q)
    refine sx_iconst (v := 0) k268_137 (by decide) ?_
    refine sx_pick (lo2 := [(0, .ref 129), (1, .int v1), (2, .int v2), (3, .int v3), (4, .int s0)]) [1, 2, 3, 4, 0] rfl ?_
    exact c268_138_ok v1 v2 v3 s0 (0 : Int32) _ _ h
  · rw [if_neg hb3] at h
    refine sx_if_eq (tgt := 137) k268_130 (by decide) (fun q => absurd q hb3) (fun _ => ?_)
    refine sx_iconst (v := 1) k268_133 (by decide) ?_
    refine sx_goto (tgt := 138) k268_134 (by decide) ?_
    refine sx_pick (lo2 := [(0, .ref 129), (1, .int v1), (2, .int v2), (3, .int v3), (4, .int s0)]) [1, 2, 3, 4, 0] rfl ?_
    exact c268_138_ok v1 v2 v3 s0 (1 : Int32) _ _ h
def c268_101 (v1 : Int32) (v2 : Int32) (s0 : Int32) (μ : Mem) : Option (Mem) :=
  (ldA 139 v1 μ).bind fun x1 =>
  if (x1 &&& (32 : Int32)) = 0 then
    c268_119 v1 v2 s0 (0 : Int32) μ
  else
    c268_119 v1 v2 s0 (1 : Int32) μ
theorem c268_101_ok {L : Nat} (v1 : Int32) (v2 : Int32) (s0 : Int32) (μ : Mem) (res : Mem) (h : c268_101 v1 v2 s0 μ = some res) : Sx 268 101 [(0, .ref 129), (1, .int v1), (2, .int v2)] [.int s0] 0 0 (mk L μ) (mk L res, none) := by
  unfold c268_101 at h
  refine cx_istore_n (lo2 := [(3, .int s0), (0, .ref 129), (1, .int v1), (2, .int v2)]) k268_101 rfl (by rw [mx_268]; decide) rfl ?_
  refine sx_aload_n (i := 0) k268_102 rfl rfl ?_
  refine cx_getR (k := 15) k268_103 ow_268 fl_12_123 (by decide) sk_129 ft_11_15 sr_129_15 ?_
  refine sx_iload_n (i := 1) k268_106 rfl rfl ?_
  obtain ⟨x1, e2, h⟩ := Option.bind_eq_some_iff.mp h
  refine cx_iald k268_107 sk_139 e2 ?_
  refine sx_bipush (v := 32) k268_108 (by decide) ?_
  refine sx_iand k268_110 ?_
  by_cases hb3 : (x1 &&& (32 : Int32)) = 0
  · rw [if_pos hb3] at h
    refine sx_if_eq (tgt := 118) k268_111 (by decide) (fun _ => ?_) (fun q => absurd hb3 q)
    refine sx_iconst (v := 0) k268_118 (by decide) ?_
    refine sx_pick (lo2 := [(0, .ref 129), (1, .int v1), (2, .int v2), (3, .int s0)]) [1, 2, 3, 0] rfl ?_
    exact c268_119_ok v1 v2 s0 (0 : Int32) _ _ h
  · rw [if_neg hb3] at h
    refine sx_if_eq (tgt := 118) k268_111 (by decide) (fun q => absurd q hb3) (fun _ => ?_)
    refine sx_iconst (v := 1) k268_114 (by decide) ?_
    refine sx_goto (tgt := 119) k268_115 (by decide) ?_
    refine sx_pick (lo2 := [(0, .ref 129), (1, .int v1), (2, .int v2), (3, .int s0)]) [1, 2, 3, 0] rfl ?_
    exact c268_119_ok v1 v2 s0 (1 : Int32) _ _ h
def c268_100 (v1 : Int32) (v2 : Int32) (μ : Mem) : Option (Mem) :=
  c268_101 v1 v2 (0 : Int32) μ
theorem c268_100_ok {L : Nat} (v1 : Int32) (v2 : Int32) (μ : Mem) (res : Mem) (h : c268_100 v1 v2 μ = some res) : Sx 268 100 [(0, .ref 129), (1, .int v1), (2, .int v2)] [] 0 0 (mk L μ) (mk L res, none) := by
  unfold c268_100 at h
  refine sx_iconst (v := 0) k268_100 (by decide) ?_
  refine sx_pick (lo2 := [(0, .ref 129), (1, .int v1), (2, .int v2)]) [0, 1, 2] rfl ?_
  exact c268_101_ok v1 v2 (0 : Int32) _ _ h
def c268_53 (v1 : Int32) (v2 : Int32) (s0 : Int32) (μ : Mem) : Option (Mem) :=
  if s0 = 0 then
    c268_100 v1 v2 μ
  else
    (f245 139 v1 (v2 - (2 : Int32)) μ).bind fun r2 =>
    (ldA 139 ((v1 + v2) - (2 : Int32)) r2.1).bind fun x4 =>
    (ldA 139 ((v1 + v2) - (1 : Int32)) r2.1).bind fun x6 =>
    if r2.2 = ((jshl x4 (8 : Int32)) ||| x6) then
      c268_101 v1 v2 (1 : Int32) r2.1
    else
      c268_100 v1 v2 r2.1
theorem c268_53_ok {L : Nat} (v1 : Int32) (v2 : Int32) (s0 : Int32) (μ : Mem) (res : Mem) (h : c268_53 v1 v2 s0 μ = some res) : Sx 268 53 [(0, .ref 129), (1, .int v1), (2, .int v2)] [.int s0] 0 0 (mk L μ) (mk L res, none) := by
  unfold c268_53 at h
  refine cx_istore_n (lo2 := [(3, .int s0), (0, .ref 129), (1, .int v1), (2, .int v2)]) k268_53 rfl (by rw [mx_268]; decide) rfl ?_
  refine sx_iload_n (i := 3) k268_54 rfl rfl ?_
  by_cases hb1 : s0 = 0
  · rw [if_pos hb1] at h
    refine sx_if_eq (tgt := 100) k268_55 (by decide) (fun _ => ?_) (fun q => absurd hb1 q)
    refine sx_pick (lo2 := [(0, .ref 129), (1, .int v1), (2, .int v2)]) [1, 2, 3] rfl ?_
    exact c268_100_ok v1 v2 _ _ h
  · rw [if_neg hb1] at h
    refine sx_if_eq (tgt := 100) k268_55 (by decide) (fun q => absurd q hb1) (fun _ => ?_)
    refine sx_aload_n (i := 0) k268_58 rfl rfl ?_
    refine cx_getR (k := 15) k268_59 ow_268 fl_12_123 (by decide) sk_129 ft_11_15 sr_129_15 ?_
    refine sx_iload_n (i := 1) k268_62 rfl rfl ?_
    refine sx_iload_n (i := 2) k268_63 rfl rfl ?_
    refine sx_iconst (v := 2) k268_64 (by decide) ?_
    refine sx_isub k268_65 ?_
    obtain ⟨r2, e3, h⟩ := Option.bind_eq_some_iff.mp h
    refine cx_S (sk := []) (vs := [.ref 139, .int v1, .int (v2 - (2 : Int32))]) st_268_245 k268_66 ow_268 cl_12_11 (by decide) rfl (Nat.le_of_ble_eq_true rfl) (ok245 139 v1 (v2 - (2 : Int32)) sk_139 _ _ e3) (sk3 := [.int r2.2]) rfl rfl ?_
    refine sx_aload_n (i := 0) k268_69 rfl rfl ?_
    refine cx_getR (k := 15) k268_70 ow_268 fl_12_123 (by decide) sk_129 ft_11_15 sr_129_15 ?_
    refine sx_iload_n (i := 1) k268_73 rfl rfl ?_
    refine sx_iload_n (i := 2) k268_74 rfl rfl ?_
    refine sx_iadd k268_75 ?_
    refine sx_iconst (v := 2) k268_76 (by decide) ?_
    refine sx_isub k268_77 ?_
    obtain ⟨x4, e5, h⟩ := Option.bind_eq_some_iff.mp h
    refine cx_iald k268_78 sk_139 e5 ?_
    refine sx_bipush (v := 8) k268_79 (by decide) ?_
    refine sx_ishl k268_81 ?_
    refine sx_aload_n (i := 0) k268_82 rfl rfl ?_
    refine cx_getR (k := 15) k268_83 ow_268 fl_12_123 (by decide) sk_129 ft_11_15 sr_129_15 ?_
    refine sx_iload_n (i := 1) k268_86 rfl rfl ?_
    refine sx_iload_n (i := 2) k268_87 rfl rfl ?_
    refine sx_iadd k268_88 ?_
    refine sx_iconst (v := 1) k268_89 (by decide) ?_
    refine sx_isub k268_90 ?_
    obtain ⟨x6, e7, h⟩ := Option.bind_eq_some_iff.mp h
    refine cx_iald k268_91 sk_139 e7 ?_
    refine sx_ior k268_92 ?_
    by_cases hb8 : r2.2 = ((jshl x4 (8 : Int32)) ||| x6)
    · rw [if_pos hb8] at h
      refine sx_icmp_ne (tgt := 100) k268_93 (by decide) (fun q => absurd hb8 q) (fun _ => ?_)
      refine sx_iconst (v := 1) k268_96 (by decide) ?_
      refine sx_goto (tgt := 101) k268_97 (by decide) ?_
      refine sx_pick (lo2 := [(0, .ref 129), (1, .int v1), (2, .int v2)]) [1, 2, 3] rfl ?_
      exact c268_101_ok v1 v2 (1 : Int32) _ _ h
    · rw [if_neg hb8] at h
      refine sx_icmp_ne (tgt := 100) k268_93 (by decide) (fun _ => ?_) (fun q => absurd q hb8)
      refine sx_pick (lo2 := [(0, .ref 129), (1, .int v1), (2, .int v2)]) [1, 2, 3] rfl ?_
      exact c268_100_ok v1 v2 _ _ h
def c268_52 (v1 : Int32) (v2 : Int32) (μ : Mem) : Option (Mem) :=
  c268_53 v1 v2 (0 : Int32) μ
theorem c268_52_ok {L : Nat} (v1 : Int32) (v2 : Int32) (μ : Mem) (res : Mem) (h : c268_52 v1 v2 μ = some res) : Sx 268 52 [(0, .ref 129), (1, .int v1), (2, .int v2)] [] 0 0 (mk L μ) (mk L res, none) := by
  unfold c268_52 at h
  refine sx_iconst (v := 0) k268_52 (by decide) ?_
  refine sx_pick (lo2 := [(0, .ref 129), (1, .int v1), (2, .int v2)]) [0, 1, 2] rfl ?_
  exact c268_53_ok v1 v2 (0 : Int32) _ _ h
/-- CraftHouseModel.frameComes(II)V -/
def f268 (p1 : Int32) (p2 : Int32) (μ : Mem) : Option (Mem) :=
  if p2 < (8 : Int32) then
    c268_52 p1 p2 μ
  else
    (ldA 139 p1 μ).bind fun x2 =>
    if (x2 &&& (207 : Int32)) = 0 then
      (ldA 139 (p1 + (1 : Int32)) μ).bind fun x5 =>
      if x5 = (171 : Int32) then
        (ldA 139 (p1 + (2 : Int32)) μ).bind fun x8 =>
        if (x8 &&& (252 : Int32)) = 0 then
          c268_53 p1 p2 (1 : Int32) μ
        else
          c268_52 p1 p2 μ
      else
        c268_52 p1 p2 μ
    else
      c268_52 p1 p2 μ
theorem ok268 {L : Nat} (p1 : Int32) (p2 : Int32) (μ : Mem) (res : Mem) (h : f268 p1 p2 μ = some res) : Mx 268 [.ref 129, .int p1, .int p2] (mk L μ) (mk L res, none) := by
  refine Mx_of ml_268 (by rw [mx_268]; exact Nat.le_of_ble_eq_true rfl) ?_
  show Sx 268 0 [(0, .ref 129), (1, .int p1), (2, .int p2)] [] 0 0 (mk L μ) _
  unfold f268 at h
  refine sx_iload_n (i := 2) k268_0 rfl rfl ?_
  refine sx_bipush (v := 8) k268_1 (by decide) ?_
  by_cases hb1 : p2 < (8 : Int32)
  · rw [if_pos hb1] at h
    refine sx_icmp_lt (tgt := 52) k268_3 (by decide) (fun _ => ?_) (fun q => absurd hb1 q)
    refine sx_pick (lo2 := [(0, .ref 129), (1, .int p1), (2, .int p2)]) [0, 1, 2] rfl ?_
    exact c268_52_ok p1 p2 _ _ h
  · rw [if_neg hb1] at h
    refine sx_icmp_lt (tgt := 52) k268_3 (by decide) (fun q => absurd q hb1) (fun _ => ?_)
    refine sx_aload_n (i := 0) k268_6 rfl rfl ?_
    refine cx_getR (k := 15) k268_7 ow_268 fl_12_123 (by decide) sk_129 ft_11_15 sr_129_15 ?_
    refine sx_iload_n (i := 1) k268_10 rfl rfl ?_
    obtain ⟨x2, e3, h⟩ := Option.bind_eq_some_iff.mp h
    refine cx_iald k268_11 sk_139 e3 ?_
    refine sx_sipush (v := 207) k268_12 (by decide) ?_
    refine sx_iand k268_15 ?_
    by_cases hb4 : (x2 &&& (207 : Int32)) = 0
    · rw [if_pos hb4] at h
      refine sx_if_ne (tgt := 52) k268_16 (by decide) (fun q => absurd hb4 q) (fun _ => ?_)
      refine sx_aload_n (i := 0) k268_19 rfl rfl ?_
      refine cx_getR (k := 15) k268_20 ow_268 fl_12_123 (by decide) sk_129 ft_11_15 sr_129_15 ?_
      refine sx_iload_n (i := 1) k268_23 rfl rfl ?_
      refine sx_iconst (v := 1) k268_24 (by decide) ?_
      refine sx_iadd k268_25 ?_
      obtain ⟨x5, e6, h⟩ := Option.bind_eq_some_iff.mp h
      refine cx_iald k268_26 sk_139 e6 ?_
      refine sx_sipush (v := 171) k268_27 (by decide) ?_
      by_cases hb7 : x5 = (171 : Int32)
      · rw [if_pos hb7] at h
        refine sx_icmp_ne (tgt := 52) k268_30 (by decide) (fun q => absurd hb7 q) (fun _ => ?_)
        refine sx_aload_n (i := 0) k268_33 rfl rfl ?_
        refine cx_getR (k := 15) k268_34 ow_268 fl_12_123 (by decide) sk_129 ft_11_15 sr_129_15 ?_
        refine sx_iload_n (i := 1) k268_37 rfl rfl ?_
        refine sx_iconst (v := 2) k268_38 (by decide) ?_
        refine sx_iadd k268_39 ?_
        obtain ⟨x8, e9, h⟩ := Option.bind_eq_some_iff.mp h
        refine cx_iald k268_40 sk_139 e9 ?_
        refine sx_sipush (v := 252) k268_41 (by decide) ?_
        refine sx_iand k268_44 ?_
        by_cases hb10 : (x8 &&& (252 : Int32)) = 0
        · rw [if_pos hb10] at h
          refine sx_if_ne (tgt := 52) k268_45 (by decide) (fun q => absurd hb10 q) (fun _ => ?_)
          refine sx_iconst (v := 1) k268_48 (by decide) ?_
          refine sx_goto (tgt := 53) k268_49 (by decide) ?_
          refine sx_pick (lo2 := [(0, .ref 129), (1, .int p1), (2, .int p2)]) [0, 1, 2] rfl ?_
          exact c268_53_ok p1 p2 (1 : Int32) _ _ h
        · rw [if_neg hb10] at h
          refine sx_if_ne (tgt := 52) k268_45 (by decide) (fun _ => ?_) (fun q => absurd q hb10)
          refine sx_pick (lo2 := [(0, .ref 129), (1, .int p1), (2, .int p2)]) [0, 1, 2] rfl ?_
          exact c268_52_ok p1 p2 _ _ h
      · rw [if_neg hb7] at h
        refine sx_icmp_ne (tgt := 52) k268_30 (by decide) (fun _ => ?_) (fun q => absurd q hb7)
        refine sx_pick (lo2 := [(0, .ref 129), (1, .int p1), (2, .int p2)]) [0, 1, 2] rfl ?_
        exact c268_52_ok p1 p2 _ _ h
    · rw [if_neg hb4] at h
      refine sx_if_ne (tgt := 52) k268_16 (by decide) (fun _ => ?_) (fun q => absurd q hb4)
      refine sx_pick (lo2 := [(0, .ref 129), (1, .int p1), (2, .int p2)]) [0, 1, 2] rfl ?_
      exact c268_52_ok p1 p2 _ _ h
theorem k267_0 : decode (gb 267) 0 = .ok (.aload_n 0, 1) := by decide +kernel
theorem k267_1 : decode (gb 267) 1 = .ok (.getfield 107, 3) := by decide +kernel
theorem k267_4 : decode (gb 267) 4 = .ok (.bipush 16, 2) := by decide +kernel
theorem k267_6 : decode (gb 267) 6 = .ok (.if_icmp .ne 8, 3) := by decide +kernel
theorem k267_9 : decode (gb 267) 9 = .ok (.bipush (-2), 2) := by decide +kernel
theorem k267_11 : decode (gb 267) 11 = .ok (.goto 11, 3) := by decide +kernel
theorem k267_14 : decode (gb 267) 14 = .ok (.aload_n 0, 1) := by decide +kernel
theorem k267_15 : decode (gb 267) 15 = .ok (.getfield 113, 3) := by decide +kernel
theorem k267_18 : decode (gb 267) 18 = .ok (.iconst 0, 1) := by decide +kernel
theorem k267_19 : decode (gb 267) 19 = .ok (.invokestatic 34, 3) := by decide +kernel
theorem k267_22 : decode (gb 267) 22 = .ok (.istore_n 1, 1) := by decide +kernel
theorem k267_23 : decode (gb 267) 23 = .ok (.iload_n 1, 1) := by decide +kernel
theorem k267_24 : decode (gb 267) 24 = .ok (.bipush (-2), 2) := by decide +kernel
theorem k267_26 : decode (gb 267) 26 = .ok (.if_icmp .eq 63, 3) := by decide +kernel
theorem k267_29 : decode (gb 267) 29 = .ok (.aload_n 0, 1) := by decide +kernel
theorem k267_30 : decode (gb 267) 30 = .ok (.dup, 1) := by decide +kernel
theorem k267_31 : decode (gb 267) 31 = .ok (.getfield 120, 3) := by decide +kernel
theorem k267_34 : decode (gb 267) 34 = .ok (.iload_n 1, 1) := by decide +kernel
theorem k267_35 : decode (gb 267) 35 = .ok (.iadd, 1) := by decide +kernel
theorem k267_36 : decode (gb 267) 36 = .ok (.putfield 120, 3) := by decide +kernel
theorem k267_39 : decode (gb 267) 39 = .ok (.iconst 0, 1) := by decide +kernel
theorem k267_40 : decode (gb 267) 40 = .ok (.istore_n 2, 1) := by decide +kernel
theorem k267_41 : decode (gb 267) 41 = .ok (.iload_n 2, 1) := by decide +kernel
theorem k267_42 : decode (gb 267) 42 = .ok (.bipush 7, 2) := by decide +kernel
theorem k267_44 : decode (gb 267) 44 = .ok (.if_icmp .ge 34, 3) := by decide +kernel
theorem k267_47 : decode (gb 267) 47 = .ok (.aload_n 0, 1) := by decide +kernel
theorem k267_48 : decode (gb 267) 48 = .ok (.getfield 123, 3) := by decide +kernel
theorem k267_51 : decode (gb 267) 51 = .ok (.aload_n 0, 1) := by decide +kernel
theorem k267_52 : decode (gb 267) 52 = .ok (.getfield 110, 3) := by decide +kernel
theorem k267_55 : decode (gb 267) 55 = .ok (.aload_n 0, 1) := by decide +kernel
theorem k267_56 : decode (gb 267) 56 = .ok (.getfield 113, 3) := by decide +kernel
theorem k267_59 : decode (gb 267) 59 = .ok (.iload_n 2, 1) := by decide +kernel
theorem k267_60 : decode (gb 267) 60 = .ok (.iaload, 1) := by decide +kernel
theorem k267_61 : decode (gb 267) 61 = .ok (.iastore, 1) := by decide +kernel
theorem k267_62 : decode (gb 267) 62 = .ok (.aload_n 0, 1) := by decide +kernel
theorem k267_63 : decode (gb 267) 63 = .ok (.dup, 1) := by decide +kernel
theorem k267_64 : decode (gb 267) 64 = .ok (.getfield 110, 3) := by decide +kernel
theorem k267_67 : decode (gb 267) 67 = .ok (.iconst 1, 1) := by decide +kernel
theorem k267_68 : decode (gb 267) 68 = .ok (.iadd, 1) := by decide +kernel
theorem k267_69 : decode (gb 267) 69 = .ok (.putfield 110, 3) := by decide +kernel
theorem k267_72 : decode (gb 267) 72 = .ok (.iinc 2 1, 3) := by decide +kernel
theorem k267_75 : decode (gb 267) 75 = .ok (.goto (-34), 3) := by decide +kernel
theorem k267_78 : decode (gb 267) 78 = .ok (.aload_n 0, 1) := by decide +kernel
theorem k267_79 : decode (gb 267) 79 = .ok (.dup, 1) := by decide +kernel
theorem k267_80 : decode (gb 267) 80 = .ok (.getfield 107, 3) := by decide +kernel
theorem k267_83 : decode (gb 267) 83 = .ok (.iconst 1, 1) := by decide +kernel
theorem k267_84 : decode (gb 267) 84 = .ok (.iadd, 1) := by decide +kernel
theorem k267_85 : decode (gb 267) 85 = .ok (.putfield 107, 3) := by decide +kernel
theorem k267_88 : decode (gb 267) 88 = .ok (.return_, 1) := by decide +kernel
theorem k267_89 : decode (gb 267) 89 = .ok (.aload_n 0, 1) := by decide +kernel
theorem k267_90 : decode (gb 267) 90 = .ok (.iconst 0, 1) := by decide +kernel
theorem k267_91 : decode (gb 267) 91 = .ok (.putfield 87, 3) := by decide +kernel
theorem k267_94 : decode (gb 267) 94 = .ok (.aload_n 0, 1) := by decide +kernel
theorem k267_95 : decode (gb 267) 95 = .ok (.iconst 0, 1) := by decide +kernel
theorem k267_96 : decode (gb 267) 96 = .ok (.putfield 94, 3) := by decide +kernel
theorem k267_99 : decode (gb 267) 99 = .ok (.aload_n 0, 1) := by decide +kernel
theorem k267_100 : decode (gb 267) 100 = .ok (.iconst 0, 1) := by decide +kernel
theorem k267_101 : decode (gb 267) 101 = .ok (.putfield 91, 3) := by decide +kernel
theorem k267_104 : decode (gb 267) 104 = .ok (.aload_n 0, 1) := by decide +kernel
theorem k267_105 : decode (gb 267) 105 = .ok (.getfield 110, 3) := by decide +kernel
theorem k267_108 : decode (gb 267) 108 = .ok (.istore_n 2, 1) := by decide +kernel
theorem k267_109 : decode (gb 267) 109 = .ok (.iconst 0, 1) := by decide +kernel
theorem k267_110 : decode (gb 267) 110 = .ok (.istore_n 3, 1) := by decide +kernel
theorem k267_111 : decode (gb 267) 111 = .ok (.iconst 1, 1) := by decide +kernel
theorem k267_112 : decode (gb 267) 112 = .ok (.istore 4, 2) := by decide +kernel
theorem k267_114 : decode (gb 267) 114 = .ok (.iload 4, 2) := by decide +kernel
theorem k267_116 : decode (gb 267) 116 = .ok (.ifCond .eq 89, 3) := by decide +kernel
theorem k267_119 : decode (gb 267) 119 = .ok (.iload_n 2, 1) := by decide +kernel
theorem k267_120 : decode (gb 267) 120 = .ok (.iload_n 3, 1) := by decide +kernel
theorem k267_121 : decode (gb 267) 121 = .ok (.isub, 1) := by decide +kernel
theorem k267_122 : decode (gb 267) 122 = .ok (.bipush 7, 2) := by decide +kernel
theorem k267_124 : decode (gb 267) 124 = .ok (.if_icmp .lt 81, 3) := by decide +kernel
theorem k267_127 : decode (gb 267) 127 = .ok (.aload_n 0, 1) := by decide +kernel
theorem k267_128 : decode (gb 267) 128 = .ok (.getfield 123, 3) := by decide +kernel
theorem k267_131 : decode (gb 267) 131 = .ok (.iload_n 3, 1) := by decide +kernel
theorem k267_132 : decode (gb 267) 132 = .ok (.iaload, 1) := by decide +kernel
theorem k267_133 : decode (gb 267) 133 = .ok (.bipush 6, 2) := by decide +kernel
theorem k267_135 : decode (gb 267) 135 = .ok (.ishr, 1) := by decide +kernel
theorem k267_136 : decode (gb 267) 136 = .ok (.ifCond .ne 69, 3) := by decide +kernel
theorem k267_139 : decode (gb 267) 139 = .ok (.aload_n 0, 1) := by decide +kernel
theorem k267_140 : decode (gb 267) 140 = .ok (.getfield 123, 3) := by decide +kernel
theorem k267_143 : decode (gb 267) 143 = .ok (.iload_n 3, 1) := by decide +kernel
theorem k267_144 : decode (gb 267) 144 = .ok (.iconst 2, 1) := by decide +kernel
theorem k267_145 : decode (gb 267) 145 = .ok (.iadd, 1) := by decide +kernel
theorem k267_146 : decode (gb 267) 146 = .ok (.iaload, 1) := by decide +kernel
theorem k267_147 : decode (gb 267) 147 = .ok (.iconst 3, 1) := by decide +kernel
theorem k267_148 : decode (gb 267) 148 = .ok (.iand, 1) := by decide +kernel
theorem k267_149 : decode (gb 267) 149 = .ok (.bipush 8, 2) := by decide +kernel
theorem k267_151 : decode (gb 267) 151 = .ok (.ishl, 1) := by decide +kernel
theorem k267_152 : decode (gb 267) 152 = .ok (.aload_n 0, 1) := by decide +kernel
theorem k267_153 : decode (gb 267) 153 = .ok (.getfield 123, 3) := by decide +kernel
theorem k267_156 : decode (gb 267) 156 = .ok (.iload_n 3, 1) := by decide +kernel
theorem k267_157 : decode (gb 267) 157 = .ok (.iconst 3, 1) := by decide +kernel
theorem k267_158 : decode (gb 267) 158 = .ok (.iadd, 1) := by decide +kernel
theorem k267_159 : decode (gb 267) 159 = .ok (.iaload, 1) := by decide +kernel
theorem k267_160 : decode (gb 267) 160 = .ok (.ior, 1) := by decide +kernel
theorem k267_161 : decode (gb 267) 161 = .ok (.iconst 1, 1) := by decide +kernel
theorem k267_162 : decode (gb 267) 162 = .ok (.iadd, 1) := by decide +kernel
theorem k267_163 : decode (gb 267) 163 = .ok (.istore 5, 2) := by decide +kernel
theorem k267_165 : decode (gb 267) 165 = .ok (.iload_n 3, 1) := by decide +kernel
theorem k267_166 : decode (gb 267) 166 = .ok (.iload 5, 2) := by decide +kernel
theorem k267_168 : decode (gb 267) 168 = .ok (.iadd, 1) := by decide +kernel
theorem k267_169 : decode (gb 267) 169 = .ok (.iload_n 2, 1) := by decide +kernel
theorem k267_170 : decode (gb 267) 170 = .ok (.if_icmp .le 20, 3) := by decide +kernel
theorem k267_173 : decode (gb 267) 173 = .ok (.aload_n 0, 1) := by decide +kernel
theorem k267_174 : decode (gb 267) 174 = .ok (.getfield 126, 3) := by decide +kernel
theorem k267_177 : decode (gb 267) 177 = .ok (.bipush 17, 2) := by decide +kernel
theorem k267_179 : decode (gb 267) 179 = .ok (.dup2, 1) := by decide +kernel
theorem k267_180 : decode (gb 267) 180 = .ok (.iaload, 1) := by decide +kernel
theorem k267_181 : decode (gb 267) 181 = .ok (.iconst 1, 1) := by decide +kernel
theorem k267_182 : decode (gb 267) 182 = .ok (.iadd, 1) := by decide +kernel
theorem k267_183 : decode (gb 267) 183 = .ok (.iastore, 1) := by decide +kernel
theorem k267_184 : decode (gb 267) 184 = .ok (.iconst 0, 1) := by decide +kernel
theorem k267_185 : decode (gb 267) 185 = .ok (.istore 4, 2) := by decide +kernel
theorem k267_187 : decode (gb 267) 187 = .ok (.goto 15, 3) := by decide +kernel
theorem k267_190 : decode (gb 267) 190 = .ok (.aload_n 0, 1) := by decide +kernel
theorem k267_191 : decode (gb 267) 191 = .ok (.iload_n 3, 1) := by decide +kernel
theorem k267_192 : decode (gb 267) 192 = .ok (.iload 5, 2) := by decide +kernel
theorem k267_194 : decode (gb 267) 194 = .ok (.invokevirtual 129, 3) := by decide +kernel
theorem k267_197 : decode (gb 267) 197 = .ok (.iload_n 3, 1) := by decide +kernel
theorem k267_198 : decode (gb 267) 198 = .ok (.iload 5, 2) := by decide +kernel
theorem k267_200 : decode (gb 267) 200 = .ok (.iadd, 1) := by decide +kernel
theorem k267_201 : decode (gb 267) 201 = .ok (.istore_n 3, 1) := by decide +kernel
theorem k267_202 : decode (gb 267) 202 = .ok (.goto (-88), 3) := by decide +kernel
theorem k267_205 : decode (gb 267) 205 = .ok (.aload_n 0, 1) := by decide +kernel
theorem k267_206 : decode (gb 267) 206 = .ok (.iconst 0, 1) := by decide +kernel
theorem k267_207 : decode (gb 267) 207 = .ok (.putfield 110, 3) := by decide +kernel
theorem k267_210 : decode (gb 267) 210 = .ok (.return_, 1) := by decide +kernel
def b267_41 (kl41 : Int32 → Mem → Option (Mem)) (v2 : Int32) (μ : Mem) : Option (Mem) :=
  if (7 : Int32) ≤ v2 then
    (pfI 129 14 ((μ.1 129 14) + (1 : Int32)) μ).bind fun m2 =>
    some m2
  else
    (ldA 138 v2 μ).bind fun x4 =>
    (stA 139 (μ.1 129 16) x4 μ).bind fun m6 =>
    (pfI 129 16 ((m6.1 129 16) + (1 : Int32)) m6).bind fun m8 =>
    nm (v2 + (1 : Int32)) fun x10 =>
    kl41 x10 m8
theorem b267_41_ok {L : Nat} (kl41 : Int32 → Mem → Option (Mem)) (hk41 : (∀ (v2 : Int32) (μ : Mem) (res : Mem), kl41 v2 μ = some res → Sx 267 41 [(0, .ref 129), (2, .int v2)] [] 0 0 (mk L μ) (mk L res, none))) (v2 : Int32) (μ : Mem) (res : Mem) (h : b267_41 kl41 v2 μ = some res) : Sx 267 41 [(0, .ref 129), (2, .int v2)] [] 0 0 (mk L μ) (mk L res, none) := by
  unfold b267_41 at h
  refine sx_iload_n (i := 2) k267_41 rfl rfl ?_
  refine sx_bipush (v := 7) k267_42 (by decide) ?_
  by_cases hb1 : (7 : Int32) ≤ v2
  · rw [if_pos hb1] at h
    refine sx_icmp_ge (tgt := 78) k267_44 (by decide) (fun _ => ?_) (fun q => absurd hb1 q)
    refine sx_aload_n (i := 0) k267_78 rfl rfl ?_
    refine sx_dup k267_79 rfl ?_
    refine cx_getI (k := 14) k267_80 ow_267 fl_12_107 (by decide) sk_129 ft_11_14 ?_
    refine sx_iconst (v := 1) k267_83 (by decide) ?_
    refine sx_iadd k267_84 ?_
    obtain ⟨m2, e3, h⟩ := Option.bind_eq_some_iff.mp h
    refine cx_putI (k := 14) k267_85 ow_267 fl_12_107 (by decide) sk_129 nf_11_14 fu_11_14 e3 ?_
    exact cx_retv k267_88 rt_267 h
  · rw [if_neg hb1] at h
    refine sx_icmp_ge (tgt := 78) k267_44 (by decide) (fun q => absurd q hb1) (fun _ => ?_)
    refine sx_aload_n (i := 0) k267_47 rfl rfl ?_
    refine cx_getR (k := 15) k267_48 ow_267 fl_12_123 (by decide) sk_129 ft_11_15 sr_129_15 ?_
    refine sx_aload_n (i := 0) k267_51 rfl rfl ?_
    refine cx_getI (k := 16) k267_52 ow_267 fl_12_110 (by decide) sk_129 ft_11_16 ?_
    refine sx_aload_n (i := 0) k267_55 rfl rfl ?_
    refine cx_getR (k := 12) k267_56 ow_267 fl_12_113 (by decide) sk_129 ft_11_12 sr_129_12 ?_
    refine sx_iload_n (i := 2) k267_59 rfl rfl ?_
    obtain ⟨x4, e5, h⟩ := Option.bind_eq_some_iff.mp h
    refine cx_iald k267_60 sk_138 e5 ?_
    obtain ⟨m6, e7, h⟩ := Option.bind_eq_some_iff.mp h
    refine cx_iast k267_61 sk_139 e7 ?_
    refine sx_aload_n (i := 0) k267_62 rfl rfl ?_
    refine sx_dup k267_63 rfl ?_
    refine cx_getI (k := 16) k267_64 ow_267 fl_12_110 (by decide) sk_129 ft_11_16 ?_
    refine sx_iconst (v := 1) k267_67 (by decide) ?_
    refine sx_iadd k267_68 ?_
    obtain ⟨m8, e9, h⟩ := Option.bind_eq_some_iff.mp h
    refine cx_putI (k := 16) k267_69 ow_267 fl_12_110 (by decide) sk_129 nf_11_16 fu_11_16 e9 ?_
    refine cx_iinc (c := 1) (lo2 := fun x10 => [(2, .int x10), (0, .ref 129)]) k267_72 rfl (by decide) (by rw [mx_267]; decide) (fun _ => rfl) h (fun x10 h => ?_)
    refine sx_goto (tgt := 41) k267_75 (by decide) ?_
    refine sx_pick (lo2 := [(0, .ref 129), (2, .int x10)]) [1, 0] rfl ?_
    exact hk41 x10 _ _ h
def l267_41 : Nat → Int32 × Mem → Option (Mem) :=
  fixN (fun self x => b267_41 (fun v2 μ => self (v2, μ)) (x.1) (x.2))
theorem l267_41_ok {L : Nat} (n : Nat) (v2 : Int32) (μ : Mem) (res : Mem) (h : l267_41 n (v2, μ) = some res) : Sx 267 41 [(0, .ref 129), (2, .int v2)] [] 0 0 (mk L μ) (mk L res, none) := by
  have key := fixN_ind (P := fun x res => Sx 267 41 [(0, .ref 129), (2, .int (x.1))] [] 0 0 (mk L (x.2)) (mk L res, none)) (F := fun self x => b267_41 (fun v2 μ => self (v2, μ)) (x.1) (x.2)) (fun self hself x res h => b267_41_ok (fun v2 μ => self (v2, μ)) (fun v2 μ res hh => hself (v2, μ) res hh) (x.1) (x.2) res h) n (v2, μ) res h
  exact key
def c267_202 (kl114 : Int32 → Int32 → Int32 → Mem → Option (Mem)) (v2 : Int32) (v3 : Int32) (v4 : Int32) (μ : Mem) : Option (Mem) :=
  kl114 v2 v3 v4 μ
theorem c267_202_ok {L : Nat} (kl114 : Int32 → Int32 → Int32 → Mem → Option (Mem)) (hk114 : (∀ (v2 : Int32) (v3 : Int32) (v4 : Int32) (μ : Mem) (res : Mem), kl114 v2 v3 v4 μ = some res → Sx 267 114 [(0, .ref 129), (2, .int v2), (3, .int v3), (4, .int v4)] [] 0 0 (mk L μ) (mk L res, none))) (v2 : Int32) (v3 : Int32) (v4 : Int32) (μ : Mem) (res : Mem) (h : c267_202 kl114 v2 v3 v4 μ = some res) : Sx 267 202 [(0, .ref 129), (2, .int v2), (3, .int v3), (4, .int v4)] [] 0 0 (mk L μ) (mk L res, none) := by
  unfold c267_202 at h
  refine sx_goto (tgt := 114) k267_202 (by decide) ?_
  refine sx_pick (lo2 := [(0, .ref 129), (2, .int v2), (3, .int v3), (4, .int v4)]) [0, 1, 2, 3] rfl ?_
  exact hk114 v2 v3 v4 _ _ h
def c267_205 (μ : Mem) : Option (Mem) :=
  (pfI 129 16 (0 : Int32) μ).bind fun m1 =>
  some m1
theorem c267_205_ok {L : Nat} (μ : Mem) (res : Mem) (h : c267_205 μ = some res) : Sx 267 205 [(0, .ref 129)] [] 0 0 (mk L μ) (mk L res, none) := by
  unfold c267_205 at h
  refine sx_aload_n (i := 0) k267_205 rfl rfl ?_
  refine sx_iconst (v := 0) k267_206 (by decide) ?_
  obtain ⟨m1, e2, h⟩ := Option.bind_eq_some_iff.mp h
  refine cx_putI (k := 16) k267_207 ow_267 fl_12_110 (by decide) sk_129 nf_11_16 fu_11_16 e2 ?_
  exact cx_retv k267_210 rt_267 h
def b267_114 (kl114 : Int32 → Int32 → Int32 → Mem → Option (Mem)) (v2 : Int32) (v3 : Int32) (v4 : Int32) (μ : Mem) : Option (Mem) :=
  if v4 = 0 then
    c267_205 μ
  else
    if (v2 - v3) < (7 : Int32) then
      c267_205 μ
    else
      (ldA 139 v3 μ).bind fun x3 =>
      if (jshr x3 (6 : Int32)) = 0 then
        (ldA 139 (v3 + (2 : Int32)) μ).bind fun x6 =>
        (ldA 139 (v3 + (3 : Int32)) μ).bind fun x8 =>
        nm (((jshl (x6 &&& (3 : Int32)) (8 : Int32)) ||| x8) + (1 : Int32)) fun x10 =>
        if (v3 + x10) ≤ v2 then
          (f268 v3 x10 μ).bind fun r12 =>
          nm (v3 + x10) fun x14 =>
          c267_202 kl114 v2 x14 v4 r12
        else
          (ldA 162 (17 : Int32) μ).bind fun x15 =>
          (stA 162 (17 : Int32) (x15 + (1 : Int32)) μ).bind fun m17 =>
          c267_202 kl114 v2 v3 (0 : Int32) m17
      else
        c267_205 μ
theorem b267_114_ok {L : Nat} (kl114 : Int32 → Int32 → Int32 → Mem → Option (Mem)) (hk114 : (∀ (v2 : Int32) (v3 : Int32) (v4 : Int32) (μ : Mem) (res : Mem), kl114 v2 v3 v4 μ = some res → Sx 267 114 [(0, .ref 129), (2, .int v2), (3, .int v3), (4, .int v4)] [] 0 0 (mk L μ) (mk L res, none))) (v2 : Int32) (v3 : Int32) (v4 : Int32) (μ : Mem) (res : Mem) (h : b267_114 kl114 v2 v3 v4 μ = some res) : Sx 267 114 [(0, .ref 129), (2, .int v2), (3, .int v3), (4, .int v4)] [] 0 0 (mk L μ) (mk L res, none) := by
  unfold b267_114 at h
  refine sx_iload k267_114 rfl ?_
  by_cases hb1 : v4 = 0
  · rw [if_pos hb1] at h
    refine sx_if_eq (tgt := 205) k267_116 (by decide) (fun _ => ?_) (fun q => absurd hb1 q)
    refine sx_pick (lo2 := [(0, .ref 129)]) [0] rfl ?_
    exact c267_205_ok _ _ h
  · rw [if_neg hb1] at h
    refine sx_if_eq (tgt := 205) k267_116 (by decide) (fun q => absurd q hb1) (fun _ => ?_)
    refine sx_iload_n (i := 2) k267_119 rfl rfl ?_
    refine sx_iload_n (i := 3) k267_120 rfl rfl ?_
    refine sx_isub k267_121 ?_
    refine sx_bipush (v := 7) k267_122 (by decide) ?_
    by_cases hb2 : (v2 - v3) < (7 : Int32)
    · rw [if_pos hb2] at h
      refine sx_icmp_lt (tgt := 205) k267_124 (by decide) (fun _ => ?_) (fun q => absurd hb2 q)
      refine sx_pick (lo2 := [(0, .ref 129)]) [0] rfl ?_
      exact c267_205_ok _ _ h
    · rw [if_neg hb2] at h
      refine sx_icmp_lt (tgt := 205) k267_124 (by decide) (fun q => absurd q hb2) (fun _ => ?_)
      refine sx_aload_n (i := 0) k267_127 rfl rfl ?_
      refine cx_getR (k := 15) k267_128 ow_267 fl_12_123 (by decide) sk_129 ft_11_15 sr_129_15 ?_
      refine sx_iload_n (i := 3) k267_131 rfl rfl ?_
      obtain ⟨x3, e4, h⟩ := Option.bind_eq_some_iff.mp h
      refine cx_iald k267_132 sk_139 e4 ?_
      refine sx_bipush (v := 6) k267_133 (by decide) ?_
      refine sx_ishr k267_135 ?_
      by_cases hb5 : (jshr x3 (6 : Int32)) = 0
      · rw [if_pos hb5] at h
        refine sx_if_ne (tgt := 205) k267_136 (by decide) (fun q => absurd hb5 q) (fun _ => ?_)
        refine sx_aload_n (i := 0) k267_139 rfl rfl ?_
        refine cx_getR (k := 15) k267_140 ow_267 fl_12_123 (by decide) sk_129 ft_11_15 sr_129_15 ?_
        refine sx_iload_n (i := 3) k267_143 rfl rfl ?_
        refine sx_iconst (v := 2) k267_144 (by decide) ?_
        refine sx_iadd k267_145 ?_
        obtain ⟨x6, e7, h⟩ := Option.bind_eq_some_iff.mp h
        refine cx_iald k267_146 sk_139 e7 ?_
        refine sx_iconst (v := 3) k267_147 (by decide) ?_
        refine sx_iand k267_148 ?_
        refine sx_bipush (v := 8) k267_149 (by decide) ?_
        refine sx_ishl k267_151 ?_
        refine sx_aload_n (i := 0) k267_152 rfl rfl ?_
        refine cx_getR (k := 15) k267_153 ow_267 fl_12_123 (by decide) sk_129 ft_11_15 sr_129_15 ?_
        refine sx_iload_n (i := 3) k267_156 rfl rfl ?_
        refine sx_iconst (v := 3) k267_157 (by decide) ?_
        refine sx_iadd k267_158 ?_
        obtain ⟨x8, e9, h⟩ := Option.bind_eq_some_iff.mp h
        refine cx_iald k267_159 sk_139 e9 ?_
        refine sx_ior k267_160 ?_
        refine sx_iconst (v := 1) k267_161 (by decide) ?_
        refine sx_iadd k267_162 ?_
        refine cx_nm h (fun x10 h => ?_)
        refine cx_istore (lo2 := [(5, .int x10), (0, .ref 129), (2, .int v2), (3, .int v3), (4, .int v4)]) k267_163 (by rw [mx_267]; decide) rfl ?_
        refine sx_iload_n (i := 3) k267_165 rfl rfl ?_
        refine sx_iload k267_166 rfl ?_
        refine sx_iadd k267_168 ?_
        refine sx_iload_n (i := 2) k267_169 rfl rfl ?_
        by_cases hb11 : (v3 + x10) ≤ v2
        · rw [if_pos hb11] at h
          refine sx_icmp_le (tgt := 190) k267_170 (by decide) (fun _ => ?_) (fun q => absurd hb11 q)
          refine sx_aload_n (i := 0) k267_190 rfl rfl ?_
          refine sx_iload_n (i := 3) k267_191 rfl rfl ?_
          refine sx_iload k267_192 rfl ?_
          obtain ⟨r12, e13, h⟩ := Option.bind_eq_some_iff.mp h
          refine cx_V (sk := []) (vs := [.int v3, .int x10]) st_267_268 k267_194 ow_267 cl_12_129 (by decide) rfl (Nat.le_of_ble_eq_true rfl) sk_129 (ok268 v3 x10 _ _ e13) (sk3 := []) rfl rfl ?_
          refine sx_iload_n (i := 3) k267_197 rfl rfl ?_
          refine sx_iload k267_198 rfl ?_
          refine sx_iadd k267_200 ?_
          refine cx_nm h (fun x14 h => ?_)
          refine cx_istore_n (lo2 := [(3, .int x14), (5, .int x10), (0, .ref 129), (2, .int v2), (4, .int v4)]) k267_201 rfl (by rw [mx_267]; decide) rfl ?_
          refine sx_pick (lo2 := [(0, .ref 129), (2, .int v2), (3, .int x14), (4, .int v4)]) [2, 3, 0, 4] rfl ?_
          exact c267_202_ok kl114 hk114 v2 x14 v4 _ _ h
        · rw [if_neg hb11] at h
          refine sx_icmp_le (tgt := 190) k267_170 (by decide) (fun q => absurd q hb11) (fun _ => ?_)
          refine sx_aload_n (i := 0) k267_173 rfl rfl ?_
          refine cx_getR (k := 78) k267_174 ow_267 fl_12_126 (by decide) sk_129 ft_11_78 sr_129_78 ?_
          refine sx_bipush (v := 17) k267_177 (by decide) ?_
          refine sx_dup2 k267_179 rfl rfl ?_
          obtain ⟨x15, e16, h⟩ := Option.bind_eq_some_iff.mp h
          refine cx_iald k267_180 sk_162 e16 ?_
          refine sx_iconst (v := 1) k267_181 (by decide) ?_
          refine sx_iadd k267_182 ?_
          obtain ⟨m17, e18, h⟩ := Option.bind_eq_some_iff.mp h
          refine cx_iast k267_183 sk_162 e18 ?_
          refine sx_iconst (v := 0) k267_184 (by decide) ?_
          refine cx_istore (lo2 := [(4, .int (0 : Int32)), (5, .int x10), (0, .ref 129), (2, .int v2), (3, .int v3)]) k267_185 (by rw [mx_267]; decide) rfl ?_
          refine sx_goto (tgt := 202) k267_187 (by decide) ?_
          refine sx_pick (lo2 := [(0, .ref 129), (2, .int v2), (3, .int v3), (4, .int (0 : Int32))]) [2, 3, 4, 0] rfl ?_
          exact c267_202_ok kl114 hk114 v2 v3 (0 : Int32) _ _ h
      · rw [if_neg hb5] at h
        refine sx_if_ne (tgt := 205) k267_136 (by decide) (fun _ => ?_) (fun q => absurd q hb5)
        refine sx_pick (lo2 := [(0, .ref 129)]) [0] rfl ?_
        exact c267_205_ok _ _ h
def l267_114 : Nat → Int32 × Int32 × Int32 × Mem → Option (Mem) :=
  fixN (fun self x => b267_114 (fun v2 v3 v4 μ => self (v2, v3, v4, μ)) (x.1) (x.2.1) (x.2.2.1) (x.2.2.2))
theorem l267_114_ok {L : Nat} (n : Nat) (v2 : Int32) (v3 : Int32) (v4 : Int32) (μ : Mem) (res : Mem) (h : l267_114 n (v2, v3, v4, μ) = some res) : Sx 267 114 [(0, .ref 129), (2, .int v2), (3, .int v3), (4, .int v4)] [] 0 0 (mk L μ) (mk L res, none) := by
  have key := fixN_ind (P := fun x res => Sx 267 114 [(0, .ref 129), (2, .int (x.1)), (3, .int (x.2.1)), (4, .int (x.2.2.1))] [] 0 0 (mk L (x.2.2.2)) (mk L res, none)) (F := fun self x => b267_114 (fun v2 v3 v4 μ => self (v2, v3, v4, μ)) (x.1) (x.2.1) (x.2.2.1) (x.2.2.2)) (fun self hself x res h => b267_114_ok (fun v2 v3 v4 μ => self (v2, v3, v4, μ)) (fun v2 v3 v4 μ res hh => hself (v2, v3, v4, μ) res hh) (x.1) (x.2.1) (x.2.2.1) (x.2.2.2) res h) n (v2, v3, v4, μ) res h
  exact key
def c267_22 (s0 : Int32) (μ : Mem) : Option (Mem) :=
  if s0 = (-2 : Int32) then
    (pfZ 129 9 (0 : Int32) μ).bind fun m2 =>
    (pfI 129 10 (0 : Int32) m2).bind fun m4 =>
    (pfI 129 11 (0 : Int32) m4).bind fun m6 =>
    l267_114 gF ((m6.1 129 16), (0 : Int32), (1 : Int32), m6)
  else
    (pfI 129 17 ((μ.1 129 17) + s0) μ).bind fun m8 =>
    l267_41 gF ((0 : Int32), m8)
theorem c267_22_ok {L : Nat} (s0 : Int32) (μ : Mem) (res : Mem) (h : c267_22 s0 μ = some res) : Sx 267 22 [(0, .ref 129)] [.int s0] 0 0 (mk L μ) (mk L res, none) := by
  unfold c267_22 at h
  refine cx_istore_n (lo2 := [(1, .int s0), (0, .ref 129)]) k267_22 rfl (by rw [mx_267]; decide) rfl ?_
  refine sx_iload_n (i := 1) k267_23 rfl rfl ?_
  refine sx_bipush (v := -2) k267_24 (by decide) ?_
  by_cases hb1 : s0 = (-2 : Int32)
  · rw [if_pos hb1] at h
    refine sx_icmp_eq (tgt := 89) k267_26 (by decide) (fun _ => ?_) (fun q => absurd hb1 q)
    refine sx_aload_n (i := 0) k267_89 rfl rfl ?_
    refine sx_iconst (v := 0) k267_90 (by decide) ?_
    obtain ⟨m2, e3, h⟩ := Option.bind_eq_some_iff.mp h
    refine cx_putZ (k := 9) k267_91 ow_267 fl_12_87 (by decide) sk_129 nf_11_9 fu_11_9 e3 ?_
    refine sx_aload_n (i := 0) k267_94 rfl rfl ?_
    refine sx_iconst (v := 0) k267_95 (by decide) ?_
    obtain ⟨m4, e5, h⟩ := Option.bind_eq_some_iff.mp h
    refine cx_putI (k := 10) k267_96 ow_267 fl_12_94 (by decide) sk_129 nf_11_10 fu_11_10 e5 ?_
    refine sx_aload_n (i := 0) k267_99 rfl rfl ?_
    refine sx_iconst (v := 0) k267_100 (by decide) ?_
    obtain ⟨m6, e7, h⟩ := Option.bind_eq_some_iff.mp h
    refine cx_putI (k := 11) k267_101 ow_267 fl_12_91 (by decide) sk_129 nf_11_11 fu_11_11 e7 ?_
    refine sx_aload_n (i := 0) k267_104 rfl rfl ?_
    refine cx_getI (k := 16) k267_105 ow_267 fl_12_110 (by decide) sk_129 ft_11_16 ?_
    refine cx_istore_n (lo2 := [(2, .int (m6.1 129 16)), (1, .int s0), (0, .ref 129)]) k267_108 rfl (by rw [mx_267]; decide) rfl ?_
    refine sx_iconst (v := 0) k267_109 (by decide) ?_
    refine cx_istore_n (lo2 := [(3, .int (0 : Int32)), (2, .int (m6.1 129 16)), (1, .int s0), (0, .ref 129)]) k267_110 rfl (by rw [mx_267]; decide) rfl ?_
    refine sx_iconst (v := 1) k267_111 (by decide) ?_
    refine cx_istore (lo2 := [(4, .int (1 : Int32)), (3, .int (0 : Int32)), (2, .int (m6.1 129 16)), (1, .int s0), (0, .ref 129)]) k267_112 (by rw [mx_267]; decide) rfl ?_
    refine sx_pick (lo2 := [(0, .ref 129), (2, .int (m6.1 129 16)), (3, .int (0 : Int32)), (4, .int (1 : Int32))]) [4, 2, 1, 0] rfl ?_
    exact l267_114_ok gF (m6.1 129 16) (0 : Int32) (1 : Int32) _ _ h
  · rw [if_neg hb1] at h
    refine sx_icmp_eq (tgt := 89) k267_26 (by decide) (fun q => absurd q hb1) (fun _ => ?_)
    refine sx_aload_n (i := 0) k267_29 rfl rfl ?_
    refine sx_dup k267_30 rfl ?_
    refine cx_getI (k := 17) k267_31 ow_267 fl_12_120 (by decide) sk_129 ft_11_17 ?_
    refine sx_iload_n (i := 1) k267_34 rfl rfl ?_
    refine sx_iadd k267_35 ?_
    obtain ⟨m8, e9, h⟩ := Option.bind_eq_some_iff.mp h
    refine cx_putI (k := 17) k267_36 ow_267 fl_12_120 (by decide) sk_129 nf_11_17 fu_11_17 e9 ?_
    refine sx_iconst (v := 0) k267_39 (by decide) ?_
    refine cx_istore_n (lo2 := [(2, .int (0 : Int32)), (1, .int s0), (0, .ref 129)]) k267_40 rfl (by rw [mx_267]; decide) rfl ?_
    refine sx_pick (lo2 := [(0, .ref 129), (2, .int (0 : Int32))]) [2, 0] rfl ?_
    exact l267_41_ok gF (0 : Int32) _ _ h
/-- CraftHouseModel.blockComes()V -/
def f267 (μ : Mem) : Option (Mem) :=
  if (μ.1 129 14) = (16 : Int32) then
    c267_22 (-2 : Int32) μ
  else
    (f249 138 (0 : Int32) μ).bind fun r2 =>
    c267_22 r2.2 r2.1
theorem ok267 {L : Nat} (μ : Mem) (res : Mem) (h : f267 μ = some res) : Mx 267 [.ref 129] (mk L μ) (mk L res, none) := by
  refine Mx_of ml_267 (by rw [mx_267]; exact Nat.le_of_ble_eq_true rfl) ?_
  show Sx 267 0 [(0, .ref 129)] [] 0 0 (mk L μ) _
  unfold f267 at h
  refine sx_aload_n (i := 0) k267_0 rfl rfl ?_
  refine cx_getI (k := 14) k267_1 ow_267 fl_12_107 (by decide) sk_129 ft_11_14 ?_
  refine sx_bipush (v := 16) k267_4 (by decide) ?_
  by_cases hb1 : (μ.1 129 14) = (16 : Int32)
  · rw [if_pos hb1] at h
    refine sx_icmp_ne (tgt := 14) k267_6 (by decide) (fun q => absurd hb1 q) (fun _ => ?_)
    refine sx_bipush (v := -2) k267_9 (by decide) ?_
    refine sx_goto (tgt := 22) k267_11 (by decide) ?_
    refine sx_pick (lo2 := [(0, .ref 129)]) [0] rfl ?_
    exact c267_22_ok (-2 : Int32) _ _ h
  · rw [if_neg hb1] at h
    refine sx_icmp_ne (tgt := 14) k267_6 (by decide) (fun _ => ?_) (fun q => absurd q hb1)
    refine sx_aload_n (i := 0) k267_14 rfl rfl ?_
    refine cx_getR (k := 12) k267_15 ow_267 fl_12_113 (by decide) sk_129 ft_11_12 sr_129_12 ?_
    refine sx_iconst (v := 0) k267_18 (by decide) ?_
    obtain ⟨r2, e3, h⟩ := Option.bind_eq_some_iff.mp h
    refine cx_S (sk := []) (vs := [.ref 138, .int (0 : Int32)]) st_267_249 k267_19 ow_267 cl_12_34 (by decide) rfl (Nat.le_of_ble_eq_true rfl) (ok249 138 (0 : Int32) sk_138 _ _ e3) (sk3 := [.int r2.2]) rfl rfl ?_
    refine sx_pick (lo2 := [(0, .ref 129)]) [0] rfl ?_
    exact c267_22_ok r2.2 _ _ h
theorem k265_0 : decode (gb 265) 0 = .ok (.aload_n 0, 1) := by decide +kernel
theorem k265_1 : decode (gb 265) 1 = .ok (.getfield 87, 3) := by decide +kernel
theorem k265_4 : decode (gb 265) 4 = .ok (.ifCond .ne 96, 3) := by decide +kernel
theorem k265_7 : decode (gb 265) 7 = .ok (.aload_n 0, 1) := by decide +kernel
theorem k265_8 : decode (gb 265) 8 = .ok (.aload_n 0, 1) := by decide +kernel
theorem k265_9 : decode (gb 265) 9 = .ok (.getfield 91, 3) := by decide +kernel
theorem k265_12 : decode (gb 265) 12 = .ok (.iconst 1, 1) := by decide +kernel
theorem k265_13 : decode (gb 265) 13 = .ok (.ishl, 1) := by decide +kernel
theorem k265_14 : decode (gb 265) 14 = .ok (.iload_n 1, 1) := by decide +kernel
theorem k265_15 : decode (gb 265) 15 = .ok (.ior, 1) := by decide +kernel
theorem k265_16 : decode (gb 265) 16 = .ok (.ldc 15, 2) := by decide +kernel
theorem k265_18 : decode (gb 265) 18 = .ok (.iand, 1) := by decide +kernel
theorem k265_19 : decode (gb 265) 19 = .ok (.putfield 91, 3) := by decide +kernel
theorem k265_22 : decode (gb 265) 22 = .ok (.aload_n 0, 1) := by decide +kernel
theorem k265_23 : decode (gb 265) 23 = .ok (.aload_n 0, 1) := by decide +kernel
theorem k265_24 : decode (gb 265) 24 = .ok (.getfield 94, 3) := by decide +kernel
theorem k265_27 : decode (gb 265) 27 = .ok (.bipush 16, 2) := by decide +kernel
theorem k265_29 : decode (gb 265) 29 = .ok (.if_icmp .ge 12, 3) := by decide +kernel
theorem k265_32 : decode (gb 265) 32 = .ok (.aload_n 0, 1) := by decide +kernel
theorem k265_33 : decode (gb 265) 33 = .ok (.getfield 94, 3) := by decide +kernel
theorem k265_36 : decode (gb 265) 36 = .ok (.iconst 1, 1) := by decide +kernel
theorem k265_37 : decode (gb 265) 37 = .ok (.iadd, 1) := by decide +kernel
theorem k265_38 : decode (gb 265) 38 = .ok (.goto 5, 3) := by decide +kernel
theorem k265_41 : decode (gb 265) 41 = .ok (.bipush 16, 2) := by decide +kernel
theorem k265_43 : decode (gb 265) 43 = .ok (.putfield 94, 3) := by decide +kernel
theorem k265_46 : decode (gb 265) 46 = .ok (.aload_n 0, 1) := by decide +kernel
theorem k265_47 : decode (gb 265) 47 = .ok (.getfield 94, 3) := by decide +kernel
theorem k265_50 : decode (gb 265) 50 = .ok (.bipush 16, 2) := by decide +kernel
theorem k265_52 : decode (gb 265) 52 = .ok (.if_icmp .ne 47, 3) := by decide +kernel
theorem k265_55 : decode (gb 265) 55 = .ok (.aload_n 0, 1) := by decide +kernel
theorem k265_56 : decode (gb 265) 56 = .ok (.getfield 91, 3) := by decide +kernel
theorem k265_59 : decode (gb 265) 59 = .ok (.ldc 97, 2) := by decide +kernel
theorem k265_61 : decode (gb 265) 61 = .ok (.ixor, 1) := by decide +kernel
theorem k265_62 : decode (gb 265) 62 = .ok (.invokestatic 98, 3) := by decide +kernel
theorem k265_65 : decode (gb 265) 65 = .ok (.iconst 1, 1) := by decide +kernel
theorem k265_66 : decode (gb 265) 66 = .ok (.if_icmp .gt 33, 3) := by decide +kernel
theorem k265_69 : decode (gb 265) 69 = .ok (.aload_n 0, 1) := by decide +kernel
theorem k265_70 : decode (gb 265) 70 = .ok (.iconst 1, 1) := by decide +kernel
theorem k265_71 : decode (gb 265) 71 = .ok (.putfield 87, 3) := by decide +kernel
theorem k265_74 : decode (gb 265) 74 = .ok (.aload_n 0, 1) := by decide +kernel
theorem k265_75 : decode (gb 265) 75 = .ok (.dup, 1) := by decide +kernel
theorem k265_76 : decode (gb 265) 76 = .ok (.getfield 101, 3) := by decide +kernel
theorem k265_79 : decode (gb 265) 79 = .ok (.iconst 1, 1) := by decide +kernel
theorem k265_80 : decode (gb 265) 80 = .ok (.iadd, 1) := by decide +kernel
theorem k265_81 : decode (gb 265) 81 = .ok (.putfield 101, 3) := by decide +kernel
theorem k265_84 : decode (gb 265) 84 = .ok (.aload_n 0, 1) := by decide +kernel
theorem k265_85 : decode (gb 265) 85 = .ok (.iconst 0, 1) := by decide +kernel
theorem k265_86 : decode (gb 265) 86 = .ok (.putfield 104, 3) := by decide +kernel
theorem k265_89 : decode (gb 265) 89 = .ok (.aload_n 0, 1) := by decide +kernel
theorem k265_90 : decode (gb 265) 90 = .ok (.iconst 0, 1) := by decide +kernel
theorem k265_91 : decode (gb 265) 91 = .ok (.putfield 107, 3) := by decide +kernel
theorem k265_94 : decode (gb 265) 94 = .ok (.aload_n 0, 1) := by decide +kernel
theorem k265_95 : decode (gb 265) 95 = .ok (.iconst 0, 1) := by decide +kernel
theorem k265_96 : decode (gb 265) 96 = .ok (.putfield 110, 3) := by decide +kernel
theorem k265_99 : decode (gb 265) 99 = .ok (.return_, 1) := by decide +kernel
theorem k265_100 : decode (gb 265) 100 = .ok (.aload_n 0, 1) := by decide +kernel
theorem k265_101 : decode (gb 265) 101 = .ok (.getfield 104, 3) := by decide +kernel
theorem k265_104 : decode (gb 265) 104 = .ok (.bipush 8, 2) := by decide +kernel
theorem k265_106 : decode (gb 265) 106 = .ok (.irem, 1) := by decide +kernel
theorem k265_107 : decode (gb 265) 107 = .ok (.ifCond .ne 16, 3) := by decide +kernel
theorem k265_110 : decode (gb 265) 110 = .ok (.aload_n 0, 1) := by decide +kernel
theorem k265_111 : decode (gb 265) 111 = .ok (.getfield 113, 3) := by decide +kernel
theorem k265_114 : decode (gb 265) 114 = .ok (.aload_n 0, 1) := by decide +kernel
theorem k265_115 : decode (gb 265) 115 = .ok (.getfield 104, 3) := by decide +kernel
theorem k265_118 : decode (gb 265) 118 = .ok (.bipush 8, 2) := by decide +kernel
theorem k265_120 : decode (gb 265) 120 = .ok (.idiv, 1) := by decide +kernel
theorem k265_121 : decode (gb 265) 121 = .ok (.iconst 0, 1) := by decide +kernel
theorem k265_122 : decode (gb 265) 122 = .ok (.iastore, 1) := by decide +kernel
theorem k265_123 : decode (gb 265) 123 = .ok (.aload_n 0, 1) := by decide +kernel
theorem k265_124 : decode (gb 265) 124 = .ok (.getfield 113, 3) := by decide +kernel
theorem k265_127 : decode (gb 265) 127 = .ok (.aload_n 0, 1) := by decide +kernel
theorem k265_128 : decode (gb 265) 128 = .ok (.getfield 104, 3) := by decide +kernel
theorem k265_131 : decode (gb 265) 131 = .ok (.bipush 8, 2) := by decide +kernel
theorem k265_133 : decode (gb 265) 133 = .ok (.idiv, 1) := by decide +kernel
theorem k265_134 : decode (gb 265) 134 = .ok (.dup2, 1) := by decide +kernel
theorem k265_135 : decode (gb 265) 135 = .ok (.iaload, 1) := by decide +kernel
theorem k265_136 : decode (gb 265) 136 = .ok (.iload_n 1, 1) := by decide +kernel
theorem k265_137 : decode (gb 265) 137 = .ok (.bipush 7, 2) := by decide +kernel
theorem k265_139 : decode (gb 265) 139 = .ok (.aload_n 0, 1) := by decide +kernel
theorem k265_140 : decode (gb 265) 140 = .ok (.getfield 104, 3) := by decide +kernel
theorem k265_143 : decode (gb 265) 143 = .ok (.bipush 8, 2) := by decide +kernel
theorem k265_145 : decode (gb 265) 145 = .ok (.irem, 1) := by decide +kernel
theorem k265_146 : decode (gb 265) 146 = .ok (.isub, 1) := by decide +kernel
theorem k265_147 : decode (gb 265) 147 = .ok (.ishl, 1) := by decide +kernel
theorem k265_148 : decode (gb 265) 148 = .ok (.ior, 1) := by decide +kernel
theorem k265_149 : decode (gb 265) 149 = .ok (.iastore, 1) := by decide +kernel
theorem k265_150 : decode (gb 265) 150 = .ok (.aload_n 0, 1) := by decide +kernel
theorem k265_151 : decode (gb 265) 151 = .ok (.dup, 1) := by decide +kernel
theorem k265_152 : decode (gb 265) 152 = .ok (.getfield 104, 3) := by decide +kernel
theorem k265_155 : decode (gb 265) 155 = .ok (.iconst 1, 1) := by decide +kernel
theorem k265_156 : decode (gb 265) 156 = .ok (.iadd, 1) := by decide +kernel
theorem k265_157 : decode (gb 265) 157 = .ok (.putfield 104, 3) := by decide +kernel
theorem k265_160 : decode (gb 265) 160 = .ok (.aload_n 0, 1) := by decide +kernel
theorem k265_161 : decode (gb 265) 161 = .ok (.getfield 104, 3) := by decide +kernel
theorem k265_164 : decode (gb 265) 164 = .ok (.bipush 64, 2) := by decide +kernel
theorem k265_166 : decode (gb 265) 166 = .ok (.if_icmp .ne 12, 3) := by decide +kernel
theorem k265_169 : decode (gb 265) 169 = .ok (.aload_n 0, 1) := by decide +kernel
theorem k265_170 : decode (gb 265) 170 = .ok (.iconst 0, 1) := by decide +kernel
theorem k265_171 : decode (gb 265) 171 = .ok (.putfield 104, 3) := by decide +kernel
theorem k265_174 : decode (gb 265) 174 = .ok (.aload_n 0, 1) := by decide +kernel
theorem k265_175 : decode (gb 265) 175 = .ok (.invokevirtual 116, 3) := by decide +kernel
theorem k265_178 : decode (gb 265) 178 = .ok (.return_, 1) := by decide +kernel
def c265_43 (s1 : Int32) (μ : Mem) : Option (Mem) :=
  (pfI 129 10 s1 μ).bind fun m1 =>
  if (m1.1 129 10) = (16 : Int32) then
    (f266 ((m1.1 129 11) ^^^ (60304 : Int32)) m1).bind fun r4 =>
    if (1 : Int32) < r4.2 then
      some r4.1
    else
      (pfZ 129 9 (1 : Int32) r4.1).bind fun m7 =>
      (pfI 129 18 ((m7.1 129 18) + (1 : Int32)) m7).bind fun m9 =>
      (pfI 129 13 (0 : Int32) m9).bind fun m11 =>
      (pfI 129 14 (0 : Int32) m11).bind fun m13 =>
      (pfI 129 16 (0 : Int32) m13).bind fun m15 =>
      some m15
  else
    some m1
theorem c265_43_ok {L : Nat} (s1 : Int32) (μ : Mem) (res : Mem) (h : c265_43 s1 μ = some res) : Sx 265 43 [(0, .ref 129)] [.int s1, .ref 129] 0 0 (mk L μ) (mk L res, none) := by
  unfold c265_43 at h
  obtain ⟨m1, e2, h⟩ := Option.bind_eq_some_iff.mp h
  refine cx_putI (k := 10) k265_43 ow_265 fl_12_94 (by decide) sk_129 nf_11_10 fu_11_10 e2 ?_
  refine sx_aload_n (i := 0) k265_46 rfl rfl ?_
  refine cx_getI (k := 10) k265_47 ow_265 fl_12_94 (by decide) sk_129 ft_11_10 ?_
  refine sx_bipush (v := 16) k265_50 (by decide) ?_
  by_cases hb3 : (m1.1 129 10) = (16 : Int32)
  · rw [if_pos hb3] at h
    refine sx_icmp_ne (tgt := 99) k265_52 (by decide) (fun q => absurd hb3 q) (fun _ => ?_)
    refine sx_aload_n (i := 0) k265_55 rfl rfl ?_
    refine cx_getI (k := 11) k265_56 ow_265 fl_12_91 (by decide) sk_129 ft_11_11 ?_
    refine cx_ldc (v := 60304) k265_59 ow_265 kl_12_97 (by decide) ?_
    refine sx_ixor k265_61 ?_
    obtain ⟨r4, e5, h⟩ := Option.bind_eq_some_iff.mp h
    refine cx_S (sk := []) (vs := [.int ((m1.1 129 11) ^^^ (60304 : Int32))]) st_265_266 k265_62 ow_265 cl_12_98 (by decide) rfl (Nat.le_of_ble_eq_true rfl) (ok266 ((m1.1 129 11) ^^^ (60304 : Int32)) _ _ e5) (sk3 := [.int r4.2]) rfl rfl ?_
    refine sx_iconst (v := 1) k265_65 (by decide) ?_
    by_cases hb6 : (1 : Int32) < r4.2
    · rw [if_pos hb6] at h
      refine sx_icmp_gt (tgt := 99) k265_66 (by decide) (fun _ => ?_) (fun q => absurd hb6 q)
      exact cx_retv k265_99 rt_265 h
    · rw [if_neg hb6] at h
      refine sx_icmp_gt (tgt := 99) k265_66 (by decide) (fun q => absurd q hb6) (fun _ => ?_)
      refine sx_aload_n (i := 0) k265_69 rfl rfl ?_
      refine sx_iconst (v := 1) k265_70 (by decide) ?_
      obtain ⟨m7, e8, h⟩ := Option.bind_eq_some_iff.mp h
      refine cx_putZ (k := 9) k265_71 ow_265 fl_12_87 (by decide) sk_129 nf_11_9 fu_11_9 e8 ?_
      refine sx_aload_n (i := 0) k265_74 rfl rfl ?_
      refine sx_dup k265_75 rfl ?_
      refine cx_getI (k := 18) k265_76 ow_265 fl_12_101 (by decide) sk_129 ft_11_18 ?_
      refine sx_iconst (v := 1) k265_79 (by decide) ?_
      refine sx_iadd k265_80 ?_
      obtain ⟨m9, e10, h⟩ := Option.bind_eq_some_iff.mp h
      refine cx_putI (k := 18) k265_81 ow_265 fl_12_101 (by decide) sk_129 nf_11_18 fu_11_18 e10 ?_
      refine sx_aload_n (i := 0) k265_84 rfl rfl ?_
      refine sx_iconst (v := 0) k265_85 (by decide) ?_
      obtain ⟨m11, e12, h⟩ := Option.bind_eq_some_iff.mp h
      refine cx_putI (k := 13) k265_86 ow_265 fl_12_104 (by decide) sk_129 nf_11_13 fu_11_13 e12 ?_
      refine sx_aload_n (i := 0) k265_89 rfl rfl ?_
      refine sx_iconst (v := 0) k265_90 (by decide) ?_
      obtain ⟨m13, e14, h⟩ := Option.bind_eq_some_iff.mp h
      refine cx_putI (k := 14) k265_91 ow_265 fl_12_107 (by decide) sk_129 nf_11_14 fu_11_14 e14 ?_
      refine sx_aload_n (i := 0) k265_94 rfl rfl ?_
      refine sx_iconst (v := 0) k265_95 (by decide) ?_
      obtain ⟨m15, e16, h⟩ := Option.bind_eq_some_iff.mp h
      refine cx_putI (k := 16) k265_96 ow_265 fl_12_110 (by decide) sk_129 nf_11_16 fu_11_16 e16 ?_
      exact cx_retv k265_99 rt_265 h
  · rw [if_neg hb3] at h
    refine sx_icmp_ne (tgt := 99) k265_52 (by decide) (fun _ => ?_) (fun q => absurd q hb3)
    exact cx_retv k265_99 rt_265 h
def c265_123 (v1 : Int32) (μ : Mem) : Option (Mem) :=
  (ldA 138 ((μ.1 129 13) / (8 : Int32)) μ).bind fun x1 =>
  (stA 138 ((μ.1 129 13) / (8 : Int32)) (x1 ||| (jshl v1 ((7 : Int32) - (jrem (μ.1 129 13) (8 : Int32))))) μ).bind fun m3 =>
  (pfI 129 13 ((m3.1 129 13) + (1 : Int32)) m3).bind fun m5 =>
  if (m5.1 129 13) = (64 : Int32) then
    (pfI 129 13 (0 : Int32) m5).bind fun m8 =>
    (f267 m8).bind fun r10 =>
    some r10
  else
    some m5
theorem c265_123_ok {L : Nat} (v1 : Int32) (μ : Mem) (res : Mem) (h : c265_123 v1 μ = some res) : Sx 265 123 [(0, .ref 129), (1, .int v1)] [] 0 0 (mk L μ) (mk L res, none) := by
  unfold c265_123 at h
  refine sx_aload_n (i := 0) k265_123 rfl rfl ?_
  refine cx_getR (k := 12) k265_124 ow_265 fl_12_113 (by decide) sk_129 ft_11_12 sr_129_12 ?_
  refine sx_aload_n (i := 0) k265_127 rfl rfl ?_
  refine cx_getI (k := 13) k265_128 ow_265 fl_12_104 (by decide) sk_129 ft_11_13 ?_
  refine sx_bipush (v := 8) k265_131 (by decide) ?_
  refine sx_idiv k265_133 (by decide) ?_
  refine sx_dup2 k265_134 rfl rfl ?_
  obtain ⟨x1, e2, h⟩ := Option.bind_eq_some_iff.mp h
  refine cx_iald k265_135 sk_138 e2 ?_
  refine sx_iload_n (i := 1) k265_136 rfl rfl ?_
  refine sx_bipush (v := 7) k265_137 (by decide) ?_
  refine sx_aload_n (i := 0) k265_139 rfl rfl ?_
  refine cx_getI (k := 13) k265_140 ow_265 fl_12_104 (by decide) sk_129 ft_11_13 ?_
  refine sx_bipush (v := 8) k265_143 (by decide) ?_
  refine sx_irem k265_145 (by decide) ?_
  refine sx_isub k265_146 ?_
  refine sx_ishl k265_147 ?_
  refine sx_ior k265_148 ?_
  obtain ⟨m3, e4, h⟩ := Option.bind_eq_some_iff.mp h
  refine cx_iast k265_149 sk_138 e4 ?_
  refine sx_aload_n (i := 0) k265_150 rfl rfl ?_
  refine sx_dup k265_151 rfl ?_
  refine cx_getI (k := 13) k265_152 ow_265 fl_12_104 (by decide) sk_129 ft_11_13 ?_
  refine sx_iconst (v := 1) k265_155 (by decide) ?_
  refine sx_iadd k265_156 ?_
  obtain ⟨m5, e6, h⟩ := Option.bind_eq_some_iff.mp h
  refine cx_putI (k := 13) k265_157 ow_265 fl_12_104 (by decide) sk_129 nf_11_13 fu_11_13 e6 ?_
  refine sx_aload_n (i := 0) k265_160 rfl rfl ?_
  refine cx_getI (k := 13) k265_161 ow_265 fl_12_104 (by decide) sk_129 ft_11_13 ?_
  refine sx_bipush (v := 64) k265_164 (by decide) ?_
  by_cases hb7 : (m5.1 129 13) = (64 : Int32)
  · rw [if_pos hb7] at h
    refine sx_icmp_ne (tgt := 178) k265_166 (by decide) (fun q => absurd hb7 q) (fun _ => ?_)
    refine sx_aload_n (i := 0) k265_169 rfl rfl ?_
    refine sx_iconst (v := 0) k265_170 (by decide) ?_
    obtain ⟨m8, e9, h⟩ := Option.bind_eq_some_iff.mp h
    refine cx_putI (k := 13) k265_171 ow_265 fl_12_104 (by decide) sk_129 nf_11_13 fu_11_13 e9 ?_
    refine sx_aload_n (i := 0) k265_174 rfl rfl ?_
    obtain ⟨r10, e11, h⟩ := Option.bind_eq_some_iff.mp h
    refine cx_V (sk := []) (vs := []) st_265_267 k265_175 ow_265 cl_12_116 (by decide) rfl (Nat.le_of_ble_eq_true rfl) sk_129 (ok267 _ _ e11) (sk3 := []) rfl rfl ?_
    exact cx_retv k265_178 rt_265 h
  · rw [if_neg hb7] at h
    refine sx_icmp_ne (tgt := 178) k265_166 (by decide) (fun _ => ?_) (fun q => absurd q hb7)
    exact cx_retv k265_178 rt_265 h
/-- CraftHouseModel.craftHears(I)V -/
def f265 (p1 : Int32) (μ : Mem) : Option (Mem) :=
  if (μ.1 129 9) = 0 then
    (pfI 129 11 (((jshl (μ.1 129 11) (1 : Int32)) ||| p1) &&& (65535 : Int32)) μ).bind fun m5 =>
    if (16 : Int32) ≤ (m5.1 129 10) then
      c265_43 (16 : Int32) m5
    else
      c265_43 ((m5.1 129 10) + (1 : Int32)) m5
  else
    if (jrem (μ.1 129 13) (8 : Int32)) = 0 then
      (stA 138 ((μ.1 129 13) / (8 : Int32)) (0 : Int32) μ).bind fun m3 =>
      c265_123 p1 m3
    else
      c265_123 p1 μ
theorem ok265 {L : Nat} (p1 : Int32) (μ : Mem) (res : Mem) (h : f265 p1 μ = some res) : Mx 265 [.ref 129, .int p1] (mk L μ) (mk L res, none) := by
  refine Mx_of ml_265 (by rw [mx_265]; exact Nat.le_of_ble_eq_true rfl) ?_
  show Sx 265 0 [(0, .ref 129), (1, .int p1)] [] 0 0 (mk L μ) _
  unfold f265 at h
  refine sx_aload_n (i := 0) k265_0 rfl rfl ?_
  refine cx_getI (k := 9) k265_1 ow_265 fl_12_87 (by decide) sk_129 ft_11_9 ?_
  by_cases hb1 : (μ.1 129 9) = 0
  · rw [if_pos hb1] at h
    refine sx_if_ne (tgt := 100) k265_4 (by decide) (fun q => absurd hb1 q) (fun _ => ?_)
    refine sx_aload_n (i := 0) k265_7 rfl rfl ?_
    refine sx_aload_n (i := 0) k265_8 rfl rfl ?_
    refine cx_getI (k := 11) k265_9 ow_265 fl_12_91 (by decide) sk_129 ft_11_11 ?_
    refine sx_iconst (v := 1) k265_12 (by decide) ?_
    refine sx_ishl k265_13 ?_
    refine sx_iload_n (i := 1) k265_14 rfl rfl ?_
    refine sx_ior k265_15 ?_
    refine cx_ldc (v := 65535) k265_16 ow_265 kl_12_15 (by decide) ?_
    refine sx_iand k265_18 ?_
    obtain ⟨m5, e6, h⟩ := Option.bind_eq_some_iff.mp h
    refine cx_putI (k := 11) k265_19 ow_265 fl_12_91 (by decide) sk_129 nf_11_11 fu_11_11 e6 ?_
    refine sx_aload_n (i := 0) k265_22 rfl rfl ?_
    refine sx_aload_n (i := 0) k265_23 rfl rfl ?_
    refine cx_getI (k := 10) k265_24 ow_265 fl_12_94 (by decide) sk_129 ft_11_10 ?_
    refine sx_bipush (v := 16) k265_27 (by decide) ?_
    by_cases hb7 : (16 : Int32) ≤ (m5.1 129 10)
    · rw [if_pos hb7] at h
      refine sx_icmp_ge (tgt := 41) k265_29 (by decide) (fun _ => ?_) (fun q => absurd hb7 q)
      refine sx_bipush (v := 16) k265_41 (by decide) ?_
      refine sx_pick (lo2 := [(0, .ref 129)]) [0] rfl ?_
      exact c265_43_ok (16 : Int32) _ _ h
    · rw [if_neg hb7] at h
      refine sx_icmp_ge (tgt := 41) k265_29 (by decide) (fun q => absurd q hb7) (fun _ => ?_)
      refine sx_aload_n (i := 0) k265_32 rfl rfl ?_
      refine cx_getI (k := 10) k265_33 ow_265 fl_12_94 (by decide) sk_129 ft_11_10 ?_
      refine sx_iconst (v := 1) k265_36 (by decide) ?_
      refine sx_iadd k265_37 ?_
      refine sx_goto (tgt := 43) k265_38 (by decide) ?_
      refine sx_pick (lo2 := [(0, .ref 129)]) [0] rfl ?_
      exact c265_43_ok ((m5.1 129 10) + (1 : Int32)) _ _ h
  · rw [if_neg hb1] at h
    refine sx_if_ne (tgt := 100) k265_4 (by decide) (fun _ => ?_) (fun q => absurd q hb1)
    refine sx_aload_n (i := 0) k265_100 rfl rfl ?_
    refine cx_getI (k := 13) k265_101 ow_265 fl_12_104 (by decide) sk_129 ft_11_13 ?_
    refine sx_bipush (v := 8) k265_104 (by decide) ?_
    refine sx_irem k265_106 (by decide) ?_
    by_cases hb2 : (jrem (μ.1 129 13) (8 : Int32)) = 0
    · rw [if_pos hb2] at h
      refine sx_if_ne (tgt := 123) k265_107 (by decide) (fun q => absurd hb2 q) (fun _ => ?_)
      refine sx_aload_n (i := 0) k265_110 rfl rfl ?_
      refine cx_getR (k := 12) k265_111 ow_265 fl_12_113 (by decide) sk_129 ft_11_12 sr_129_12 ?_
      refine sx_aload_n (i := 0) k265_114 rfl rfl ?_
      refine cx_getI (k := 13) k265_115 ow_265 fl_12_104 (by decide) sk_129 ft_11_13 ?_
      refine sx_bipush (v := 8) k265_118 (by decide) ?_
      refine sx_idiv k265_120 (by decide) ?_
      refine sx_iconst (v := 0) k265_121 (by decide) ?_
      obtain ⟨m3, e4, h⟩ := Option.bind_eq_some_iff.mp h
      refine cx_iast k265_122 sk_138 e4 ?_
      refine sx_pick (lo2 := [(0, .ref 129), (1, .int p1)]) [0, 1] rfl ?_
      exact c265_123_ok p1 _ _ h
    · rw [if_neg hb2] at h
      refine sx_if_ne (tgt := 123) k265_107 (by decide) (fun _ => ?_) (fun q => absurd q hb2)
      refine sx_pick (lo2 := [(0, .ref 129), (1, .int p1)]) [0, 1] rfl ?_
      exact c265_123_ok p1 _ _ h
theorem k288_0 : decode (gb 288) 0 = .ok (.iload_n 1, 1) := by decide +kernel
theorem k288_1 : decode (gb 288) 1 = .ok (.ifCond .lt 26, 3) := by decide +kernel
theorem k288_4 : decode (gb 288) 4 = .ok (.iload_n 1, 1) := by decide +kernel
theorem k288_5 : decode (gb 288) 5 = .ok (.aload_n 0, 1) := by decide +kernel
theorem k288_6 : decode (gb 288) 6 = .ok (.getfield 294, 3) := by decide +kernel
theorem k288_9 : decode (gb 288) 9 = .ok (.if_icmp .ge 18, 3) := by decide +kernel
theorem k288_12 : decode (gb 288) 12 = .ok (.iload_n 1, 1) := by decide +kernel
theorem k288_13 : decode (gb 288) 13 = .ok (.aload_n 0, 1) := by decide +kernel
theorem k288_14 : decode (gb 288) 14 = .ok (.getfield 294, 3) := by decide +kernel
theorem k288_17 : decode (gb 288) 17 = .ok (.bipush 64, 2) := by decide +kernel
theorem k288_19 : decode (gb 288) 19 = .ok (.isub, 1) := by decide +kernel
theorem k288_20 : decode (gb 288) 20 = .ok (.if_icmp .lt 7, 3) := by decide +kernel
theorem k288_23 : decode (gb 288) 23 = .ok (.iconst 1, 1) := by decide +kernel
theorem k288_24 : decode (gb 288) 24 = .ok (.goto 4, 3) := by decide +kernel
theorem k288_27 : decode (gb 288) 27 = .ok (.iconst 0, 1) := by decide +kernel
theorem k288_28 : decode (gb 288) 28 = .ok (.ireturn, 1) := by decide +kernel
/-- CraftHouseModel.isKept(I)Z -/
def f288 (p1 : Int32) (μ : Mem) : Option (Mem × Int32) :=
  if p1 < 0 then
    rtZ (0 : Int32) μ
  else
    if (μ.1 129 58) ≤ p1 then
      rtZ (0 : Int32) μ
    else
      if p1 < ((μ.1 129 58) - (64 : Int32)) then
        rtZ (0 : Int32) μ
      else
        rtZ (1 : Int32) μ
theorem ok288 {L : Nat} (p1 : Int32) (μ : Mem) (res : Mem × Int32) (h : f288 p1 μ = some res) : Mx 288 [.ref 129, .int p1] (mk L μ) (mk L res.1, some (.int res.2)) := by
  refine Mx_of ml_288 (by rw [mx_288]; exact Nat.le_of_ble_eq_true rfl) ?_
  show Sx 288 0 [(0, .ref 129), (1, .int p1)] [] 0 0 (mk L μ) _
  unfold f288 at h
  refine sx_iload_n (i := 1) k288_0 rfl rfl ?_
  by_cases hb1 : p1 < 0
  · rw [if_pos hb1] at h
    refine sx_if_lt (tgt := 27) k288_1 (by decide) (fun _ => ?_) (fun q => absurd hb1 q)
    refine sx_iconst (v := 0) k288_27 (by decide) ?_
    exact cx_retz k288_28 rt_288 h
  · rw [if_neg hb1] at h
    refine sx_if_lt (tgt := 27) k288_1 (by decide) (fun q => absurd q hb1) (fun _ => ?_)
    refine sx_iload_n (i := 1) k288_4 rfl rfl ?_
    refine sx_aload_n (i := 0) k288_5 rfl rfl ?_
    refine cx_getI (k := 58) k288_6 ow_288 fl_12_294 (by decide) sk_129 ft_11_58 ?_
    by_cases hb2 : (μ.1 129 58) ≤ p1
    · rw [if_pos hb2] at h
      refine sx_icmp_ge (tgt := 27) k288_9 (by decide) (fun _ => ?_) (fun q => absurd hb2 q)
      refine sx_iconst (v := 0) k288_27 (by decide) ?_
      exact cx_retz k288_28 rt_288 h
    · rw [if_neg hb2] at h
      refine sx_icmp_ge (tgt := 27) k288_9 (by decide) (fun q => absurd q hb2) (fun _ => ?_)
      refine sx_iload_n (i := 1) k288_12 rfl rfl ?_
      refine sx_aload_n (i := 0) k288_13 rfl rfl ?_
      refine cx_getI (k := 58) k288_14 ow_288 fl_12_294 (by decide) sk_129 ft_11_58 ?_
      refine sx_bipush (v := 64) k288_17 (by decide) ?_
      refine sx_isub k288_19 ?_
      by_cases hb3 : p1 < ((μ.1 129 58) - (64 : Int32))
      · rw [if_pos hb3] at h
        refine sx_icmp_lt (tgt := 27) k288_20 (by decide) (fun _ => ?_) (fun q => absurd hb3 q)
        refine sx_iconst (v := 0) k288_27 (by decide) ?_
        exact cx_retz k288_28 rt_288 h
      · rw [if_neg hb3] at h
        refine sx_icmp_lt (tgt := 27) k288_20 (by decide) (fun q => absurd q hb3) (fun _ => ?_)
        refine sx_iconst (v := 1) k288_23 (by decide) ?_
        refine sx_goto (tgt := 28) k288_24 (by decide) ?_
        exact cx_retz k288_28 rt_288 h
theorem k290_0 : decode (gb 290) 0 = .ok (.aload_n 0, 1) := by decide +kernel
theorem k290_1 : decode (gb 290) 1 = .ok (.iload_n 1, 1) := by decide +kernel
theorem k290_2 : decode (gb 290) 2 = .ok (.invokevirtual 297, 3) := by decide +kernel
theorem k290_5 : decode (gb 290) 5 = .ok (.ifCond .eq 15, 3) := by decide +kernel
theorem k290_8 : decode (gb 290) 8 = .ok (.aload_n 0, 1) := by decide +kernel
theorem k290_9 : decode (gb 290) 9 = .ok (.getfield 300, 3) := by decide +kernel
theorem k290_12 : decode (gb 290) 12 = .ok (.iload_n 1, 1) := by decide +kernel
theorem k290_13 : decode (gb 290) 13 = .ok (.bipush 64, 2) := by decide +kernel
theorem k290_15 : decode (gb 290) 15 = .ok (.irem, 1) := by decide +kernel
theorem k290_16 : decode (gb 290) 16 = .ok (.iaload, 1) := by decide +kernel
theorem k290_17 : decode (gb 290) 17 = .ok (.goto 5, 3) := by decide +kernel
theorem k290_20 : decode (gb 290) 20 = .ok (.bipush (-2), 2) := by decide +kernel
theorem k290_22 : decode (gb 290) 22 = .ok (.ireturn, 1) := by decide +kernel
/-- CraftHouseModel.becameOf(I)I -/
def f290 (p1 : Int32) (μ : Mem) : Option (Mem × Int32) :=
  (f288 p1 μ).bind fun r1 =>
  if r1.2 = 0 then
    some (r1.1, (-2 : Int32))
  else
    (ldA 152 (jrem p1 (64 : Int32)) r1.1).bind fun x4 =>
    some (r1.1, x4)
theorem ok290 {L : Nat} (p1 : Int32) (μ : Mem) (res : Mem × Int32) (h : f290 p1 μ = some res) : Mx 290 [.ref 129, .int p1] (mk L μ) (mk L res.1, some (.int res.2)) := by
  refine Mx_of ml_290 (by rw [mx_290]; exact Nat.le_of_ble_eq_true rfl) ?_
  show Sx 290 0 [(0, .ref 129), (1, .int p1)] [] 0 0 (mk L μ) _
  unfold f290 at h
  refine sx_aload_n (i := 0) k290_0 rfl rfl ?_
  refine sx_iload_n (i := 1) k290_1 rfl rfl ?_
  obtain ⟨r1, e2, h⟩ := Option.bind_eq_some_iff.mp h
  refine cx_V (sk := []) (vs := [.int p1]) st_290_288 k290_2 ow_290 cl_12_297 (by decide) rfl (Nat.le_of_ble_eq_true rfl) sk_129 (ok288 p1 _ _ e2) (sk3 := [.int r1.2]) rfl rfl ?_
  by_cases hb3 : r1.2 = 0
  · rw [if_pos hb3] at h
    refine sx_if_eq (tgt := 20) k290_5 (by decide) (fun _ => ?_) (fun q => absurd hb3 q)
    refine sx_bipush (v := -2) k290_20 (by decide) ?_
    exact cx_reti k290_22 rt_290 h
  · rw [if_neg hb3] at h
    refine sx_if_eq (tgt := 20) k290_5 (by decide) (fun q => absurd q hb3) (fun _ => ?_)
    refine sx_aload_n (i := 0) k290_8 rfl rfl ?_
    refine cx_getR (k := 54) k290_9 ow_290 fl_12_300 (by decide) sk_129 ft_11_54 sr_129_54 ?_
    refine sx_iload_n (i := 1) k290_12 rfl rfl ?_
    refine sx_bipush (v := 64) k290_13 (by decide) ?_
    refine sx_irem k290_15 (by decide) ?_
    obtain ⟨x4, e5, h⟩ := Option.bind_eq_some_iff.mp h
    refine cx_iald k290_16 sk_152 e5 ?_
    refine sx_goto (tgt := 22) k290_17 (by decide) ?_
    exact cx_reti k290_22 rt_290 h
theorem k289_0 : decode (gb 289) 0 = .ok (.aload_n 0, 1) := by decide +kernel
theorem k289_1 : decode (gb 289) 1 = .ok (.iload_n 1, 1) := by decide +kernel
theorem k289_2 : decode (gb 289) 2 = .ok (.invokevirtual 297, 3) := by decide +kernel
theorem k289_5 : decode (gb 289) 5 = .ok (.ifCond .eq 13, 3) := by decide +kernel
theorem k289_8 : decode (gb 289) 8 = .ok (.aload_n 0, 1) := by decide +kernel
theorem k289_9 : decode (gb 289) 9 = .ok (.getfield 300, 3) := by decide +kernel
theorem k289_12 : decode (gb 289) 12 = .ok (.iload_n 1, 1) := by decide +kernel
theorem k289_13 : decode (gb 289) 13 = .ok (.bipush 64, 2) := by decide +kernel
theorem k289_15 : decode (gb 289) 15 = .ok (.irem, 1) := by decide +kernel
theorem k289_16 : decode (gb 289) 16 = .ok (.iload_n 2, 1) := by decide +kernel
theorem k289_17 : decode (gb 289) 17 = .ok (.iastore, 1) := by decide +kernel
theorem k289_18 : decode (gb 289) 18 = .ok (.return_, 1) := by decide +kernel
/-- CraftHouseModel.becomes(II)V -/
def f289 (p1 : Int32) (p2 : Int32) (μ : Mem) : Option (Mem) :=
  (f288 p1 μ).bind fun r1 =>
  if r1.2 = 0 then
    some r1.1
  else
    (stA 152 (jrem p1 (64 : Int32)) p2 r1.1).bind fun m4 =>
    some m4
theorem ok289 {L : Nat} (p1 : Int32) (p2 : Int32) (μ : Mem) (res : Mem) (h : f289 p1 p2 μ = some res) : Mx 289 [.ref 129, .int p1, .int p2] (mk L μ) (mk L res, none) := by
  refine Mx_of ml_289 (by rw [mx_289]; exact Nat.le_of_ble_eq_true rfl) ?_
  show Sx 289 0 [(0, .ref 129), (1, .int p1), (2, .int p2)] [] 0 0 (mk L μ) _
  unfold f289 at h
  refine sx_aload_n (i := 0) k289_0 rfl rfl ?_
  refine sx_iload_n (i := 1) k289_1 rfl rfl ?_
  obtain ⟨r1, e2, h⟩ := Option.bind_eq_some_iff.mp h
  refine cx_V (sk := []) (vs := [.int p1]) st_289_288 k289_2 ow_289 cl_12_297 (by decide) rfl (Nat.le_of_ble_eq_true rfl) sk_129 (ok288 p1 _ _ e2) (sk3 := [.int r1.2]) rfl rfl ?_
  by_cases hb3 : r1.2 = 0
  · rw [if_pos hb3] at h
    refine sx_if_eq (tgt := 18) k289_5 (by decide) (fun _ => ?_) (fun q => absurd hb3 q)
    exact cx_retv k289_18 rt_289 h
  · rw [if_neg hb3] at h
    refine sx_if_eq (tgt := 18) k289_5 (by decide) (fun q => absurd q hb3) (fun _ => ?_)
    refine sx_aload_n (i := 0) k289_8 rfl rfl ?_
    refine cx_getR (k := 54) k289_9 ow_289 fl_12_300 (by decide) sk_129 ft_11_54 sr_129_54 ?_
    refine sx_iload_n (i := 1) k289_12 rfl rfl ?_
    refine sx_bipush (v := 64) k289_13 (by decide) ?_
    refine sx_irem k289_15 (by decide) ?_
    refine sx_iload_n (i := 2) k289_16 rfl rfl ?_
    obtain ⟨m4, e5, h⟩ := Option.bind_eq_some_iff.mp h
    refine cx_iast k289_17 sk_152 e5 ?_
    exact cx_retv k289_18 rt_289 h
theorem k278_0 : decode (gb 278) 0 = .ok (.iconst 0, 1) := by decide +kernel
theorem k278_1 : decode (gb 278) 1 = .ok (.istore_n 1, 1) := by decide +kernel
theorem k278_2 : decode (gb 278) 2 = .ok (.iload_n 1, 1) := by decide +kernel
theorem k278_3 : decode (gb 278) 3 = .ok (.aload_n 0, 1) := by decide +kernel
theorem k278_4 : decode (gb 278) 4 = .ok (.getfield 198, 3) := by decide +kernel
theorem k278_7 : decode (gb 278) 7 = .ok (.if_icmp .ge 34, 3) := by decide +kernel
theorem k278_10 : decode (gb 278) 10 = .ok (.aload_n 0, 1) := by decide +kernel
theorem k278_11 : decode (gb 278) 11 = .ok (.aload_n 0, 1) := by decide +kernel
theorem k278_12 : decode (gb 278) 12 = .ok (.getfield 238, 3) := by decide +kernel
theorem k278_15 : decode (gb 278) 15 = .ok (.iload_n 1, 1) := by decide +kernel
theorem k278_16 : decode (gb 278) 16 = .ok (.iaload, 1) := by decide +kernel
theorem k278_17 : decode (gb 278) 17 = .ok (.invokevirtual 247, 3) := by decide +kernel
theorem k278_20 : decode (gb 278) 20 = .ok (.iconst 2, 1) := by decide +kernel
theorem k278_21 : decode (gb 278) 21 = .ok (.if_icmp .ne 14, 3) := by decide +kernel
theorem k278_24 : decode (gb 278) 24 = .ok (.aload_n 0, 1) := by decide +kernel
theorem k278_25 : decode (gb 278) 25 = .ok (.aload_n 0, 1) := by decide +kernel
theorem k278_26 : decode (gb 278) 26 = .ok (.getfield 238, 3) := by decide +kernel
theorem k278_29 : decode (gb 278) 29 = .ok (.iload_n 1, 1) := by decide +kernel
theorem k278_30 : decode (gb 278) 30 = .ok (.iaload, 1) := by decide +kernel
theorem k278_31 : decode (gb 278) 31 = .ok (.iconst 4, 1) := by decide +kernel
theorem k278_32 : decode (gb 278) 32 = .ok (.invokevirtual 241, 3) := by decide +kernel
theorem k278_35 : decode (gb 278) 35 = .ok (.iinc 1 1, 3) := by decide +kernel
theorem k278_38 : decode (gb 278) 38 = .ok (.goto (-36), 3) := by decide +kernel
theorem k278_41 : decode (gb 278) 41 = .ok (.iconst 0, 1) := by decide +kernel
theorem k278_42 : decode (gb 278) 42 = .ok (.istore_n 1, 1) := by decide +kernel
theorem k278_43 : decode (gb 278) 43 = .ok (.iload_n 1, 1) := by decide +kernel
theorem k278_44 : decode (gb 278) 44 = .ok (.aload_n 0, 1) := by decide +kernel
theorem k278_45 : decode (gb 278) 45 = .ok (.getfield 213, 3) := by decide +kernel
theorem k278_48 : decode (gb 278) 48 = .ok (.if_icmp .ge 34, 3) := by decide +kernel
theorem k278_51 : decode (gb 278) 51 = .ok (.aload_n 0, 1) := by decide +kernel
theorem k278_52 : decode (gb 278) 52 = .ok (.aload_n 0, 1) := by decide +kernel
theorem k278_53 : decode (gb 278) 53 = .ok (.getfield 219, 3) := by decide +kernel
theorem k278_56 : decode (gb 278) 56 = .ok (.iload_n 1, 1) := by decide +kernel
theorem k278_57 : decode (gb 278) 57 = .ok (.iaload, 1) := by decide +kernel
theorem k278_58 : decode (gb 278) 58 = .ok (.invokevirtual 247, 3) := by decide +kernel
theorem k278_61 : decode (gb 278) 61 = .ok (.iconst 1, 1) := by decide +kernel
theorem k278_62 : decode (gb 278) 62 = .ok (.if_icmp .ne 14, 3) := by decide +kernel
theorem k278_65 : decode (gb 278) 65 = .ok (.aload_n 0, 1) := by decide +kernel
theorem k278_66 : decode (gb 278) 66 = .ok (.aload_n 0, 1) := by decide +kernel
theorem k278_67 : decode (gb 278) 67 = .ok (.getfield 219, 3) := by decide +kernel
theorem k278_70 : decode (gb 278) 70 = .ok (.iload_n 1, 1) := by decide +kernel
theorem k278_71 : decode (gb 278) 71 = .ok (.iaload, 1) := by decide +kernel
theorem k278_72 : decode (gb 278) 72 = .ok (.iconst 4, 1) := by decide +kernel
theorem k278_73 : decode (gb 278) 73 = .ok (.invokevirtual 241, 3) := by decide +kernel
theorem k278_76 : decode (gb 278) 76 = .ok (.iinc 1 1, 3) := by decide +kernel
theorem k278_79 : decode (gb 278) 79 = .ok (.goto (-36), 3) := by decide +kernel
theorem k278_82 : decode (gb 278) 82 = .ok (.aload_n 0, 1) := by decide +kernel
theorem k278_83 : decode (gb 278) 83 = .ok (.iconst 0, 1) := by decide +kernel
theorem k278_84 : decode (gb 278) 84 = .ok (.putfield 198, 3) := by decide +kernel
theorem k278_87 : decode (gb 278) 87 = .ok (.aload_n 0, 1) := by decide +kernel
theorem k278_88 : decode (gb 278) 88 = .ok (.iconst 0, 1) := by decide +kernel
theorem k278_89 : decode (gb 278) 89 = .ok (.putfield 213, 3) := by decide +kernel
theorem k278_92 : decode (gb 278) 92 = .ok (.aload_n 0, 1) := by decide +kernel
theorem k278_93 : decode (gb 278) 93 = .ok (.aload_n 0, 1) := by decide +kernel
theorem k278_94 : decode (gb 278) 94 = .ok (.getfield 235, 3) := by decide +kernel
theorem k278_97 : decode (gb 278) 97 = .ok (.putfield 204, 3) := by decide +kernel
theorem k278_100 : decode (gb 278) 100 = .ok (.aload_n 0, 1) := by decide +kernel
theorem k278_101 : decode (gb 278) 101 = .ok (.iconst 0, 1) := by decide +kernel
theorem k278_102 : decode (gb 278) 102 = .ok (.putfield 250, 3) := by decide +kernel
theorem k278_105 : decode (gb 278) 105 = .ok (.return_, 1) := by decide +kernel
def c278_35 (kl2 : Int32 → Mem → Option (Mem)) (v1 : Int32) (μ : Mem) : Option (Mem) :=
  nm (v1 + (1 : Int32)) fun x1 =>
  kl2 x1 μ
theorem c278_35_ok {L : Nat} (kl2 : Int32 → Mem → Option (Mem)) (hk2 : (∀ (v1 : Int32) (μ : Mem) (res : Mem), kl2 v1 μ = some res → Sx 278 2 [(0, .ref 129), (1, .int v1)] [] 0 0 (mk L μ) (mk L res, none))) (v1 : Int32) (μ : Mem) (res : Mem) (h : c278_35 kl2 v1 μ = some res) : Sx 278 35 [(0, .ref 129), (1, .int v1)] [] 0 0 (mk L μ) (mk L res, none) := by
  unfold c278_35 at h
  refine cx_iinc (c := 1) (lo2 := fun x1 => [(1, .int x1), (0, .ref 129)]) k278_35 rfl (by decide) (by rw [mx_278]; decide) (fun _ => rfl) h (fun x1 h => ?_)
  refine sx_goto (tgt := 2) k278_38 (by decide) ?_
  refine sx_pick (lo2 := [(0, .ref 129), (1, .int x1)]) [1, 0] rfl ?_
  exact hk2 x1 _ _ h
def c278_76 (kl43 : Int32 → Mem → Option (Mem)) (v1 : Int32) (μ : Mem) : Option (Mem) :=
  nm (v1 + (1 : Int32)) fun x1 =>
  kl43 x1 μ
theorem c278_76_ok {L : Nat} (kl43 : Int32 → Mem → Option (Mem)) (hk43 : (∀ (v1 : Int32) (μ : Mem) (res : Mem), kl43 v1 μ = some res → Sx 278 43 [(0, .ref 129), (1, .int v1)] [] 0 0 (mk L μ) (mk L res, none))) (v1 : Int32) (μ : Mem) (res : Mem) (h : c278_76 kl43 v1 μ = some res) : Sx 278 76 [(0, .ref 129), (1, .int v1)] [] 0 0 (mk L μ) (mk L res, none) := by
  unfold c278_76 at h
  refine cx_iinc (c := 1) (lo2 := fun x1 => [(1, .int x1), (0, .ref 129)]) k278_76 rfl (by decide) (by rw [mx_278]; decide) (fun _ => rfl) h (fun x1 h => ?_)
  refine sx_goto (tgt := 43) k278_79 (by decide) ?_
  refine sx_pick (lo2 := [(0, .ref 129), (1, .int x1)]) [1, 0] rfl ?_
  exact hk43 x1 _ _ h
def b278_43 (kl43 : Int32 → Mem → Option (Mem)) (v1 : Int32) (μ : Mem) : Option (Mem) :=
  if (μ.1 129 43) ≤ v1 then
    (pfI 129 41 (0 : Int32) μ).bind fun m2 =>
    (pfI 129 43 (0 : Int32) m2).bind fun m4 =>
    (pfI 129 30 (m4.1 129 29) m4).bind fun m6 =>
    (pfI 129 37 (0 : Int32) m6).bind fun m8 =>
    some m8
  else
    (ldA 143 v1 μ).bind fun x10 =>
    (f290 x10 μ).bind fun r12 =>
    if r12.2 = (1 : Int32) then
      (ldA 143 v1 r12.1).bind fun x15 =>
      (f289 x15 (4 : Int32) r12.1).bind fun r17 =>
      c278_76 kl43 v1 r17
    else
      c278_76 kl43 v1 r12.1
theorem b278_43_ok {L : Nat} (kl43 : Int32 → Mem → Option (Mem)) (hk43 : (∀ (v1 : Int32) (μ : Mem) (res : Mem), kl43 v1 μ = some res → Sx 278 43 [(0, .ref 129), (1, .int v1)] [] 0 0 (mk L μ) (mk L res, none))) (v1 : Int32) (μ : Mem) (res : Mem) (h : b278_43 kl43 v1 μ = some res) : Sx 278 43 [(0, .ref 129), (1, .int v1)] [] 0 0 (mk L μ) (mk L res, none) := by
  unfold b278_43 at h
  refine sx_iload_n (i := 1) k278_43 rfl rfl ?_
  refine sx_aload_n (i := 0) k278_44 rfl rfl ?_
  refine cx_getI (k := 43) k278_45 ow_278 fl_12_213 (by decide) sk_129 ft_11_43 ?_
  by_cases hb1 : (μ.1 129 43) ≤ v1
  · rw [if_pos hb1] at h
    refine sx_icmp_ge (tgt := 82) k278_48 (by decide) (fun _ => ?_) (fun q => absurd hb1 q)
    refine sx_aload_n (i := 0) k278_82 rfl rfl ?_
    refine sx_iconst (v := 0) k278_83 (by decide) ?_
    obtain ⟨m2, e3, h⟩ := Option.bind_eq_some_iff.mp h
    refine cx_putI (k := 41) k278_84 ow_278 fl_12_198 (by decide) sk_129 nf_11_41 fu_11_41 e3 ?_
    refine sx_aload_n (i := 0) k278_87 rfl rfl ?_
    refine sx_iconst (v := 0) k278_88 (by decide) ?_
    obtain ⟨m4, e5, h⟩ := Option.bind_eq_some_iff.mp h
    refine cx_putI (k := 43) k278_89 ow_278 fl_12_213 (by decide) sk_129 nf_11_43 fu_11_43 e5 ?_
    refine sx_aload_n (i := 0) k278_92 rfl rfl ?_
    refine sx_aload_n (i := 0) k278_93 rfl rfl ?_
    refine cx_getI (k := 29) k278_94 ow_278 fl_12_235 (by decide) sk_129 ft_11_29 ?_
    obtain ⟨m6, e7, h⟩ := Option.bind_eq_some_iff.mp h
    refine cx_putI (k := 30) k278_97 ow_278 fl_12_204 (by decide) sk_129 nf_11_30 fu_11_30 e7 ?_
    refine sx_aload_n (i := 0) k278_100 rfl rfl ?_
    refine sx_iconst (v := 0) k278_101 (by decide) ?_
    obtain ⟨m8, e9, h⟩ := Option.bind_eq_some_iff.mp h
    refine cx_putI (k := 37) k278_102 ow_278 fl_12_250 (by decide) sk_129 nf_11_37 fu_11_37 e9 ?_
    exact cx_retv k278_105 rt_278 h
  · rw [if_neg hb1] at h
    refine sx_icmp_ge (tgt := 82) k278_48 (by decide) (fun q => absurd q hb1) (fun _ => ?_)
    refine sx_aload_n (i := 0) k278_51 rfl rfl ?_
    refine sx_aload_n (i := 0) k278_52 rfl rfl ?_
    refine cx_getR (k := 42) k278_53 ow_278 fl_12_219 (by decide) sk_129 ft_11_42 sr_129_42 ?_
    refine sx_iload_n (i := 1) k278_56 rfl rfl ?_
    obtain ⟨x10, e11, h⟩ := Option.bind_eq_some_iff.mp h
    refine cx_iald k278_57 sk_143 e11 ?_
    obtain ⟨r12, e13, h⟩ := Option.bind_eq_some_iff.mp h
    refine cx_V (sk := []) (vs := [.int x10]) st_278_290 k278_58 ow_278 cl_12_247 (by decide) rfl (Nat.le_of_ble_eq_true rfl) sk_129 (ok290 x10 _ _ e13) (sk3 := [.int r12.2]) rfl rfl ?_
    refine sx_iconst (v := 1) k278_61 (by decide) ?_
    by_cases hb14 : r12.2 = (1 : Int32)
    · rw [if_pos hb14] at h
      refine sx_icmp_ne (tgt := 76) k278_62 (by decide) (fun q => absurd hb14 q) (fun _ => ?_)
      refine sx_aload_n (i := 0) k278_65 rfl rfl ?_
      refine sx_aload_n (i := 0) k278_66 rfl rfl ?_
      refine cx_getR (k := 42) k278_67 ow_278 fl_12_219 (by decide) sk_129 ft_11_42 sr_129_42 ?_
      refine sx_iload_n (i := 1) k278_70 rfl rfl ?_
      obtain ⟨x15, e16, h⟩ := Option.bind_eq_some_iff.mp h
      refine cx_iald k278_71 sk_143 e16 ?_
      refine sx_iconst (v := 4) k278_72 (by decide) ?_
      obtain ⟨r17, e18, h⟩ := Option.bind_eq_some_iff.mp h
      refine cx_V (sk := []) (vs := [.int x15, .int (4 : Int32)]) st_278_289 k278_73 ow_278 cl_12_241 (by decide) rfl (Nat.le_of_ble_eq_true rfl) sk_129 (ok289 x15 (4 : Int32) _ _ e18) (sk3 := []) rfl rfl ?_
      refine sx_pick (lo2 := [(0, .ref 129), (1, .int v1)]) [0, 1] rfl ?_
      exact c278_76_ok kl43 hk43 v1 _ _ h
    · rw [if_neg hb14] at h
      refine sx_icmp_ne (tgt := 76) k278_62 (by decide) (fun _ => ?_) (fun q => absurd q hb14)
      refine sx_pick (lo2 := [(0, .ref 129), (1, .int v1)]) [0, 1] rfl ?_
      exact c278_76_ok kl43 hk43 v1 _ _ h
def l278_43 : Nat → Int32 × Mem → Option (Mem) :=
  fixN (fun self x => b278_43 (fun v1 μ => self (v1, μ)) (x.1) (x.2))
theorem l278_43_ok {L : Nat} (n : Nat) (v1 : Int32) (μ : Mem) (res : Mem) (h : l278_43 n (v1, μ) = some res) : Sx 278 43 [(0, .ref 129), (1, .int v1)] [] 0 0 (mk L μ) (mk L res, none) := by
  have key := fixN_ind (P := fun x res => Sx 278 43 [(0, .ref 129), (1, .int (x.1))] [] 0 0 (mk L (x.2)) (mk L res, none)) (F := fun self x => b278_43 (fun v1 μ => self (v1, μ)) (x.1) (x.2)) (fun self hself x res h => b278_43_ok (fun v1 μ => self (v1, μ)) (fun v1 μ res hh => hself (v1, μ) res hh) (x.1) (x.2) res h) n (v1, μ) res h
  exact key
def b278_2 (kl2 : Int32 → Mem → Option (Mem)) (v1 : Int32) (μ : Mem) : Option (Mem) :=
  if (μ.1 129 41) ≤ v1 then
    l278_43 gF ((0 : Int32), μ)
  else
    (ldA 141 v1 μ).bind fun x2 =>
    (f290 x2 μ).bind fun r4 =>
    if r4.2 = (2 : Int32) then
      (ldA 141 v1 r4.1).bind fun x7 =>
      (f289 x7 (4 : Int32) r4.1).bind fun r9 =>
      c278_35 kl2 v1 r9
    else
      c278_35 kl2 v1 r4.1
theorem b278_2_ok {L : Nat} (kl2 : Int32 → Mem → Option (Mem)) (hk2 : (∀ (v1 : Int32) (μ : Mem) (res : Mem), kl2 v1 μ = some res → Sx 278 2 [(0, .ref 129), (1, .int v1)] [] 0 0 (mk L μ) (mk L res, none))) (v1 : Int32) (μ : Mem) (res : Mem) (h : b278_2 kl2 v1 μ = some res) : Sx 278 2 [(0, .ref 129), (1, .int v1)] [] 0 0 (mk L μ) (mk L res, none) := by
  unfold b278_2 at h
  refine sx_iload_n (i := 1) k278_2 rfl rfl ?_
  refine sx_aload_n (i := 0) k278_3 rfl rfl ?_
  refine cx_getI (k := 41) k278_4 ow_278 fl_12_198 (by decide) sk_129 ft_11_41 ?_
  by_cases hb1 : (μ.1 129 41) ≤ v1
  · rw [if_pos hb1] at h
    refine sx_icmp_ge (tgt := 41) k278_7 (by decide) (fun _ => ?_) (fun q => absurd hb1 q)
    refine sx_iconst (v := 0) k278_41 (by decide) ?_
    refine cx_istore_n (lo2 := [(1, .int (0 : Int32)), (0, .ref 129)]) k278_42 rfl (by rw [mx_278]; decide) rfl ?_
    refine sx_pick (lo2 := [(0, .ref 129), (1, .int (0 : Int32))]) [1, 0] rfl ?_
    exact l278_43_ok gF (0 : Int32) _ _ h
  · rw [if_neg hb1] at h
    refine sx_icmp_ge (tgt := 41) k278_7 (by decide) (fun q => absurd q hb1) (fun _ => ?_)
    refine sx_aload_n (i := 0) k278_10 rfl rfl ?_
    refine sx_aload_n (i := 0) k278_11 rfl rfl ?_
    refine cx_getR (k := 39) k278_12 ow_278 fl_12_238 (by decide) sk_129 ft_11_39 sr_129_39 ?_
    refine sx_iload_n (i := 1) k278_15 rfl rfl ?_
    obtain ⟨x2, e3, h⟩ := Option.bind_eq_some_iff.mp h
    refine cx_iald k278_16 sk_141 e3 ?_
    obtain ⟨r4, e5, h⟩ := Option.bind_eq_some_iff.mp h
    refine cx_V (sk := []) (vs := [.int x2]) st_278_290 k278_17 ow_278 cl_12_247 (by decide) rfl (Nat.le_of_ble_eq_true rfl) sk_129 (ok290 x2 _ _ e5) (sk3 := [.int r4.2]) rfl rfl ?_
    refine sx_iconst (v := 2) k278_20 (by decide) ?_
    by_cases hb6 : r4.2 = (2 : Int32)
    · rw [if_pos hb6] at h
      refine sx_icmp_ne (tgt := 35) k278_21 (by decide) (fun q => absurd hb6 q) (fun _ => ?_)
      refine sx_aload_n (i := 0) k278_24 rfl rfl ?_
      refine sx_aload_n (i := 0) k278_25 rfl rfl ?_
      refine cx_getR (k := 39) k278_26 ow_278 fl_12_238 (by decide) sk_129 ft_11_39 sr_129_39 ?_
      refine sx_iload_n (i := 1) k278_29 rfl rfl ?_
      obtain ⟨x7, e8, h⟩ := Option.bind_eq_some_iff.mp h
      refine cx_iald k278_30 sk_141 e8 ?_
      refine sx_iconst (v := 4) k278_31 (by decide) ?_
      obtain ⟨r9, e10, h⟩ := Option.bind_eq_some_iff.mp h
      refine cx_V (sk := []) (vs := [.int x7, .int (4 : Int32)]) st_278_289 k278_32 ow_278 cl_12_241 (by decide) rfl (Nat.le_of_ble_eq_true rfl) sk_129 (ok289 x7 (4 : Int32) _ _ e10) (sk3 := []) rfl rfl ?_
      refine sx_pick (lo2 := [(0, .ref 129), (1, .int v1)]) [0, 1] rfl ?_
      exact c278_35_ok kl2 hk2 v1 _ _ h
    · rw [if_neg hb6] at h
      refine sx_icmp_ne (tgt := 35) k278_21 (by decide) (fun _ => ?_) (fun q => absurd q hb6)
      refine sx_pick (lo2 := [(0, .ref 129), (1, .int v1)]) [0, 1] rfl ?_
      exact c278_35_ok kl2 hk2 v1 _ _ h
def l278_2 : Nat → Int32 × Mem → Option (Mem) :=
  fixN (fun self x => b278_2 (fun v1 μ => self (v1, μ)) (x.1) (x.2))
theorem l278_2_ok {L : Nat} (n : Nat) (v1 : Int32) (μ : Mem) (res : Mem) (h : l278_2 n (v1, μ) = some res) : Sx 278 2 [(0, .ref 129), (1, .int v1)] [] 0 0 (mk L μ) (mk L res, none) := by
  have key := fixN_ind (P := fun x res => Sx 278 2 [(0, .ref 129), (1, .int (x.1))] [] 0 0 (mk L (x.2)) (mk L res, none)) (F := fun self x => b278_2 (fun v1 μ => self (v1, μ)) (x.1) (x.2)) (fun self hself x res h => b278_2_ok (fun v1 μ => self (v1, μ)) (fun v1 μ res hh => hself (v1, μ) res hh) (x.1) (x.2) res h) n (v1, μ) res h
  exact key
/-- CraftHouseModel.loseAll()V -/
def f278 (μ : Mem) : Option (Mem) :=
  l278_2 gF ((0 : Int32), μ)
theorem ok278 {L : Nat} (μ : Mem) (res : Mem) (h : f278 μ = some res) : Mx 278 [.ref 129] (mk L μ) (mk L res, none) := by
  refine Mx_of ml_278 (by rw [mx_278]; exact Nat.le_of_ble_eq_true rfl) ?_
  show Sx 278 0 [(0, .ref 129)] [] 0 0 (mk L μ) _
  unfold f278 at h
  refine sx_iconst (v := 0) k278_0 (by decide) ?_
  refine cx_istore_n (lo2 := [(1, .int (0 : Int32)), (0, .ref 129)]) k278_1 rfl (by rw [mx_278]; decide) rfl ?_
  refine sx_pick (lo2 := [(0, .ref 129), (1, .int (0 : Int32))]) [1, 0] rfl ?_
  exact l278_2_ok gF (0 : Int32) _ _ h
theorem k279_0 : decode (gb 279) 0 = .ok (.aload_n 0, 1) := by decide +kernel
theorem k279_1 : decode (gb 279) 1 = .ok (.iload_n 1, 1) := by decide +kernel
theorem k279_2 : decode (gb 279) 2 = .ok (.putfield 253, 3) := by decide +kernel
theorem k279_5 : decode (gb 279) 5 = .ok (.aload_n 0, 1) := by decide +kernel
theorem k279_6 : decode (gb 279) 6 = .ok (.invokevirtual 256, 3) := by decide +kernel
theorem k279_9 : decode (gb 279) 9 = .ok (.aload_n 0, 1) := by decide +kernel
theorem k279_10 : decode (gb 279) 10 = .ok (.iconst 0, 1) := by decide +kernel
theorem k279_11 : decode (gb 279) 11 = .ok (.putfield 192, 3) := by decide +kernel
theorem k279_14 : decode (gb 279) 14 = .ok (.aload_n 0, 1) := by decide +kernel
theorem k279_15 : decode (gb 279) 15 = .ok (.bipush 6, 2) := by decide +kernel
theorem k279_17 : decode (gb 279) 17 = .ok (.putfield 195, 3) := by decide +kernel
theorem k279_20 : decode (gb 279) 20 = .ok (.return_, 1) := by decide +kernel
/-- CraftHouseModel.alarm(I)V -/
def f279 (p1 : Int32) (μ : Mem) : Option (Mem) :=
  (pfI 129 38 p1 μ).bind fun m1 =>
  (f278 m1).bind fun r3 =>
  (pfI 129 34 (0 : Int32) r3).bind fun m5 =>
  (pfI 129 28 (6 : Int32) m5).bind fun m7 =>
  some m7
theorem ok279 {L : Nat} (p1 : Int32) (μ : Mem) (res : Mem) (h : f279 p1 μ = some res) : Mx 279 [.ref 129, .int p1] (mk L μ) (mk L res, none) := by
  refine Mx_of ml_279 (by rw [mx_279]; exact Nat.le_of_ble_eq_true rfl) ?_
  show Sx 279 0 [(0, .ref 129), (1, .int p1)] [] 0 0 (mk L μ) _
  unfold f279 at h
  refine sx_aload_n (i := 0) k279_0 rfl rfl ?_
  refine sx_iload_n (i := 1) k279_1 rfl rfl ?_
  obtain ⟨m1, e2, h⟩ := Option.bind_eq_some_iff.mp h
  refine cx_putI (k := 38) k279_2 ow_279 fl_12_253 (by decide) sk_129 nf_11_38 fu_11_38 e2 ?_
  refine sx_aload_n (i := 0) k279_5 rfl rfl ?_
  obtain ⟨r3, e4, h⟩ := Option.bind_eq_some_iff.mp h
  refine cx_V (sk := []) (vs := []) st_279_278 k279_6 ow_279 cl_12_256 (by decide) rfl (Nat.le_of_ble_eq_true rfl) sk_129 (ok278 _ _ e4) (sk3 := []) rfl rfl ?_
  refine sx_aload_n (i := 0) k279_9 rfl rfl ?_
  refine sx_iconst (v := 0) k279_10 (by decide) ?_
  obtain ⟨m5, e6, h⟩ := Option.bind_eq_some_iff.mp h
  refine cx_putI (k := 34) k279_11 ow_279 fl_12_192 (by decide) sk_129 nf_11_34 fu_11_34 e6 ?_
  refine sx_aload_n (i := 0) k279_14 rfl rfl ?_
  refine sx_bipush (v := 6) k279_15 (by decide) ?_
  obtain ⟨m7, e8, h⟩ := Option.bind_eq_some_iff.mp h
  refine cx_putI (k := 28) k279_17 ow_279 fl_12_195 (by decide) sk_129 nf_11_28 fu_11_28 e8 ?_
  exact cx_retv k279_20 rt_279 h
theorem k271_0 : decode (gb 271) 0 = .ok (.iload 5, 2) := by decide +kernel
theorem k271_2 : decode (gb 271) 2 = .ok (.bipush 7, 2) := by decide +kernel
theorem k271_4 : decode (gb 271) 4 = .ok (.iadd, 1) := by decide +kernel
theorem k271_5 : decode (gb 271) 5 = .ok (.istore 6, 2) := by decide +kernel
theorem k271_7 : decode (gb 271) 7 = .ok (.aload_n 0, 1) := by decide +kernel
theorem k271_8 : decode (gb 271) 8 = .ok (.getfield 173, 3) := by decide +kernel
theorem k271_11 : decode (gb 271) 11 = .ok (.iconst 0, 1) := by decide +kernel
theorem k271_12 : decode (gb 271) 12 = .ok (.iload_n 1, 1) := by decide +kernel
theorem k271_13 : decode (gb 271) 13 = .ok (.iastore, 1) := by decide +kernel
theorem k271_14 : decode (gb 271) 14 = .ok (.aload_n 0, 1) := by decide +kernel
theorem k271_15 : decode (gb 271) 15 = .ok (.getfield 173, 3) := by decide +kernel
theorem k271_18 : decode (gb 271) 18 = .ok (.iconst 1, 1) := by decide +kernel
theorem k271_19 : decode (gb 271) 19 = .ok (.sipush 171, 3) := by decide +kernel
theorem k271_22 : decode (gb 271) 22 = .ok (.iastore, 1) := by decide +kernel
theorem k271_23 : decode (gb 271) 23 = .ok (.aload_n 0, 1) := by decide +kernel
theorem k271_24 : decode (gb 271) 24 = .ok (.getfield 173, 3) := by decide +kernel
theorem k271_27 : decode (gb 271) 27 = .ok (.iconst 2, 1) := by decide +kernel
theorem k271_28 : decode (gb 271) 28 = .ok (.iload 6, 2) := by decide +kernel
theorem k271_30 : decode (gb 271) 30 = .ok (.iconst 1, 1) := by decide +kernel
theorem k271_31 : decode (gb 271) 31 = .ok (.isub, 1) := by decide +kernel
theorem k271_32 : decode (gb 271) 32 = .ok (.bipush 8, 2) := by decide +kernel
theorem k271_34 : decode (gb 271) 34 = .ok (.ishr, 1) := by decide +kernel
theorem k271_35 : decode (gb 271) 35 = .ok (.iastore, 1) := by decide +kernel
theorem k271_36 : decode (gb 271) 36 = .ok (.aload_n 0, 1) := by decide +kernel
theorem k271_37 : decode (gb 271) 37 = .ok (.getfield 173, 3) := by decide +kernel
theorem k271_40 : decode (gb 271) 40 = .ok (.iconst 3, 1) := by decide +kernel
theorem k271_41 : decode (gb 271) 41 = .ok (.iload 6, 2) := by decide +kernel
theorem k271_43 : decode (gb 271) 43 = .ok (.iconst 1, 1) := by decide +kernel
theorem k271_44 : decode (gb 271) 44 = .ok (.isub, 1) := by decide +kernel
theorem k271_45 : decode (gb 271) 45 = .ok (.sipush 255, 3) := by decide +kernel
theorem k271_48 : decode (gb 271) 48 = .ok (.iand, 1) := by decide +kernel
theorem k271_49 : decode (gb 271) 49 = .ok (.iastore, 1) := by decide +kernel
theorem k271_50 : decode (gb 271) 50 = .ok (.aload_n 0, 1) := by decide +kernel
theorem k271_51 : decode (gb 271) 51 = .ok (.getfield 173, 3) := by decide +kernel
theorem k271_54 : decode (gb 271) 54 = .ok (.iconst 4, 1) := by decide +kernel
theorem k271_55 : decode (gb 271) 55 = .ok (.iload_n 2, 1) := by decide +kernel
theorem k271_56 : decode (gb 271) 56 = .ok (.sipush 255, 3) := by decide +kernel
theorem k271_59 : decode (gb 271) 59 = .ok (.iand, 1) := by decide +kernel
theorem k271_60 : decode (gb 271) 60 = .ok (.iastore, 1) := by decide +kernel
theorem k271_61 : decode (gb 271) 61 = .ok (.iconst 0, 1) := by decide +kernel
theorem k271_62 : decode (gb 271) 62 = .ok (.istore 7, 2) := by decide +kernel
theorem k271_64 : decode (gb 271) 64 = .ok (.iload 7, 2) := by decide +kernel
theorem k271_66 : decode (gb 271) 66 = .ok (.iload 5, 2) := by decide +kernel
theorem k271_68 : decode (gb 271) 68 = .ok (.if_icmp .ge 25, 3) := by decide +kernel
theorem k271_71 : decode (gb 271) 71 = .ok (.aload_n 0, 1) := by decide +kernel
theorem k271_72 : decode (gb 271) 72 = .ok (.getfield 173, 3) := by decide +kernel
theorem k271_75 : decode (gb 271) 75 = .ok (.iconst 5, 1) := by decide +kernel
theorem k271_76 : decode (gb 271) 76 = .ok (.iload 7, 2) := by decide +kernel
theorem k271_78 : decode (gb 271) 78 = .ok (.iadd, 1) := by decide +kernel
theorem k271_79 : decode (gb 271) 79 = .ok (.aload_n 3, 1) := by decide +kernel
theorem k271_80 : decode (gb 271) 80 = .ok (.iload 4, 2) := by decide +kernel
theorem k271_82 : decode (gb 271) 82 = .ok (.iload 7, 2) := by decide +kernel
theorem k271_84 : decode (gb 271) 84 = .ok (.iadd, 1) := by decide +kernel
theorem k271_85 : decode (gb 271) 85 = .ok (.iaload, 1) := by decide +kernel
theorem k271_86 : decode (gb 271) 86 = .ok (.iastore, 1) := by decide +kernel
theorem k271_87 : decode (gb 271) 87 = .ok (.iinc 7 1, 3) := by decide +kernel
theorem k271_90 : decode (gb 271) 90 = .ok (.goto (-26), 3) := by decide +kernel
theorem k271_93 : decode (gb 271) 93 = .ok (.aload_n 0, 1) := by decide +kernel
theorem k271_94 : decode (gb 271) 94 = .ok (.getfield 173, 3) := by decide +kernel
theorem k271_97 : decode (gb 271) 97 = .ok (.iconst 0, 1) := by decide +kernel
theorem k271_98 : decode (gb 271) 98 = .ok (.iconst 5, 1) := by decide +kernel
theorem k271_99 : decode (gb 271) 99 = .ok (.iload 5, 2) := by decide +kernel
theorem k271_101 : decode (gb 271) 101 = .ok (.iadd, 1) := by decide +kernel
theorem k271_102 : decode (gb 271) 102 = .ok (.invokestatic 11, 3) := by decide +kernel
theorem k271_105 : decode (gb 271) 105 = .ok (.istore 7, 2) := by decide +kernel
theorem k271_107 : decode (gb 271) 107 = .ok (.aload_n 0, 1) := by decide +kernel
theorem k271_108 : decode (gb 271) 108 = .ok (.getfield 173, 3) := by decide +kernel
theorem k271_111 : decode (gb 271) 111 = .ok (.iconst 5, 1) := by decide +kernel
theorem k271_112 : decode (gb 271) 112 = .ok (.iload 5, 2) := by decide +kernel
theorem k271_114 : decode (gb 271) 114 = .ok (.iadd, 1) := by decide +kernel
theorem k271_115 : decode (gb 271) 115 = .ok (.iload 7, 2) := by decide +kernel
theorem k271_117 : decode (gb 271) 117 = .ok (.bipush 8, 2) := by decide +kernel
theorem k271_119 : decode (gb 271) 119 = .ok (.ishr, 1) := by decide +kernel
theorem k271_120 : decode (gb 271) 120 = .ok (.iastore, 1) := by decide +kernel
theorem k271_121 : decode (gb 271) 121 = .ok (.aload_n 0, 1) := by decide +kernel
theorem k271_122 : decode (gb 271) 122 = .ok (.getfield 173, 3) := by decide +kernel
theorem k271_125 : decode (gb 271) 125 = .ok (.bipush 6, 2) := by decide +kernel
theorem k271_127 : decode (gb 271) 127 = .ok (.iload 5, 2) := by decide +kernel
theorem k271_129 : decode (gb 271) 129 = .ok (.iadd, 1) := by decide +kernel
theorem k271_130 : decode (gb 271) 130 = .ok (.iload 7, 2) := by decide +kernel
theorem k271_132 : decode (gb 271) 132 = .ok (.sipush 255, 3) := by decide +kernel
theorem k271_135 : decode (gb 271) 135 = .ok (.iand, 1) := by decide +kernel
theorem k271_136 : decode (gb 271) 136 = .ok (.iastore, 1) := by decide +kernel
theorem k271_137 : decode (gb 271) 137 = .ok (.aload_n 0, 1) := by decide +kernel
theorem k271_138 : decode (gb 271) 138 = .ok (.aload_n 0, 1) := by decide +kernel
theorem k271_139 : decode (gb 271) 139 = .ok (.getfield 173, 3) := by decide +kernel
theorem k271_142 : decode (gb 271) 142 = .ok (.iload 6, 2) := by decide +kernel
theorem k271_144 : decode (gb 271) 144 = .ok (.invokevirtual 37, 3) := by decide +kernel
theorem k271_147 : decode (gb 271) 147 = .ok (.istore 8, 2) := by decide +kernel
theorem k271_149 : decode (gb 271) 149 = .ok (.bipush 8, 2) := by decide +kernel
theorem k271_151 : decode (gb 271) 151 = .ok (.iload 8, 2) := by decide +kernel
theorem k271_153 : decode (gb 271) 153 = .ok (.imul, 1) := by decide +kernel
theorem k271_154 : decode (gb 271) 154 = .ok (.aload_n 0, 1) := by decide +kernel
theorem k271_155 : decode (gb 271) 155 = .ok (.iconst 0, 1) := by decide +kernel
theorem k271_156 : decode (gb 271) 156 = .ok (.invokevirtual 69, 3) := by decide +kernel
theorem k271_159 : decode (gb 271) 159 = .ok (.if_icmp .gt 14, 3) := by decide +kernel
theorem k271_162 : decode (gb 271) 162 = .ok (.aload_n 0, 1) := by decide +kernel
theorem k271_163 : decode (gb 271) 163 = .ok (.iconst 0, 1) := by decide +kernel
theorem k271_164 : decode (gb 271) 164 = .ok (.aload_n 0, 1) := by decide +kernel
theorem k271_165 : decode (gb 271) 165 = .ok (.getfield 40, 3) := by decide +kernel
theorem k271_168 : decode (gb 271) 168 = .ok (.iload 8, 2) := by decide +kernel
theorem k271_170 : decode (gb 271) 170 = .ok (.invokevirtual 73, 3) := by decide +kernel
theorem k271_173 : decode (gb 271) 173 = .ok (.return_, 1) := by decide +kernel
def b271_64 (p3 : Nat) (kl64 : Int32 → Int32 → Int32 → Int32 → Mem → Option (Mem)) (v4 : Int32) (v5 : Int32) (v6 : Int32) (v7 : Int32) (μ : Mem) : Option (Mem) :=
  if v5 ≤ v7 then
    (f245 148 (0 : Int32) ((5 : Int32) + v5) μ).bind fun r2 =>
    (stA 148 ((5 : Int32) + v5) (jshr r2.2 (8 : Int32)) r2.1).bind fun m4 =>
    (stA 148 ((6 : Int32) + v5) (r2.2 &&& (255 : Int32)) m4).bind fun m6 =>
    (f252 148 v6 m6).bind fun r8 =>
    (f254 (0 : Int32) r8.1).bind fun r10 =>
    if r10.2 < ((8 : Int32) * r8.2) then
      some r10.1
    else
      (f256 (0 : Int32) 133 r8.2 r10.1).bind fun r13 =>
      some r13
  else
    (ldA p3 (v4 + v7) μ).bind fun x15 =>
    (stA 148 ((5 : Int32) + v7) x15 μ).bind fun m17 =>
    nm (v7 + (1 : Int32)) fun x19 =>
    kl64 v4 v5 v6 x19 m17
theorem b271_64_ok {L : Nat} (p3 : Nat) (h3 : SK0 p3 = (1, gln p3)) (kl64 : Int32 → Int32 → Int32 → Int32 → Mem → Option (Mem)) (hk64 : (∀ (v4 : Int32) (v5 : Int32) (v6 : Int32) (v7 : Int32) (μ : Mem) (res : Mem), kl64 v4 v5 v6 v7 μ = some res → Sx 271 64 [(0, .ref 129), (3, .ref p3), (4, .int v4), (5, .int v5), (6, .int v6), (7, .int v7)] [] 0 0 (mk L μ) (mk L res, none))) (v4 : Int32) (v5 : Int32) (v6 : Int32) (v7 : Int32) (μ : Mem) (res : Mem) (h : b271_64 p3 kl64 v4 v5 v6 v7 μ = some res) : Sx 271 64 [(0, .ref 129), (3, .ref p3), (4, .int v4), (5, .int v5), (6, .int v6), (7, .int v7)] [] 0 0 (mk L μ) (mk L res, none) := by
  unfold b271_64 at h
  refine sx_iload k271_64 rfl ?_
  refine sx_iload k271_66 rfl ?_
  by_cases hb1 : v5 ≤ v7
  · rw [if_pos hb1] at h
    refine sx_icmp_ge (tgt := 93) k271_68 (by decide) (fun _ => ?_) (fun q => absurd hb1 q)
    refine sx_aload_n (i := 0) k271_93 rfl rfl ?_
    refine cx_getR (k := 50) k271_94 ow_271 fl_12_173 (by decide) sk_129 ft_11_50 sr_129_50 ?_
    refine sx_iconst (v := 0) k271_97 (by decide) ?_
    refine sx_iconst (v := 5) k271_98 (by decide) ?_
    refine sx_iload k271_99 rfl ?_
    refine sx_iadd k271_101 ?_
    obtain ⟨r2, e3, h⟩ := Option.bind_eq_some_iff.mp h
    refine cx_S (sk := []) (vs := [.ref 148, .int (0 : Int32), .int ((5 : Int32) + v5)]) st_271_245 k271_102 ow_271 cl_12_11 (by decide) rfl (Nat.le_of_ble_eq_true rfl) (ok245 148 (0 : Int32) ((5 : Int32) + v5) sk_148 _ _ e3) (sk3 := [.int r2.2]) rfl rfl ?_
    refine cx_istore (lo2 := [(7, .int r2.2), (0, .ref 129), (3, .ref p3), (4, .int v4), (5, .int v5), (6, .int v6)]) k271_105 (by rw [mx_271]; decide) rfl ?_
    refine sx_aload_n (i := 0) k271_107 rfl rfl ?_
    refine cx_getR (k := 50) k271_108 ow_271 fl_12_173 (by decide) sk_129 ft_11_50 sr_129_50 ?_
    refine sx_iconst (v := 5) k271_111 (by decide) ?_
    refine sx_iload k271_112 rfl ?_
    refine sx_iadd k271_114 ?_
    refine sx_iload k271_115 rfl ?_
    refine sx_bipush (v := 8) k271_117 (by decide) ?_
    refine sx_ishr k271_119 ?_
    obtain ⟨m4, e5, h⟩ := Option.bind_eq_some_iff.mp h
    refine cx_iast k271_120 sk_148 e5 ?_
    refine sx_aload_n (i := 0) k271_121 rfl rfl ?_
    refine cx_getR (k := 50) k271_122 ow_271 fl_12_173 (by decide) sk_129 ft_11_50 sr_129_50 ?_
    refine sx_bipush (v := 6) k271_125 (by decide) ?_
    refine sx_iload k271_127 rfl ?_
    refine sx_iadd k271_129 ?_
    refine sx_iload k271_130 rfl ?_
    refine sx_sipush (v := 255) k271_132 (by decide) ?_
    refine sx_iand k271_135 ?_
    obtain ⟨m6, e7, h⟩ := Option.bind_eq_some_iff.mp h
    refine cx_iast k271_136 sk_148 e7 ?_
    refine sx_aload_n (i := 0) k271_137 rfl rfl ?_
    refine sx_aload_n (i := 0) k271_138 rfl rfl ?_
    refine cx_getR (k := 50) k271_139 ow_271 fl_12_173 (by decide) sk_129 ft_11_50 sr_129_50 ?_
    refine sx_iload k271_142 rfl ?_
    obtain ⟨r8, e9, h⟩ := Option.bind_eq_some_iff.mp h
    refine cx_V (sk := []) (vs := [.ref 148, .int v6]) st_271_252 k271_144 ow_271 cl_12_37 (by decide) rfl (Nat.le_of_ble_eq_true rfl) sk_129 (ok252 148 v6 sk_148 _ _ e9) (sk3 := [.int r8.2]) rfl rfl ?_
    refine cx_istore (lo2 := [(8, .int r8.2), (7, .int r2.2), (0, .ref 129), (3, .ref p3), (4, .int v4), (5, .int v5), (6, .int v6)]) k271_147 (by rw [mx_271]; decide) rfl ?_
    refine sx_bipush (v := 8) k271_149 (by decide) ?_
    refine sx_iload k271_151 rfl ?_
    refine sx_imul k271_153 ?_
    refine sx_aload_n (i := 0) k271_154 rfl rfl ?_
    refine sx_iconst (v := 0) k271_155 (by decide) ?_
    obtain ⟨r10, e11, h⟩ := Option.bind_eq_some_iff.mp h
    refine cx_V (sk := [.int ((8 : Int32) * r8.2)]) (vs := [.int (0 : Int32)]) st_271_254 k271_156 ow_271 cl_12_69 (by decide) rfl (Nat.le_of_ble_eq_true rfl) sk_129 (ok254 (0 : Int32) _ _ e11) (sk3 := [.int r10.2, .int ((8 : Int32) * r8.2)]) rfl rfl ?_
    by_cases hb12 : r10.2 < ((8 : Int32) * r8.2)
    · rw [if_pos hb12] at h
      refine sx_icmp_gt (tgt := 173) k271_159 (by decide) (fun _ => ?_) (fun q => absurd hb12 q)
      exact cx_retv k271_173 rt_271 h
    · rw [if_neg hb12] at h
      refine sx_icmp_gt (tgt := 173) k271_159 (by decide) (fun q => absurd q hb12) (fun _ => ?_)
      refine sx_aload_n (i := 0) k271_162 rfl rfl ?_
      refine sx_iconst (v := 0) k271_163 (by decide) ?_
      refine sx_aload_n (i := 0) k271_164 rfl rfl ?_
      refine cx_getR (k := 4) k271_165 ow_271 fl_12_40 (by decide) sk_129 ft_11_4 sr_129_4 ?_
      refine sx_iload k271_168 rfl ?_
      obtain ⟨r13, e14, h⟩ := Option.bind_eq_some_iff.mp h
      refine cx_V (sk := []) (vs := [.int (0 : Int32), .ref 133, .int r8.2]) st_271_256 k271_170 ow_271 cl_12_73 (by decide) rfl (Nat.le_of_ble_eq_true rfl) sk_129 (ok256 (0 : Int32) 133 r8.2 sk_133 _ _ e14) (sk3 := []) rfl rfl ?_
      exact cx_retv k271_173 rt_271 h
  · rw [if_neg hb1] at h
    refine sx_icmp_ge (tgt := 93) k271_68 (by decide) (fun q => absurd q hb1) (fun _ => ?_)
    refine sx_aload_n (i := 0) k271_71 rfl rfl ?_
    refine cx_getR (k := 50) k271_72 ow_271 fl_12_173 (by decide) sk_129 ft_11_50 sr_129_50 ?_
    refine sx_iconst (v := 5) k271_75 (by decide) ?_
    refine sx_iload k271_76 rfl ?_
    refine sx_iadd k271_78 ?_
    refine sx_aload_n (i := 3) k271_79 rfl rfl ?_
    refine sx_iload k271_80 rfl ?_
    refine sx_iload k271_82 rfl ?_
    refine sx_iadd k271_84 ?_
    obtain ⟨x15, e16, h⟩ := Option.bind_eq_some_iff.mp h
    refine cx_iald k271_85 h3 e16 ?_
    obtain ⟨m17, e18, h⟩ := Option.bind_eq_some_iff.mp h
    refine cx_iast k271_86 sk_148 e18 ?_
    refine cx_iinc (c := 1) (lo2 := fun x19 => [(7, .int x19), (0, .ref 129), (3, .ref p3), (4, .int v4), (5, .int v5), (6, .int v6)]) k271_87 rfl (by decide) (by rw [mx_271]; decide) (fun _ => rfl) h (fun x19 h => ?_)
    refine sx_goto (tgt := 64) k271_90 (by decide) ?_
    refine sx_pick (lo2 := [(0, .ref 129), (3, .ref p3), (4, .int v4), (5, .int v5), (6, .int v6), (7, .int x19)]) [1, 2, 3, 4, 5, 0] rfl ?_
    exact hk64 v4 v5 v6 x19 _ _ h
def l271_64 (p3 : Nat) : Nat → Int32 × Int32 × Int32 × Int32 × Mem → Option (Mem) :=
  fixN (fun self x => b271_64 p3 (fun v4 v5 v6 v7 μ => self (v4, v5, v6, v7, μ)) (x.1) (x.2.1) (x.2.2.1) (x.2.2.2.1) (x.2.2.2.2))
theorem l271_64_ok {L : Nat} (p3 : Nat) (h3 : SK0 p3 = (1, gln p3)) (n : Nat) (v4 : Int32) (v5 : Int32) (v6 : Int32) (v7 : Int32) (μ : Mem) (res : Mem) (h : l271_64 p3 n (v4, v5, v6, v7, μ) = some res) : Sx 271 64 [(0, .ref 129), (3, .ref p3), (4, .int v4), (5, .int v5), (6, .int v6), (7, .int v7)] [] 0 0 (mk L μ) (mk L res, none) := by
  have key := fixN_ind (P := fun x res => Sx 271 64 [(0, .ref 129), (3, .ref p3), (4, .int (x.1)), (5, .int (x.2.1)), (6, .int (x.2.2.1)), (7, .int (x.2.2.2.1))] [] 0 0 (mk L (x.2.2.2.2)) (mk L res, none)) (F := fun self x => b271_64 p3 (fun v4 v5 v6 v7 μ => self (v4, v5, v6, v7, μ)) (x.1) (x.2.1) (x.2.2.1) (x.2.2.2.1) (x.2.2.2.2)) (fun self hself x res h => b271_64_ok p3 h3 (fun v4 v5 v6 v7 μ => self (v4, v5, v6, v7, μ)) (fun v4 v5 v6 v7 μ res hh => hself (v4, v5, v6, v7, μ) res hh) (x.1) (x.2.1) (x.2.2.1) (x.2.2.2.1) (x.2.2.2.2) res h) n (v4, v5, v6, v7, μ) res h
  exact key
/-- CraftHouseModel.sendFrame(II[III)V -/
def f271 (p1 : Int32) (p2 : Int32) (p3 : Nat) (p4 : Int32) (p5 : Int32) (μ : Mem) : Option (Mem) :=
  nm (p5 + (7 : Int32)) fun x1 =>
  (stA 148 (0 : Int32) p1 μ).bind fun m2 =>
  (stA 148 (1 : Int32) (171 : Int32) m2).bind fun m4 =>
  (stA 148 (2 : Int32) (jshr (x1 - (1 : Int32)) (8 : Int32)) m4).bind fun m6 =>
  (stA 148 (3 : Int32) ((x1 - (1 : Int32)) &&& (255 : Int32)) m6).bind fun m8 =>
  (stA 148 (4 : Int32) (p2 &&& (255 : Int32)) m8).bind fun m10 =>
  l271_64 p3 gF (p4, p5, x1, (0 : Int32), m10)
theorem ok271 {L : Nat} (p1 : Int32) (p2 : Int32) (p3 : Nat) (p4 : Int32) (p5 : Int32) (h3 : SK0 p3 = (1, gln p3)) (μ : Mem) (res : Mem) (h : f271 p1 p2 p3 p4 p5 μ = some res) : Mx 271 [.ref 129, .int p1, .int p2, .ref p3, .int p4, .int p5] (mk L μ) (mk L res, none) := by
  refine Mx_of ml_271 (by rw [mx_271]; exact Nat.le_of_ble_eq_true rfl) ?_
  show Sx 271 0 [(0, .ref 129), (1, .int p1), (2, .int p2), (3, .ref p3), (4, .int p4), (5, .int p5)] [] 0 0 (mk L μ) _
  unfold f271 at h
  refine sx_iload k271_0 rfl ?_
  refine sx_bipush (v := 7) k271_2 (by decide) ?_
  refine sx_iadd k271_4 ?_
  refine cx_nm h (fun x1 h => ?_)
  refine cx_istore (lo2 := [(6, .int x1), (0, .ref 129), (1, .int p1), (2, .int p2), (3, .ref p3), (4, .int p4), (5, .int p5)]) k271_5 (by rw [mx_271]; decide) rfl ?_
  refine sx_aload_n (i := 0) k271_7 rfl rfl ?_
  refine cx_getR (k := 50) k271_8 ow_271 fl_12_173 (by decide) sk_129 ft_11_50 sr_129_50 ?_
  refine sx_iconst (v := 0) k271_11 (by decide) ?_
  refine sx_iload_n (i := 1) k271_12 rfl rfl ?_
  obtain ⟨m2, e3, h⟩ := Option.bind_eq_some_iff.mp h
  refine cx_iast k271_13 sk_148 e3 ?_
  refine sx_aload_n (i := 0) k271_14 rfl rfl ?_
  refine cx_getR (k := 50) k271_15 ow_271 fl_12_173 (by decide) sk_129 ft_11_50 sr_129_50 ?_
  refine sx_iconst (v := 1) k271_18 (by decide) ?_
  refine sx_sipush (v := 171) k271_19 (by decide) ?_
  obtain ⟨m4, e5, h⟩ := Option.bind_eq_some_iff.mp h
  refine cx_iast k271_22 sk_148 e5 ?_
  refine sx_aload_n (i := 0) k271_23 rfl rfl ?_
  refine cx_getR (k := 50) k271_24 ow_271 fl_12_173 (by decide) sk_129 ft_11_50 sr_129_50 ?_
  refine sx_iconst (v := 2) k271_27 (by decide) ?_
  refine sx_iload k271_28 rfl ?_
  refine sx_iconst (v := 1) k271_30 (by decide) ?_
  refine sx_isub k271_31 ?_
  refine sx_bipush (v := 8) k271_32 (by decide) ?_
  refine sx_ishr k271_34 ?_
  obtain ⟨m6, e7, h⟩ := Option.bind_eq_some_iff.mp h
  refine cx_iast k271_35 sk_148 e7 ?_
  refine sx_aload_n (i := 0) k271_36 rfl rfl ?_
  refine cx_getR (k := 50) k271_37 ow_271 fl_12_173 (by decide) sk_129 ft_11_50 sr_129_50 ?_
  refine sx_iconst (v := 3) k271_40 (by decide) ?_
  refine sx_iload k271_41 rfl ?_
  refine sx_iconst (v := 1) k271_43 (by decide) ?_
  refine sx_isub k271_44 ?_
  refine sx_sipush (v := 255) k271_45 (by decide) ?_
  refine sx_iand k271_48 ?_
  obtain ⟨m8, e9, h⟩ := Option.bind_eq_some_iff.mp h
  refine cx_iast k271_49 sk_148 e9 ?_
  refine sx_aload_n (i := 0) k271_50 rfl rfl ?_
  refine cx_getR (k := 50) k271_51 ow_271 fl_12_173 (by decide) sk_129 ft_11_50 sr_129_50 ?_
  refine sx_iconst (v := 4) k271_54 (by decide) ?_
  refine sx_iload_n (i := 2) k271_55 rfl rfl ?_
  refine sx_sipush (v := 255) k271_56 (by decide) ?_
  refine sx_iand k271_59 ?_
  obtain ⟨m10, e11, h⟩ := Option.bind_eq_some_iff.mp h
  refine cx_iast k271_60 sk_148 e11 ?_
  refine sx_iconst (v := 0) k271_61 (by decide) ?_
  refine cx_istore (lo2 := [(7, .int (0 : Int32)), (6, .int x1), (0, .ref 129), (1, .int p1), (2, .int p2), (3, .ref p3), (4, .int p4), (5, .int p5)]) k271_62 (by rw [mx_271]; decide) rfl ?_
  refine sx_pick (lo2 := [(0, .ref 129), (3, .ref p3), (4, .int p4), (5, .int p5), (6, .int x1), (7, .int (0 : Int32))]) [2, 5, 6, 7, 1, 0] rfl ?_
  exact l271_64_ok p3 h3 gF p4 p5 x1 (0 : Int32) _ _ h
theorem k274_0 : decode (gb 274) 0 = .ok (.aload_n 0, 1) := by decide +kernel
theorem k274_1 : decode (gb 274) 1 = .ok (.aload_n 0, 1) := by decide +kernel
theorem k274_2 : decode (gb 274) 2 = .ok (.getfield 189, 3) := by decide +kernel
theorem k274_5 : decode (gb 274) 5 = .ok (.putfield 192, 3) := by decide +kernel
theorem k274_8 : decode (gb 274) 8 = .ok (.return_, 1) := by decide +kernel
/-- CraftHouseModel.begin()V -/
def f274 (μ : Mem) : Option (Mem) :=
  (pfI 129 34 (μ.1 129 35) μ).bind fun m1 =>
  some m1
theorem ok274 {L : Nat} (μ : Mem) (res : Mem) (h : f274 μ = some res) : Mx 274 [.ref 129] (mk L μ) (mk L res, none) := by
  refine Mx_of ml_274 (by rw [mx_274]; exact Nat.le_of_ble_eq_true rfl) ?_
  show Sx 274 0 [(0, .ref 129)] [] 0 0 (mk L μ) _
  unfold f274 at h
  refine sx_aload_n (i := 0) k274_0 rfl rfl ?_
  refine sx_aload_n (i := 0) k274_1 rfl rfl ?_
  refine cx_getI (k := 35) k274_2 ow_274 fl_12_189 (by decide) sk_129 ft_11_35 ?_
  obtain ⟨m1, e2, h⟩ := Option.bind_eq_some_iff.mp h
  refine cx_putI (k := 34) k274_5 ow_274 fl_12_192 (by decide) sk_129 nf_11_34 fu_11_34 e2 ?_
  exact cx_retv k274_8 rt_274 h
theorem k275_0 : decode (gb 275) 0 = .ok (.aload_n 0, 1) := by decide +kernel
theorem k275_1 : decode (gb 275) 1 = .ok (.getfield 195, 3) := by decide +kernel
theorem k275_4 : decode (gb 275) 4 = .ok (.iconst 1, 1) := by decide +kernel
theorem k275_5 : decode (gb 275) 5 = .ok (.if_icmp .eq 11, 3) := by decide +kernel
theorem k275_8 : decode (gb 275) 8 = .ok (.aload_n 0, 1) := by decide +kernel
theorem k275_9 : decode (gb 275) 9 = .ok (.getfield 195, 3) := by decide +kernel
theorem k275_12 : decode (gb 275) 12 = .ok (.iconst 2, 1) := by decide +kernel
theorem k275_13 : decode (gb 275) 13 = .ok (.if_icmp .ne 7, 3) := by decide +kernel
theorem k275_16 : decode (gb 275) 16 = .ok (.iconst 1, 1) := by decide +kernel
theorem k275_17 : decode (gb 275) 17 = .ok (.goto 4, 3) := by decide +kernel
theorem k275_20 : decode (gb 275) 20 = .ok (.iconst 0, 1) := by decide +kernel
theorem k275_21 : decode (gb 275) 21 = .ok (.istore_n 1, 1) := by decide +kernel
theorem k275_22 : decode (gb 275) 22 = .ok (.iload_n 1, 1) := by decide +kernel
theorem k275_23 : decode (gb 275) 23 = .ok (.ifCond .eq 336, 3) := by decide +kernel
theorem k275_26 : decode (gb 275) 26 = .ok (.iconst 0, 1) := by decide +kernel
theorem k275_27 : decode (gb 275) 27 = .ok (.istore_n 2, 1) := by decide +kernel
theorem k275_28 : decode (gb 275) 28 = .ok (.iload_n 2, 1) := by decide +kernel
theorem k275_29 : decode (gb 275) 29 = .ok (.aload_n 0, 1) := by decide +kernel
theorem k275_30 : decode (gb 275) 30 = .ok (.getfield 198, 3) := by decide +kernel
theorem k275_33 : decode (gb 275) 33 = .ok (.if_icmp .ge 18, 3) := by decide +kernel
theorem k275_36 : decode (gb 275) 36 = .ok (.aload_n 0, 1) := by decide +kernel
theorem k275_37 : decode (gb 275) 37 = .ok (.getfield 201, 3) := by decide +kernel
theorem k275_40 : decode (gb 275) 40 = .ok (.iload_n 2, 1) := by decide +kernel
theorem k275_41 : decode (gb 275) 41 = .ok (.baload, 1) := by decide +kernel
theorem k275_42 : decode (gb 275) 42 = .ok (.ifCond .ne 9, 3) := by decide +kernel
theorem k275_45 : decode (gb 275) 45 = .ok (.iinc 2 1, 3) := by decide +kernel
theorem k275_48 : decode (gb 275) 48 = .ok (.goto (-20), 3) := by decide +kernel
theorem k275_51 : decode (gb 275) 51 = .ok (.iload_n 2, 1) := by decide +kernel
theorem k275_52 : decode (gb 275) 52 = .ok (.aload_n 0, 1) := by decide +kernel
theorem k275_53 : decode (gb 275) 53 = .ok (.getfield 198, 3) := by decide +kernel
theorem k275_56 : decode (gb 275) 56 = .ok (.if_icmp .ge 38, 3) := by decide +kernel
theorem k275_59 : decode (gb 275) 59 = .ok (.aload_n 0, 1) := by decide +kernel
theorem k275_60 : decode (gb 275) 60 = .ok (.getfield 201, 3) := by decide +kernel
theorem k275_63 : decode (gb 275) 63 = .ok (.iload_n 2, 1) := by decide +kernel
theorem k275_64 : decode (gb 275) 64 = .ok (.iconst 0, 1) := by decide +kernel
theorem k275_65 : decode (gb 275) 65 = .ok (.bastore, 1) := by decide +kernel
theorem k275_66 : decode (gb 275) 66 = .ok (.aload_n 0, 1) := by decide +kernel
theorem k275_67 : decode (gb 275) 67 = .ok (.iconst 0, 1) := by decide +kernel
theorem k275_68 : decode (gb 275) 68 = .ok (.aload_n 0, 1) := by decide +kernel
theorem k275_69 : decode (gb 275) 69 = .ok (.getfield 204, 3) := by decide +kernel
theorem k275_72 : decode (gb 275) 72 = .ok (.iload_n 2, 1) := by decide +kernel
theorem k275_73 : decode (gb 275) 73 = .ok (.iadd, 1) := by decide +kernel
theorem k275_74 : decode (gb 275) 74 = .ok (.aload_n 0, 1) := by decide +kernel
theorem k275_75 : decode (gb 275) 75 = .ok (.getfield 207, 3) := by decide +kernel
theorem k275_78 : decode (gb 275) 78 = .ok (.bipush 60, 2) := by decide +kernel
theorem k275_80 : decode (gb 275) 80 = .ok (.iload_n 2, 1) := by decide +kernel
theorem k275_81 : decode (gb 275) 81 = .ok (.imul, 1) := by decide +kernel
theorem k275_82 : decode (gb 275) 82 = .ok (.aload_n 0, 1) := by decide +kernel
theorem k275_83 : decode (gb 275) 83 = .ok (.getfield 210, 3) := by decide +kernel
theorem k275_86 : decode (gb 275) 86 = .ok (.iload_n 2, 1) := by decide +kernel
theorem k275_87 : decode (gb 275) 87 = .ok (.iaload, 1) := by decide +kernel
theorem k275_88 : decode (gb 275) 88 = .ok (.invokevirtual 185, 3) := by decide +kernel
theorem k275_91 : decode (gb 275) 91 = .ok (.goto 265, 3) := by decide +kernel
theorem k275_94 : decode (gb 275) 94 = .ok (.aload_n 0, 1) := by decide +kernel
theorem k275_95 : decode (gb 275) 95 = .ok (.getfield 213, 3) := by decide +kernel
theorem k275_98 : decode (gb 275) 98 = .ok (.ifCond .le 256, 3) := by decide +kernel
theorem k275_101 : decode (gb 275) 101 = .ok (.aload_n 0, 1) := by decide +kernel
theorem k275_102 : decode (gb 275) 102 = .ok (.getfield 198, 3) := by decide +kernel
theorem k275_105 : decode (gb 275) 105 = .ok (.aload_n 0, 1) := by decide +kernel
theorem k275_106 : decode (gb 275) 106 = .ok (.getfield 216, 3) := by decide +kernel
theorem k275_109 : decode (gb 275) 109 = .ok (.if_icmp .ge 245, 3) := by decide +kernel
theorem k275_112 : decode (gb 275) 112 = .ok (.aload_n 0, 1) := by decide +kernel
theorem k275_113 : decode (gb 275) 113 = .ok (.getfield 219, 3) := by decide +kernel
theorem k275_116 : decode (gb 275) 116 = .ok (.iconst 0, 1) := by decide +kernel
theorem k275_117 : decode (gb 275) 117 = .ok (.iaload, 1) := by decide +kernel
theorem k275_118 : decode (gb 275) 118 = .ok (.istore_n 3, 1) := by decide +kernel
theorem k275_119 : decode (gb 275) 119 = .ok (.aload_n 0, 1) := by decide +kernel
theorem k275_120 : decode (gb 275) 120 = .ok (.getfield 210, 3) := by decide +kernel
theorem k275_123 : decode (gb 275) 123 = .ok (.aload_n 0, 1) := by decide +kernel
theorem k275_124 : decode (gb 275) 124 = .ok (.getfield 198, 3) := by decide +kernel
theorem k275_127 : decode (gb 275) 127 = .ok (.aload_n 0, 1) := by decide +kernel
theorem k275_128 : decode (gb 275) 128 = .ok (.getfield 222, 3) := by decide +kernel
theorem k275_131 : decode (gb 275) 131 = .ok (.iconst 0, 1) := by decide +kernel
theorem k275_132 : decode (gb 275) 132 = .ok (.iaload, 1) := by decide +kernel
theorem k275_133 : decode (gb 275) 133 = .ok (.iastore, 1) := by decide +kernel
theorem k275_134 : decode (gb 275) 134 = .ok (.aload_n 0, 1) := by decide +kernel
theorem k275_135 : decode (gb 275) 135 = .ok (.getfield 225, 3) := by decide +kernel
theorem k275_138 : decode (gb 275) 138 = .ok (.iconst 0, 1) := by decide +kernel
theorem k275_139 : decode (gb 275) 139 = .ok (.aload_n 0, 1) := by decide +kernel
theorem k275_140 : decode (gb 275) 140 = .ok (.getfield 207, 3) := by decide +kernel
theorem k275_143 : decode (gb 275) 143 = .ok (.bipush 60, 2) := by decide +kernel
theorem k275_145 : decode (gb 275) 145 = .ok (.aload_n 0, 1) := by decide +kernel
theorem k275_146 : decode (gb 275) 146 = .ok (.getfield 198, 3) := by decide +kernel
theorem k275_149 : decode (gb 275) 149 = .ok (.imul, 1) := by decide +kernel
theorem k275_150 : decode (gb 275) 150 = .ok (.aload_n 0, 1) := by decide +kernel
theorem k275_151 : decode (gb 275) 151 = .ok (.getfield 222, 3) := by decide +kernel
theorem k275_154 : decode (gb 275) 154 = .ok (.iconst 0, 1) := by decide +kernel
theorem k275_155 : decode (gb 275) 155 = .ok (.iaload, 1) := by decide +kernel
theorem k275_156 : decode (gb 275) 156 = .ok (.invokestatic 228, 3) := by decide +kernel
theorem k275_159 : decode (gb 275) 159 = .ok (.aload_n 0, 1) := by decide +kernel
theorem k275_160 : decode (gb 275) 160 = .ok (.dup, 1) := by decide +kernel
theorem k275_161 : decode (gb 275) 161 = .ok (.getfield 213, 3) := by decide +kernel
theorem k275_164 : decode (gb 275) 164 = .ok (.iconst 1, 1) := by decide +kernel
theorem k275_165 : decode (gb 275) 165 = .ok (.isub, 1) := by decide +kernel
theorem k275_166 : decode (gb 275) 166 = .ok (.putfield 213, 3) := by decide +kernel
theorem k275_169 : decode (gb 275) 169 = .ok (.iconst 0, 1) := by decide +kernel
theorem k275_170 : decode (gb 275) 170 = .ok (.istore 4, 2) := by decide +kernel
theorem k275_172 : decode (gb 275) 172 = .ok (.iload 4, 2) := by decide +kernel
theorem k275_174 : decode (gb 275) 174 = .ok (.aload_n 0, 1) := by decide +kernel
theorem k275_175 : decode (gb 275) 175 = .ok (.getfield 213, 3) := by decide +kernel
theorem k275_178 : decode (gb 275) 178 = .ok (.if_icmp .ge 71, 3) := by decide +kernel
theorem k275_181 : decode (gb 275) 181 = .ok (.aload_n 0, 1) := by decide +kernel
theorem k275_182 : decode (gb 275) 182 = .ok (.getfield 219, 3) := by decide +kernel
theorem k275_185 : decode (gb 275) 185 = .ok (.iload 4, 2) := by decide +kernel
theorem k275_187 : decode (gb 275) 187 = .ok (.aload_n 0, 1) := by decide +kernel
theorem k275_188 : decode (gb 275) 188 = .ok (.getfield 219, 3) := by decide +kernel
theorem k275_191 : decode (gb 275) 191 = .ok (.iload 4, 2) := by decide +kernel
theorem k275_193 : decode (gb 275) 193 = .ok (.iconst 1, 1) := by decide +kernel
theorem k275_194 : decode (gb 275) 194 = .ok (.iadd, 1) := by decide +kernel
theorem k275_195 : decode (gb 275) 195 = .ok (.iaload, 1) := by decide +kernel
theorem k275_196 : decode (gb 275) 196 = .ok (.iastore, 1) := by decide +kernel
theorem k275_197 : decode (gb 275) 197 = .ok (.aload_n 0, 1) := by decide +kernel
theorem k275_198 : decode (gb 275) 198 = .ok (.getfield 222, 3) := by decide +kernel
theorem k275_201 : decode (gb 275) 201 = .ok (.iload 4, 2) := by decide +kernel
theorem k275_203 : decode (gb 275) 203 = .ok (.aload_n 0, 1) := by decide +kernel
theorem k275_204 : decode (gb 275) 204 = .ok (.getfield 222, 3) := by decide +kernel
theorem k275_207 : decode (gb 275) 207 = .ok (.iload 4, 2) := by decide +kernel
theorem k275_209 : decode (gb 275) 209 = .ok (.iconst 1, 1) := by decide +kernel
theorem k275_210 : decode (gb 275) 210 = .ok (.iadd, 1) := by decide +kernel
theorem k275_211 : decode (gb 275) 211 = .ok (.iaload, 1) := by decide +kernel
theorem k275_212 : decode (gb 275) 212 = .ok (.iastore, 1) := by decide +kernel
theorem k275_213 : decode (gb 275) 213 = .ok (.aload_n 0, 1) := by decide +kernel
theorem k275_214 : decode (gb 275) 214 = .ok (.getfield 225, 3) := by decide +kernel
theorem k275_217 : decode (gb 275) 217 = .ok (.bipush 60, 2) := by decide +kernel
theorem k275_219 : decode (gb 275) 219 = .ok (.iload 4, 2) := by decide +kernel
theorem k275_221 : decode (gb 275) 221 = .ok (.iconst 1, 1) := by decide +kernel
theorem k275_222 : decode (gb 275) 222 = .ok (.iadd, 1) := by decide +kernel
theorem k275_223 : decode (gb 275) 223 = .ok (.imul, 1) := by decide +kernel
theorem k275_224 : decode (gb 275) 224 = .ok (.aload_n 0, 1) := by decide +kernel
theorem k275_225 : decode (gb 275) 225 = .ok (.getfield 225, 3) := by decide +kernel
theorem k275_228 : decode (gb 275) 228 = .ok (.bipush 60, 2) := by decide +kernel
theorem k275_230 : decode (gb 275) 230 = .ok (.iload 4, 2) := by decide +kernel
theorem k275_232 : decode (gb 275) 232 = .ok (.imul, 1) := by decide +kernel
theorem k275_233 : decode (gb 275) 233 = .ok (.aload_n 0, 1) := by decide +kernel
theorem k275_234 : decode (gb 275) 234 = .ok (.getfield 222, 3) := by decide +kernel
theorem k275_237 : decode (gb 275) 237 = .ok (.iload 4, 2) := by decide +kernel
theorem k275_239 : decode (gb 275) 239 = .ok (.iaload, 1) := by decide +kernel
theorem k275_240 : decode (gb 275) 240 = .ok (.invokestatic 228, 3) := by decide +kernel
theorem k275_243 : decode (gb 275) 243 = .ok (.iinc 4 1, 3) := by decide +kernel
theorem k275_246 : decode (gb 275) 246 = .ok (.goto (-74), 3) := by decide +kernel
theorem k275_249 : decode (gb 275) 249 = .ok (.aload_n 0, 1) := by decide +kernel
theorem k275_250 : decode (gb 275) 250 = .ok (.aload_n 0, 1) := by decide +kernel
theorem k275_251 : decode (gb 275) 251 = .ok (.getfield 198, 3) := by decide +kernel
theorem k275_254 : decode (gb 275) 254 = .ok (.ifCond .ne 7, 3) := by decide +kernel
theorem k275_257 : decode (gb 275) 257 = .ok (.iconst 1, 1) := by decide +kernel
theorem k275_258 : decode (gb 275) 258 = .ok (.goto 7, 3) := by decide +kernel
theorem k275_261 : decode (gb 275) 261 = .ok (.aload_n 0, 1) := by decide +kernel
theorem k275_262 : decode (gb 275) 262 = .ok (.getfield 232, 3) := by decide +kernel
theorem k275_265 : decode (gb 275) 265 = .ok (.putfield 232, 3) := by decide +kernel
theorem k275_268 : decode (gb 275) 268 = .ok (.aload_n 0, 1) := by decide +kernel
theorem k275_269 : decode (gb 275) 269 = .ok (.iconst 0, 1) := by decide +kernel
theorem k275_270 : decode (gb 275) 270 = .ok (.aload_n 0, 1) := by decide +kernel
theorem k275_271 : decode (gb 275) 271 = .ok (.getfield 235, 3) := by decide +kernel
theorem k275_274 : decode (gb 275) 274 = .ok (.aload_n 0, 1) := by decide +kernel
theorem k275_275 : decode (gb 275) 275 = .ok (.getfield 207, 3) := by decide +kernel
theorem k275_278 : decode (gb 275) 278 = .ok (.bipush 60, 2) := by decide +kernel
theorem k275_280 : decode (gb 275) 280 = .ok (.aload_n 0, 1) := by decide +kernel
theorem k275_281 : decode (gb 275) 281 = .ok (.getfield 198, 3) := by decide +kernel
theorem k275_284 : decode (gb 275) 284 = .ok (.imul, 1) := by decide +kernel
theorem k275_285 : decode (gb 275) 285 = .ok (.aload_n 0, 1) := by decide +kernel
theorem k275_286 : decode (gb 275) 286 = .ok (.getfield 210, 3) := by decide +kernel
theorem k275_289 : decode (gb 275) 289 = .ok (.aload_n 0, 1) := by decide +kernel
theorem k275_290 : decode (gb 275) 290 = .ok (.getfield 198, 3) := by decide +kernel
theorem k275_293 : decode (gb 275) 293 = .ok (.iaload, 1) := by decide +kernel
theorem k275_294 : decode (gb 275) 294 = .ok (.invokevirtual 185, 3) := by decide +kernel
theorem k275_297 : decode (gb 275) 297 = .ok (.aload_n 0, 1) := by decide +kernel
theorem k275_298 : decode (gb 275) 298 = .ok (.getfield 238, 3) := by decide +kernel
theorem k275_301 : decode (gb 275) 301 = .ok (.aload_n 0, 1) := by decide +kernel
theorem k275_302 : decode (gb 275) 302 = .ok (.getfield 198, 3) := by decide +kernel
theorem k275_305 : decode (gb 275) 305 = .ok (.iload_n 3, 1) := by decide +kernel
theorem k275_306 : decode (gb 275) 306 = .ok (.iastore, 1) := by decide +kernel
theorem k275_307 : decode (gb 275) 307 = .ok (.aload_n 0, 1) := by decide +kernel
theorem k275_308 : decode (gb 275) 308 = .ok (.getfield 201, 3) := by decide +kernel
theorem k275_311 : decode (gb 275) 311 = .ok (.aload_n 0, 1) := by decide +kernel
theorem k275_312 : decode (gb 275) 312 = .ok (.getfield 198, 3) := by decide +kernel
theorem k275_315 : decode (gb 275) 315 = .ok (.iconst 0, 1) := by decide +kernel
theorem k275_316 : decode (gb 275) 316 = .ok (.bastore, 1) := by decide +kernel
theorem k275_317 : decode (gb 275) 317 = .ok (.aload_n 0, 1) := by decide +kernel
theorem k275_318 : decode (gb 275) 318 = .ok (.dup, 1) := by decide +kernel
theorem k275_319 : decode (gb 275) 319 = .ok (.getfield 198, 3) := by decide +kernel
theorem k275_322 : decode (gb 275) 322 = .ok (.iconst 1, 1) := by decide +kernel
theorem k275_323 : decode (gb 275) 323 = .ok (.iadd, 1) := by decide +kernel
theorem k275_324 : decode (gb 275) 324 = .ok (.putfield 198, 3) := by decide +kernel
theorem k275_327 : decode (gb 275) 327 = .ok (.aload_n 0, 1) := by decide +kernel
theorem k275_328 : decode (gb 275) 328 = .ok (.aload_n 0, 1) := by decide +kernel
theorem k275_329 : decode (gb 275) 329 = .ok (.getfield 235, 3) := by decide +kernel
theorem k275_332 : decode (gb 275) 332 = .ok (.iconst 1, 1) := by decide +kernel
theorem k275_333 : decode (gb 275) 333 = .ok (.iadd, 1) := by decide +kernel
theorem k275_334 : decode (gb 275) 334 = .ok (.sipush 255, 3) := by decide +kernel
theorem k275_337 : decode (gb 275) 337 = .ok (.iand, 1) := by decide +kernel
theorem k275_338 : decode (gb 275) 338 = .ok (.putfield 235, 3) := by decide +kernel
theorem k275_341 : decode (gb 275) 341 = .ok (.aload_n 0, 1) := by decide +kernel
theorem k275_342 : decode (gb 275) 342 = .ok (.iload_n 3, 1) := by decide +kernel
theorem k275_343 : decode (gb 275) 343 = .ok (.iconst 2, 1) := by decide +kernel
theorem k275_344 : decode (gb 275) 344 = .ok (.invokevirtual 241, 3) := by decide +kernel
theorem k275_347 : decode (gb 275) 347 = .ok (.aload_n 0, 1) := by decide +kernel
theorem k275_348 : decode (gb 275) 348 = .ok (.invokevirtual 244, 3) := by decide +kernel
theorem k275_351 : decode (gb 275) 351 = .ok (.goto 5, 3) := by decide +kernel
theorem k275_354 : decode (gb 275) 354 = .ok (.iconst 0, 1) := by decide +kernel
theorem k275_355 : decode (gb 275) 355 = .ok (.istore_n 1, 1) := by decide +kernel
theorem k275_356 : decode (gb 275) 356 = .ok (.goto (-334), 3) := by decide +kernel
theorem k275_359 : decode (gb 275) 359 = .ok (.return_, 1) := by decide +kernel
def c275_356 (kl22 : Int32 → Mem → Option (Mem)) (v1 : Int32) (μ : Mem) : Option (Mem) :=
  kl22 v1 μ
theorem c275_356_ok {L : Nat} (kl22 : Int32 → Mem → Option (Mem)) (hk22 : (∀ (v1 : Int32) (μ : Mem) (res : Mem), kl22 v1 μ = some res → Sx 275 22 [(0, .ref 129), (1, .int v1)] [] 0 0 (mk L μ) (mk L res, none))) (v1 : Int32) (μ : Mem) (res : Mem) (h : c275_356 kl22 v1 μ = some res) : Sx 275 356 [(0, .ref 129), (1, .int v1)] [] 0 0 (mk L μ) (mk L res, none) := by
  unfold c275_356 at h
  refine sx_goto (tgt := 22) k275_356 (by decide) ?_
  refine sx_pick (lo2 := [(0, .ref 129), (1, .int v1)]) [0, 1] rfl ?_
  exact hk22 v1 _ _ h
def c275_265 (kl22 : Int32 → Mem → Option (Mem)) (v1 : Int32) (v3 : Int32) (s1 : Int32) (μ : Mem) : Option (Mem) :=
  (pfI 129 31 s1 μ).bind fun m1 =>
  (ldA 145 (m1.1 129 41) m1).bind fun x3 =>
  (f271 (0 : Int32) (m1.1 129 29) 144 ((60 : Int32) * (m1.1 129 41)) x3 m1).bind fun r5 =>
  (stA 141 (r5.1 129 41) v3 r5).bind fun m7 =>
  (stZ 142 (m7.1 129 41) (0 : Int32) m7).bind fun m9 =>
  (pfI 129 41 ((m9.1 129 41) + (1 : Int32)) m9).bind fun m11 =>
  (pfI 129 29 (((m11.1 129 29) + (1 : Int32)) &&& (255 : Int32)) m11).bind fun m13 =>
  (f289 v3 (2 : Int32) m13).bind fun r15 =>
  (f274 r15).bind fun r17 =>
  c275_356 kl22 v1 r17
theorem c275_265_ok {L : Nat} (kl22 : Int32 → Mem → Option (Mem)) (hk22 : (∀ (v1 : Int32) (μ : Mem) (res : Mem), kl22 v1 μ = some res → Sx 275 22 [(0, .ref 129), (1, .int v1)] [] 0 0 (mk L μ) (mk L res, none))) (v1 : Int32) (v3 : Int32) (s1 : Int32) (μ : Mem) (res : Mem) (h : c275_265 kl22 v1 v3 s1 μ = some res) : Sx 275 265 [(0, .ref 129), (1, .int v1), (3, .int v3)] [.int s1, .ref 129] 0 0 (mk L μ) (mk L res, none) := by
  unfold c275_265 at h
  obtain ⟨m1, e2, h⟩ := Option.bind_eq_some_iff.mp h
  refine cx_putI (k := 31) k275_265 ow_275 fl_12_232 (by decide) sk_129 nf_11_31 fu_11_31 e2 ?_
  refine sx_aload_n (i := 0) k275_268 rfl rfl ?_
  refine sx_iconst (v := 0) k275_269 (by decide) ?_
  refine sx_aload_n (i := 0) k275_270 rfl rfl ?_
  refine cx_getI (k := 29) k275_271 ow_275 fl_12_235 (by decide) sk_129 ft_11_29 ?_
  refine sx_aload_n (i := 0) k275_274 rfl rfl ?_
  refine cx_getR (k := 44) k275_275 ow_275 fl_12_207 (by decide) sk_129 ft_11_44 sr_129_44 ?_
  refine sx_bipush (v := 60) k275_278 (by decide) ?_
  refine sx_aload_n (i := 0) k275_280 rfl rfl ?_
  refine cx_getI (k := 41) k275_281 ow_275 fl_12_198 (by decide) sk_129 ft_11_41 ?_
  refine sx_imul k275_284 ?_
  refine sx_aload_n (i := 0) k275_285 rfl rfl ?_
  refine cx_getR (k := 45) k275_286 ow_275 fl_12_210 (by decide) sk_129 ft_11_45 sr_129_45 ?_
  refine sx_aload_n (i := 0) k275_289 rfl rfl ?_
  refine cx_getI (k := 41) k275_290 ow_275 fl_12_198 (by decide) sk_129 ft_11_41 ?_
  obtain ⟨x3, e4, h⟩ := Option.bind_eq_some_iff.mp h
  refine cx_iald k275_293 sk_145 e4 ?_
  obtain ⟨r5, e6, h⟩ := Option.bind_eq_some_iff.mp h
  refine cx_V (sk := []) (vs := [.int (0 : Int32), .int (m1.1 129 29), .ref 144, .int ((60 : Int32) * (m1.1 129 41)), .int x3]) st_275_271 k275_294 ow_275 cl_12_185 (by decide) rfl (Nat.le_of_ble_eq_true rfl) sk_129 (ok271 (0 : Int32) (m1.1 129 29) 144 ((60 : Int32) * (m1.1 129 41)) x3 sk_144 _ _ e6) (sk3 := []) rfl rfl ?_
  refine sx_aload_n (i := 0) k275_297 rfl rfl ?_
  refine cx_getR (k := 39) k275_298 ow_275 fl_12_238 (by decide) sk_129 ft_11_39 sr_129_39 ?_
  refine sx_aload_n (i := 0) k275_301 rfl rfl ?_
  refine cx_getI (k := 41) k275_302 ow_275 fl_12_198 (by decide) sk_129 ft_11_41 ?_
  refine sx_iload_n (i := 3) k275_305 rfl rfl ?_
  obtain ⟨m7, e8, h⟩ := Option.bind_eq_some_iff.mp h
  refine cx_iast k275_306 sk_141 e8 ?_
  refine sx_aload_n (i := 0) k275_307 rfl rfl ?_
  refine cx_getR (k := 40) k275_308 ow_275 fl_12_201 (by decide) sk_129 ft_11_40 sr_129_40 ?_
  refine sx_aload_n (i := 0) k275_311 rfl rfl ?_
  refine cx_getI (k := 41) k275_312 ow_275 fl_12_198 (by decide) sk_129 ft_11_41 ?_
  refine sx_iconst (v := 0) k275_315 (by decide) ?_
  obtain ⟨m9, e10, h⟩ := Option.bind_eq_some_iff.mp h
  refine cx_zast k275_316 sk_142 e10 ?_
  refine sx_aload_n (i := 0) k275_317 rfl rfl ?_
  refine sx_dup k275_318 rfl ?_
  refine cx_getI (k := 41) k275_319 ow_275 fl_12_198 (by decide) sk_129 ft_11_41 ?_
  refine sx_iconst (v := 1) k275_322 (by decide) ?_
  refine sx_iadd k275_323 ?_
  obtain ⟨m11, e12, h⟩ := Option.bind_eq_some_iff.mp h
  refine cx_putI (k := 41) k275_324 ow_275 fl_12_198 (by decide) sk_129 nf_11_41 fu_11_41 e12 ?_
  refine sx_aload_n (i := 0) k275_327 rfl rfl ?_
  refine sx_aload_n (i := 0) k275_328 rfl rfl ?_
  refine cx_getI (k := 29) k275_329 ow_275 fl_12_235 (by decide) sk_129 ft_11_29 ?_
  refine sx_iconst (v := 1) k275_332 (by decide) ?_
  refine sx_iadd k275_333 ?_
  refine sx_sipush (v := 255) k275_334 (by decide) ?_
  refine sx_iand k275_337 ?_
  obtain ⟨m13, e14, h⟩ := Option.bind_eq_some_iff.mp h
  refine cx_putI (k := 29) k275_338 ow_275 fl_12_235 (by decide) sk_129 nf_11_29 fu_11_29 e14 ?_
  refine sx_aload_n (i := 0) k275_341 rfl rfl ?_
  refine sx_iload_n (i := 3) k275_342 rfl rfl ?_
  refine sx_iconst (v := 2) k275_343 (by decide) ?_
  obtain ⟨r15, e16, h⟩ := Option.bind_eq_some_iff.mp h
  refine cx_V (sk := []) (vs := [.int v3, .int (2 : Int32)]) st_275_289 k275_344 ow_275 cl_12_241 (by decide) rfl (Nat.le_of_ble_eq_true rfl) sk_129 (ok289 v3 (2 : Int32) _ _ e16) (sk3 := []) rfl rfl ?_
  refine sx_aload_n (i := 0) k275_347 rfl rfl ?_
  obtain ⟨r17, e18, h⟩ := Option.bind_eq_some_iff.mp h
  refine cx_V (sk := []) (vs := []) st_275_274 k275_348 ow_275 cl_12_244 (by decide) rfl (Nat.le_of_ble_eq_true rfl) sk_129 (ok274 _ _ e18) (sk3 := []) rfl rfl ?_
  refine sx_goto (tgt := 356) k275_351 (by decide) ?_
  refine sx_pick (lo2 := [(0, .ref 129), (1, .int v1)]) [0, 1] rfl ?_
  exact c275_356_ok kl22 hk22 v1 _ _ h
def b275_172 (kl22 : Int32 → Mem → Option (Mem)) (kl172 : Int32 → Int32 → Int32 → Mem → Option (Mem)) (v1 : Int32) (v3 : Int32) (v4 : Int32) (μ : Mem) : Option (Mem) :=
  if (μ.1 129 43) ≤ v4 then
    if (μ.1 129 41) = 0 then
      c275_265 kl22 v1 v3 (1 : Int32) μ
    else
      c275_265 kl22 v1 v3 (μ.1 129 31) μ
  else
    (ldA 143 (v4 + (1 : Int32)) μ).bind fun x3 =>
    (stA 143 v4 x3 μ).bind fun m5 =>
    (ldA 147 (v4 + (1 : Int32)) m5).bind fun x7 =>
    (stA 147 v4 x7 m5).bind fun m9 =>
    (ldA 147 v4 m9).bind fun x11 =>
    (f273 146 ((60 : Int32) * (v4 + (1 : Int32))) 146 ((60 : Int32) * v4) x11 m9).bind fun r13 =>
    nm (v4 + (1 : Int32)) fun x15 =>
    kl172 v1 v3 x15 r13
theorem b275_172_ok {L : Nat} (kl22 : Int32 → Mem → Option (Mem)) (kl172 : Int32 → Int32 → Int32 → Mem → Option (Mem)) (hk22 : (∀ (v1 : Int32) (μ : Mem) (res : Mem), kl22 v1 μ = some res → Sx 275 22 [(0, .ref 129), (1, .int v1)] [] 0 0 (mk L μ) (mk L res, none))) (hk172 : (∀ (v1 : Int32) (v3 : Int32) (v4 : Int32) (μ : Mem) (res : Mem), kl172 v1 v3 v4 μ = some res → Sx 275 172 [(0, .ref 129), (1, .int v1), (3, .int v3), (4, .int v4)] [] 0 0 (mk L μ) (mk L res, none))) (v1 : Int32) (v3 : Int32) (v4 : Int32) (μ : Mem) (res : Mem) (h : b275_172 kl22 kl172 v1 v3 v4 μ = some res) : Sx 275 172 [(0, .ref 129), (1, .int v1), (3, .int v3), (4, .int v4)] [] 0 0 (mk L μ) (mk L res, none) := by
  unfold b275_172 at h
  refine sx_iload k275_172 rfl ?_
  refine sx_aload_n (i := 0) k275_174 rfl rfl ?_
  refine cx_getI (k := 43) k275_175 ow_275 fl_12_213 (by decide) sk_129 ft_11_43 ?_
  by_cases hb1 : (μ.1 129 43) ≤ v4
  · rw [if_pos hb1] at h
    refine sx_icmp_ge (tgt := 249) k275_178 (by decide) (fun _ => ?_) (fun q => absurd hb1 q)
    refine sx_aload_n (i := 0) k275_249 rfl rfl ?_
    refine sx_aload_n (i := 0) k275_250 rfl rfl ?_
    refine cx_getI (k := 41) k275_251 ow_275 fl_12_198 (by decide) sk_129 ft_11_41 ?_
    by_cases hb2 : (μ.1 129 41) = 0
    · rw [if_pos hb2] at h
      refine sx_if_ne (tgt := 261) k275_254 (by decide) (fun q => absurd hb2 q) (fun _ => ?_)
      refine sx_iconst (v := 1) k275_257 (by decide) ?_
      refine sx_goto (tgt := 265) k275_258 (by decide) ?_
      refine sx_pick (lo2 := [(0, .ref 129), (1, .int v1), (3, .int v3)]) [0, 1, 2] rfl ?_
      exact c275_265_ok kl22 hk22 v1 v3 (1 : Int32) _ _ h
    · rw [if_neg hb2] at h
      refine sx_if_ne (tgt := 261) k275_254 (by decide) (fun _ => ?_) (fun q => absurd q hb2)
      refine sx_aload_n (i := 0) k275_261 rfl rfl ?_
      refine cx_getI (k := 31) k275_262 ow_275 fl_12_232 (by decide) sk_129 ft_11_31 ?_
      refine sx_pick (lo2 := [(0, .ref 129), (1, .int v1), (3, .int v3)]) [0, 1, 2] rfl ?_
      exact c275_265_ok kl22 hk22 v1 v3 (μ.1 129 31) _ _ h
  · rw [if_neg hb1] at h
    refine sx_icmp_ge (tgt := 249) k275_178 (by decide) (fun q => absurd q hb1) (fun _ => ?_)
    refine sx_aload_n (i := 0) k275_181 rfl rfl ?_
    refine cx_getR (k := 42) k275_182 ow_275 fl_12_219 (by decide) sk_129 ft_11_42 sr_129_42 ?_
    refine sx_iload k275_185 rfl ?_
    refine sx_aload_n (i := 0) k275_187 rfl rfl ?_
    refine cx_getR (k := 42) k275_188 ow_275 fl_12_219 (by decide) sk_129 ft_11_42 sr_129_42 ?_
    refine sx_iload k275_191 rfl ?_
    refine sx_iconst (v := 1) k275_193 (by decide) ?_
    refine sx_iadd k275_194 ?_
    obtain ⟨x3, e4, h⟩ := Option.bind_eq_some_iff.mp h
    refine cx_iald k275_195 sk_143 e4 ?_
    obtain ⟨m5, e6, h⟩ := Option.bind_eq_some_iff.mp h
    refine cx_iast k275_196 sk_143 e6 ?_
    refine sx_aload_n (i := 0) k275_197 rfl rfl ?_
    refine cx_getR (k := 47) k275_198 ow_275 fl_12_222 (by decide) sk_129 ft_11_47 sr_129_47 ?_
    refine sx_iload k275_201 rfl ?_
    refine sx_aload_n (i := 0) k275_203 rfl rfl ?_
    refine cx_getR (k := 47) k275_204 ow_275 fl_12_222 (by decide) sk_129 ft_11_47 sr_129_47 ?_
    refine sx_iload k275_207 rfl ?_
    refine sx_iconst (v := 1) k275_209 (by decide) ?_
    refine sx_iadd k275_210 ?_
    obtain ⟨x7, e8, h⟩ := Option.bind_eq_some_iff.mp h
    refine cx_iald k275_211 sk_147 e8 ?_
    obtain ⟨m9, e10, h⟩ := Option.bind_eq_some_iff.mp h
    refine cx_iast k275_212 sk_147 e10 ?_
    refine sx_aload_n (i := 0) k275_213 rfl rfl ?_
    refine cx_getR (k := 46) k275_214 ow_275 fl_12_225 (by decide) sk_129 ft_11_46 sr_129_46 ?_
    refine sx_bipush (v := 60) k275_217 (by decide) ?_
    refine sx_iload k275_219 rfl ?_
    refine sx_iconst (v := 1) k275_221 (by decide) ?_
    refine sx_iadd k275_222 ?_
    refine sx_imul k275_223 ?_
    refine sx_aload_n (i := 0) k275_224 rfl rfl ?_
    refine cx_getR (k := 46) k275_225 ow_275 fl_12_225 (by decide) sk_129 ft_11_46 sr_129_46 ?_
    refine sx_bipush (v := 60) k275_228 (by decide) ?_
    refine sx_iload k275_230 rfl ?_
    refine sx_imul k275_232 ?_
    refine sx_aload_n (i := 0) k275_233 rfl rfl ?_
    refine cx_getR (k := 47) k275_234 ow_275 fl_12_222 (by decide) sk_129 ft_11_47 sr_129_47 ?_
    refine sx_iload k275_237 rfl ?_
    obtain ⟨x11, e12, h⟩ := Option.bind_eq_some_iff.mp h
    refine cx_iald k275_239 sk_147 e12 ?_
    obtain ⟨r13, e14, h⟩ := Option.bind_eq_some_iff.mp h
    refine cx_S (sk := []) (vs := [.ref 146, .int ((60 : Int32) * (v4 + (1 : Int32))), .ref 146, .int ((60 : Int32) * v4), .int x11]) st_275_273 k275_240 ow_275 cl_12_228 (by decide) rfl (Nat.le_of_ble_eq_true rfl) (ok273 146 ((60 : Int32) * (v4 + (1 : Int32))) 146 ((60 : Int32) * v4) x11 sk_146 sk_146 _ _ e14) (sk3 := []) rfl rfl ?_
    refine cx_iinc (c := 1) (lo2 := fun x15 => [(4, .int x15), (0, .ref 129), (1, .int v1), (3, .int v3)]) k275_243 rfl (by decide) (by rw [mx_275]; decide) (fun _ => rfl) h (fun x15 h => ?_)
    refine sx_goto (tgt := 172) k275_246 (by decide) ?_
    refine sx_pick (lo2 := [(0, .ref 129), (1, .int v1), (3, .int v3), (4, .int x15)]) [1, 2, 3, 0] rfl ?_
    exact hk172 v1 v3 x15 _ _ h
def l275_172 (kl22 : Int32 → Mem → Option (Mem)) : Nat → Int32 × Int32 × Int32 × Mem → Option (Mem) :=
  fixN (fun self x => b275_172 kl22 (fun v1 v3 v4 μ => self (v1, v3, v4, μ)) (x.1) (x.2.1) (x.2.2.1) (x.2.2.2))
theorem l275_172_ok {L : Nat} (kl22 : Int32 → Mem → Option (Mem)) (hk22 : (∀ (v1 : Int32) (μ : Mem) (res : Mem), kl22 v1 μ = some res → Sx 275 22 [(0, .ref 129), (1, .int v1)] [] 0 0 (mk L μ) (mk L res, none))) (n : Nat) (v1 : Int32) (v3 : Int32) (v4 : Int32) (μ : Mem) (res : Mem) (h : l275_172 kl22 n (v1, v3, v4, μ) = some res) : Sx 275 172 [(0, .ref 129), (1, .int v1), (3, .int v3), (4, .int v4)] [] 0 0 (mk L μ) (mk L res, none) := by
  have key := fixN_ind (P := fun x res => Sx 275 172 [(0, .ref 129), (1, .int (x.1)), (3, .int (x.2.1)), (4, .int (x.2.2.1))] [] 0 0 (mk L (x.2.2.2)) (mk L res, none)) (F := fun self x => b275_172 kl22 (fun v1 v3 v4 μ => self (v1, v3, v4, μ)) (x.1) (x.2.1) (x.2.2.1) (x.2.2.2)) (fun self hself x res h => b275_172_ok kl22 (fun v1 v3 v4 μ => self (v1, v3, v4, μ)) hk22 (fun v1 v3 v4 μ res hh => hself (v1, v3, v4, μ) res hh) (x.1) (x.2.1) (x.2.2.1) (x.2.2.2) res h) n (v1, v3, v4, μ) res h
  exact key
def c275_354 (kl22 : Int32 → Mem → Option (Mem)) (μ : Mem) : Option (Mem) :=
  c275_356 kl22 (0 : Int32) μ
theorem c275_354_ok {L : Nat} (kl22 : Int32 → Mem → Option (Mem)) (hk22 : (∀ (v1 : Int32) (μ : Mem) (res : Mem), kl22 v1 μ = some res → Sx 275 22 [(0, .ref 129), (1, .int v1)] [] 0 0 (mk L μ) (mk L res, none))) (μ : Mem) (res : Mem) (h : c275_354 kl22 μ = some res) : Sx 275 354 [(0, .ref 129)] [] 0 0 (mk L μ) (mk L res, none) := by
  unfold c275_354 at h
  refine sx_iconst (v := 0) k275_354 (by decide) ?_
  refine cx_istore_n (lo2 := [(1, .int (0 : Int32)), (0, .ref 129)]) k275_355 rfl (by rw [mx_275]; decide) rfl ?_
  refine sx_pick (lo2 := [(0, .ref 129), (1, .int (0 : Int32))]) [1, 0] rfl ?_
  exact c275_356_ok kl22 hk22 (0 : Int32) _ _ h
def c275_51 (kl22 : Int32 → Mem → Option (Mem)) (v1 : Int32) (v2 : Int32) (μ : Mem) : Option (Mem) :=
  if (μ.1 129 41) ≤ v2 then
    if (μ.1 129 43) ≤ 0 then
      c275_354 kl22 μ
    else
      if (μ.1 129 33) ≤ (μ.1 129 41) then
        c275_354 kl22 μ
      else
        (ldA 143 (0 : Int32) μ).bind fun x4 =>
        (ldA 147 (0 : Int32) μ).bind fun x6 =>
        (stA 145 (μ.1 129 41) x6 μ).bind fun m8 =>
        (ldA 147 (0 : Int32) m8).bind fun x10 =>
        (f273 146 (0 : Int32) 144 ((60 : Int32) * (m8.1 129 41)) x10 m8).bind fun r12 =>
        (pfI 129 43 ((r12.1 129 43) - (1 : Int32)) r12).bind fun m14 =>
        l275_172 kl22 gF (v1, x4, (0 : Int32), m14)
  else
    (stZ 142 v2 (0 : Int32) μ).bind fun m16 =>
    (ldA 145 v2 m16).bind fun x18 =>
    (f271 (0 : Int32) ((m16.1 129 30) + v2) 144 ((60 : Int32) * v2) x18 m16).bind fun r20 =>
    c275_356 kl22 v1 r20
theorem c275_51_ok {L : Nat} (kl22 : Int32 → Mem → Option (Mem)) (hk22 : (∀ (v1 : Int32) (μ : Mem) (res : Mem), kl22 v1 μ = some res → Sx 275 22 [(0, .ref 129), (1, .int v1)] [] 0 0 (mk L μ) (mk L res, none))) (v1 : Int32) (v2 : Int32) (μ : Mem) (res : Mem) (h : c275_51 kl22 v1 v2 μ = some res) : Sx 275 51 [(0, .ref 129), (1, .int v1), (2, .int v2)] [] 0 0 (mk L μ) (mk L res, none) := by
  unfold c275_51 at h
  refine sx_iload_n (i := 2) k275_51 rfl rfl ?_
  refine sx_aload_n (i := 0) k275_52 rfl rfl ?_
  refine cx_getI (k := 41) k275_53 ow_275 fl_12_198 (by decide) sk_129 ft_11_41 ?_
  by_cases hb1 : (μ.1 129 41) ≤ v2
  · rw [if_pos hb1] at h
    refine sx_icmp_ge (tgt := 94) k275_56 (by decide) (fun _ => ?_) (fun q => absurd hb1 q)
    refine sx_aload_n (i := 0) k275_94 rfl rfl ?_
    refine cx_getI (k := 43) k275_95 ow_275 fl_12_213 (by decide) sk_129 ft_11_43 ?_
    by_cases hb2 : (μ.1 129 43) ≤ 0
    · rw [if_pos hb2] at h
      refine sx_if_le (tgt := 354) k275_98 (by decide) (fun _ => ?_) (fun q => absurd hb2 q)
      refine sx_pick (lo2 := [(0, .ref 129)]) [0] rfl ?_
      exact c275_354_ok kl22 hk22 _ _ h
    · rw [if_neg hb2] at h
      refine sx_if_le (tgt := 354) k275_98 (by decide) (fun q => absurd q hb2) (fun _ => ?_)
      refine sx_aload_n (i := 0) k275_101 rfl rfl ?_
      refine cx_getI (k := 41) k275_102 ow_275 fl_12_198 (by decide) sk_129 ft_11_41 ?_
      refine sx_aload_n (i := 0) k275_105 rfl rfl ?_
      refine cx_getI (k := 33) k275_106 ow_275 fl_12_216 (by decide) sk_129 ft_11_33 ?_
      by_cases hb3 : (μ.1 129 33) ≤ (μ.1 129 41)
      · rw [if_pos hb3] at h
        refine sx_icmp_ge (tgt := 354) k275_109 (by decide) (fun _ => ?_) (fun q => absurd hb3 q)
        refine sx_pick (lo2 := [(0, .ref 129)]) [0] rfl ?_
        exact c275_354_ok kl22 hk22 _ _ h
      · rw [if_neg hb3] at h
        refine sx_icmp_ge (tgt := 354) k275_109 (by decide) (fun q => absurd q hb3) (fun _ => ?_)
        refine sx_aload_n (i := 0) k275_112 rfl rfl ?_
        refine cx_getR (k := 42) k275_113 ow_275 fl_12_219 (by decide) sk_129 ft_11_42 sr_129_42 ?_
        refine sx_iconst (v := 0) k275_116 (by decide) ?_
        obtain ⟨x4, e5, h⟩ := Option.bind_eq_some_iff.mp h
        refine cx_iald k275_117 sk_143 e5 ?_
        refine cx_istore_n (lo2 := [(3, .int x4), (0, .ref 129), (1, .int v1), (2, .int v2)]) k275_118 rfl (by rw [mx_275]; decide) rfl ?_
        refine sx_aload_n (i := 0) k275_119 rfl rfl ?_
        refine cx_getR (k := 45) k275_120 ow_275 fl_12_210 (by decide) sk_129 ft_11_45 sr_129_45 ?_
        refine sx_aload_n (i := 0) k275_123 rfl rfl ?_
        refine cx_getI (k := 41) k275_124 ow_275 fl_12_198 (by decide) sk_129 ft_11_41 ?_
        refine sx_aload_n (i := 0) k275_127 rfl rfl ?_
        refine cx_getR (k := 47) k275_128 ow_275 fl_12_222 (by decide) sk_129 ft_11_47 sr_129_47 ?_
        refine sx_iconst (v := 0) k275_131 (by decide) ?_
        obtain ⟨x6, e7, h⟩ := Option.bind_eq_some_iff.mp h
        refine cx_iald k275_132 sk_147 e7 ?_
        obtain ⟨m8, e9, h⟩ := Option.bind_eq_some_iff.mp h
        refine cx_iast k275_133 sk_145 e9 ?_
        refine sx_aload_n (i := 0) k275_134 rfl rfl ?_
        refine cx_getR (k := 46) k275_135 ow_275 fl_12_225 (by decide) sk_129 ft_11_46 sr_129_46 ?_
        refine sx_iconst (v := 0) k275_138 (by decide) ?_
        refine sx_aload_n (i := 0) k275_139 rfl rfl ?_
        refine cx_getR (k := 44) k275_140 ow_275 fl_12_207 (by decide) sk_129 ft_11_44 sr_129_44 ?_
        refine sx_bipush (v := 60) k275_143 (by decide) ?_
        refine sx_aload_n (i := 0) k275_145 rfl rfl ?_
        refine cx_getI (k := 41) k275_146 ow_275 fl_12_198 (by decide) sk_129 ft_11_41 ?_
        refine sx_imul k275_149 ?_
        refine sx_aload_n (i := 0) k275_150 rfl rfl ?_
        refine cx_getR (k := 47) k275_151 ow_275 fl_12_222 (by decide) sk_129 ft_11_47 sr_129_47 ?_
        refine sx_iconst (v := 0) k275_154 (by decide) ?_
        obtain ⟨x10, e11, h⟩ := Option.bind_eq_some_iff.mp h
        refine cx_iald k275_155 sk_147 e11 ?_
        obtain ⟨r12, e13, h⟩ := Option.bind_eq_some_iff.mp h
        refine cx_S (sk := []) (vs := [.ref 146, .int (0 : Int32), .ref 144, .int ((60 : Int32) * (m8.1 129 41)), .int x10]) st_275_273 k275_156 ow_275 cl_12_228 (by decide) rfl (Nat.le_of_ble_eq_true rfl) (ok273 146 (0 : Int32) 144 ((60 : Int32) * (m8.1 129 41)) x10 sk_146 sk_144 _ _ e13) (sk3 := []) rfl rfl ?_
        refine sx_aload_n (i := 0) k275_159 rfl rfl ?_
        refine sx_dup k275_160 rfl ?_
        refine cx_getI (k := 43) k275_161 ow_275 fl_12_213 (by decide) sk_129 ft_11_43 ?_
        refine sx_iconst (v := 1) k275_164 (by decide) ?_
        refine sx_isub k275_165 ?_
        obtain ⟨m14, e15, h⟩ := Option.bind_eq_some_iff.mp h
        refine cx_putI (k := 43) k275_166 ow_275 fl_12_213 (by decide) sk_129 nf_11_43 fu_11_43 e15 ?_
        refine sx_iconst (v := 0) k275_169 (by decide) ?_
        refine cx_istore (lo2 := [(4, .int (0 : Int32)), (3, .int x4), (0, .ref 129), (1, .int v1), (2, .int v2)]) k275_170 (by rw [mx_275]; decide) rfl ?_
        refine sx_pick (lo2 := [(0, .ref 129), (1, .int v1), (3, .int x4), (4, .int (0 : Int32))]) [2, 3, 1, 0] rfl ?_
        exact l275_172_ok kl22 hk22 gF v1 x4 (0 : Int32) _ _ h
  · rw [if_neg hb1] at h
    refine sx_icmp_ge (tgt := 94) k275_56 (by decide) (fun q => absurd q hb1) (fun _ => ?_)
    refine sx_aload_n (i := 0) k275_59 rfl rfl ?_
    refine cx_getR (k := 40) k275_60 ow_275 fl_12_201 (by decide) sk_129 ft_11_40 sr_129_40 ?_
    refine sx_iload_n (i := 2) k275_63 rfl rfl ?_
    refine sx_iconst (v := 0) k275_64 (by decide) ?_
    obtain ⟨m16, e17, h⟩ := Option.bind_eq_some_iff.mp h
    refine cx_zast k275_65 sk_142 e17 ?_
    refine sx_aload_n (i := 0) k275_66 rfl rfl ?_
    refine sx_iconst (v := 0) k275_67 (by decide) ?_
    refine sx_aload_n (i := 0) k275_68 rfl rfl ?_
    refine cx_getI (k := 30) k275_69 ow_275 fl_12_204 (by decide) sk_129 ft_11_30 ?_
    refine sx_iload_n (i := 2) k275_72 rfl rfl ?_
    refine sx_iadd k275_73 ?_
    refine sx_aload_n (i := 0) k275_74 rfl rfl ?_
    refine cx_getR (k := 44) k275_75 ow_275 fl_12_207 (by decide) sk_129 ft_11_44 sr_129_44 ?_
    refine sx_bipush (v := 60) k275_78 (by decide) ?_
    refine sx_iload_n (i := 2) k275_80 rfl rfl ?_
    refine sx_imul k275_81 ?_
    refine sx_aload_n (i := 0) k275_82 rfl rfl ?_
    refine cx_getR (k := 45) k275_83 ow_275 fl_12_210 (by decide) sk_129 ft_11_45 sr_129_45 ?_
    refine sx_iload_n (i := 2) k275_86 rfl rfl ?_
    obtain ⟨x18, e19, h⟩ := Option.bind_eq_some_iff.mp h
    refine cx_iald k275_87 sk_145 e19 ?_
    obtain ⟨r20, e21, h⟩ := Option.bind_eq_some_iff.mp h
    refine cx_V (sk := []) (vs := [.int (0 : Int32), .int ((m16.1 129 30) + v2), .ref 144, .int ((60 : Int32) * v2), .int x18]) st_275_271 k275_88 ow_275 cl_12_185 (by decide) rfl (Nat.le_of_ble_eq_true rfl) sk_129 (ok271 (0 : Int32) ((m16.1 129 30) + v2) 144 ((60 : Int32) * v2) x18 sk_144 _ _ e21) (sk3 := []) rfl rfl ?_
    refine sx_goto (tgt := 356) k275_91 (by decide) ?_
    refine sx_pick (lo2 := [(0, .ref 129), (1, .int v1)]) [0, 1] rfl ?_
    exact c275_356_ok kl22 hk22 v1 _ _ h
def b275_28 (kl22 : Int32 → Mem → Option (Mem)) (kl28 : Int32 → Int32 → Mem → Option (Mem)) (v1 : Int32) (v2 : Int32) (μ : Mem) : Option (Mem) :=
  if (μ.1 129 41) ≤ v2 then
    c275_51 kl22 v1 v2 μ
  else
    (ldA 142 v2 μ).bind fun x2 =>
    if x2 = 0 then
      nm (v2 + (1 : Int32)) fun x5 =>
      kl28 v1 x5 μ
    else
      c275_51 kl22 v1 v2 μ
theorem b275_28_ok {L : Nat} (kl22 : Int32 → Mem → Option (Mem)) (kl28 : Int32 → Int32 → Mem → Option (Mem)) (hk22 : (∀ (v1 : Int32) (μ : Mem) (res : Mem), kl22 v1 μ = some res → Sx 275 22 [(0, .ref 129), (1, .int v1)] [] 0 0 (mk L μ) (mk L res, none))) (hk28 : (∀ (v1 : Int32) (v2 : Int32) (μ : Mem) (res : Mem), kl28 v1 v2 μ = some res → Sx 275 28 [(0, .ref 129), (1, .int v1), (2, .int v2)] [] 0 0 (mk L μ) (mk L res, none))) (v1 : Int32) (v2 : Int32) (μ : Mem) (res : Mem) (h : b275_28 kl22 kl28 v1 v2 μ = some res) : Sx 275 28 [(0, .ref 129), (1, .int v1), (2, .int v2)] [] 0 0 (mk L μ) (mk L res, none) := by
  unfold b275_28 at h
  refine sx_iload_n (i := 2) k275_28 rfl rfl ?_
  refine sx_aload_n (i := 0) k275_29 rfl rfl ?_
  refine cx_getI (k := 41) k275_30 ow_275 fl_12_198 (by decide) sk_129 ft_11_41 ?_
  by_cases hb1 : (μ.1 129 41) ≤ v2
  · rw [if_pos hb1] at h
    refine sx_icmp_ge (tgt := 51) k275_33 (by decide) (fun _ => ?_) (fun q => absurd hb1 q)
    refine sx_pick (lo2 := [(0, .ref 129), (1, .int v1), (2, .int v2)]) [0, 1, 2] rfl ?_
    exact c275_51_ok kl22 hk22 v1 v2 _ _ h
  · rw [if_neg hb1] at h
    refine sx_icmp_ge (tgt := 51) k275_33 (by decide) (fun q => absurd q hb1) (fun _ => ?_)
    refine sx_aload_n (i := 0) k275_36 rfl rfl ?_
    refine cx_getR (k := 40) k275_37 ow_275 fl_12_201 (by decide) sk_129 ft_11_40 sr_129_40 ?_
    refine sx_iload_n (i := 2) k275_40 rfl rfl ?_
    obtain ⟨x2, e3, h⟩ := Option.bind_eq_some_iff.mp h
    refine cx_bald k275_41 (Or.inr sk_142) e3 ?_
    by_cases hb4 : x2 = 0
    · rw [if_pos hb4] at h
      refine sx_if_ne (tgt := 51) k275_42 (by decide) (fun q => absurd hb4 q) (fun _ => ?_)
      refine cx_iinc (c := 1) (lo2 := fun x5 => [(2, .int x5), (0, .ref 129), (1, .int v1)]) k275_45 rfl (by decide) (by rw [mx_275]; decide) (fun _ => rfl) h (fun x5 h => ?_)
      refine sx_goto (tgt := 28) k275_48 (by decide) ?_
      refine sx_pick (lo2 := [(0, .ref 129), (1, .int v1), (2, .int x5)]) [1, 2, 0] rfl ?_
      exact hk28 v1 x5 _ _ h
    · rw [if_neg hb4] at h
      refine sx_if_ne (tgt := 51) k275_42 (by decide) (fun _ => ?_) (fun q => absurd q hb4)
      refine sx_pick (lo2 := [(0, .ref 129), (1, .int v1), (2, .int v2)]) [0, 1, 2] rfl ?_
      exact c275_51_ok kl22 hk22 v1 v2 _ _ h
def l275_28 (kl22 : Int32 → Mem → Option (Mem)) : Nat → Int32 × Int32 × Mem → Option (Mem) :=
  fixN (fun self x => b275_28 kl22 (fun v1 v2 μ => self (v1, v2, μ)) (x.1) (x.2.1) (x.2.2))
theorem l275_28_ok {L : Nat} (kl22 : Int32 → Mem → Option (Mem)) (hk22 : (∀ (v1 : Int32) (μ : Mem) (res : Mem), kl22 v1 μ = some res → Sx 275 22 [(0, .ref 129), (1, .int v1)] [] 0 0 (mk L μ) (mk L res, none))) (n : Nat) (v1 : Int32) (v2 : Int32) (μ : Mem) (res : Mem) (h : l275_28 kl22 n (v1, v2, μ) = some res) : Sx 275 28 [(0, .ref 129), (1, .int v1), (2, .int v2)] [] 0 0 (mk L μ) (mk L res, none) := by
  have key := fixN_ind (P := fun x res => Sx 275 28 [(0, .ref 129), (1, .int (x.1)), (2, .int (x.2.1))] [] 0 0 (mk L (x.2.2)) (mk L res, none)) (F := fun self x => b275_28 kl22 (fun v1 v2 μ => self (v1, v2, μ)) (x.1) (x.2.1) (x.2.2)) (fun self hself x res h => b275_28_ok kl22 (fun v1 v2 μ => self (v1, v2, μ)) hk22 (fun v1 v2 μ res hh => hself (v1, v2, μ) res hh) (x.1) (x.2.1) (x.2.2) res h) n (v1, v2, μ) res h
  exact key
def b275_22 (kl22 : Int32 → Mem → Option (Mem)) (v1 : Int32) (μ : Mem) : Option (Mem) :=
  if v1 = 0 then
    some μ
  else
    l275_28 kl22 gF (v1, (0 : Int32), μ)
theorem b275_22_ok {L : Nat} (kl22 : Int32 → Mem → Option (Mem)) (hk22 : (∀ (v1 : Int32) (μ : Mem) (res : Mem), kl22 v1 μ = some res → Sx 275 22 [(0, .ref 129), (1, .int v1)] [] 0 0 (mk L μ) (mk L res, none))) (v1 : Int32) (μ : Mem) (res : Mem) (h : b275_22 kl22 v1 μ = some res) : Sx 275 22 [(0, .ref 129), (1, .int v1)] [] 0 0 (mk L μ) (mk L res, none) := by
  unfold b275_22 at h
  refine sx_iload_n (i := 1) k275_22 rfl rfl ?_
  by_cases hb1 : v1 = 0
  · rw [if_pos hb1] at h
    refine sx_if_eq (tgt := 359) k275_23 (by decide) (fun _ => ?_) (fun q => absurd hb1 q)
    exact cx_retv k275_359 rt_275 h
  · rw [if_neg hb1] at h
    refine sx_if_eq (tgt := 359) k275_23 (by decide) (fun q => absurd q hb1) (fun _ => ?_)
    refine sx_iconst (v := 0) k275_26 (by decide) ?_
    refine cx_istore_n (lo2 := [(2, .int (0 : Int32)), (0, .ref 129), (1, .int v1)]) k275_27 rfl (by rw [mx_275]; decide) rfl ?_
    refine sx_pick (lo2 := [(0, .ref 129), (1, .int v1), (2, .int (0 : Int32))]) [1, 2, 0] rfl ?_
    exact l275_28_ok kl22 hk22 gF v1 (0 : Int32) _ _ h
def l275_22 : Nat → Int32 × Mem → Option (Mem) :=
  fixN (fun self x => b275_22 (fun v1 μ => self (v1, μ)) (x.1) (x.2))
theorem l275_22_ok {L : Nat} (n : Nat) (v1 : Int32) (μ : Mem) (res : Mem) (h : l275_22 n (v1, μ) = some res) : Sx 275 22 [(0, .ref 129), (1, .int v1)] [] 0 0 (mk L μ) (mk L res, none) := by
  have key := fixN_ind (P := fun x res => Sx 275 22 [(0, .ref 129), (1, .int (x.1))] [] 0 0 (mk L (x.2)) (mk L res, none)) (F := fun self x => b275_22 (fun v1 μ => self (v1, μ)) (x.1) (x.2)) (fun self hself x res h => b275_22_ok (fun v1 μ => self (v1, μ)) (fun v1 μ res hh => hself (v1, μ) res hh) (x.1) (x.2) res h) n (v1, μ) res h
  exact key
def c275_21 (s0 : Int32) (μ : Mem) : Option (Mem) :=
  l275_22 gF (s0, μ)
theorem c275_21_ok {L : Nat} (s0 : Int32) (μ : Mem) (res : Mem) (h : c275_21 s0 μ = some res) : Sx 275 21 [(0, .ref 129)] [.int s0] 0 0 (mk L μ) (mk L res, none) := by
  unfold c275_21 at h
  refine cx_istore_n (lo2 := [(1, .int s0), (0, .ref 129)]) k275_21 rfl (by rw [mx_275]; decide) rfl ?_
  refine sx_pick (lo2 := [(0, .ref 129), (1, .int s0)]) [1, 0] rfl ?_
  exact l275_22_ok gF s0 _ _ h
def c275_16 (μ : Mem) : Option (Mem) :=
  c275_21 (1 : Int32) μ
theorem c275_16_ok {L : Nat} (μ : Mem) (res : Mem) (h : c275_16 μ = some res) : Sx 275 16 [(0, .ref 129)] [] 0 0 (mk L μ) (mk L res, none) := by
  unfold c275_16 at h
  refine sx_iconst (v := 1) k275_16 (by decide) ?_
  refine sx_goto (tgt := 21) k275_17 (by decide) ?_
  refine sx_pick (lo2 := [(0, .ref 129)]) [0] rfl ?_
  exact c275_21_ok (1 : Int32) _ _ h
/-- CraftHouseModel.go()V -/
def f275 (μ : Mem) : Option (Mem) :=
  if (μ.1 129 28) = (1 : Int32) then
    c275_16 μ
  else
    if (μ.1 129 28) = (2 : Int32) then
      c275_16 μ
    else
      c275_21 (0 : Int32) μ
theorem ok275 {L : Nat} (μ : Mem) (res : Mem) (h : f275 μ = some res) : Mx 275 [.ref 129] (mk L μ) (mk L res, none) := by
  refine Mx_of ml_275 (by rw [mx_275]; exact Nat.le_of_ble_eq_true rfl) ?_
  show Sx 275 0 [(0, .ref 129)] [] 0 0 (mk L μ) _
  unfold f275 at h
  refine sx_aload_n (i := 0) k275_0 rfl rfl ?_
  refine cx_getI (k := 28) k275_1 ow_275 fl_12_195 (by decide) sk_129 ft_11_28 ?_
  refine sx_iconst (v := 1) k275_4 (by decide) ?_
  by_cases hb1 : (μ.1 129 28) = (1 : Int32)
  · rw [if_pos hb1] at h
    refine sx_icmp_eq (tgt := 16) k275_5 (by decide) (fun _ => ?_) (fun q => absurd hb1 q)
    refine sx_pick (lo2 := [(0, .ref 129)]) [0] rfl ?_
    exact c275_16_ok _ _ h
  · rw [if_neg hb1] at h
    refine sx_icmp_eq (tgt := 16) k275_5 (by decide) (fun q => absurd q hb1) (fun _ => ?_)
    refine sx_aload_n (i := 0) k275_8 rfl rfl ?_
    refine cx_getI (k := 28) k275_9 ow_275 fl_12_195 (by decide) sk_129 ft_11_28 ?_
    refine sx_iconst (v := 2) k275_12 (by decide) ?_
    by_cases hb2 : (μ.1 129 28) = (2 : Int32)
    · rw [if_pos hb2] at h
      refine sx_icmp_ne (tgt := 20) k275_13 (by decide) (fun q => absurd hb2 q) (fun _ => ?_)
      refine sx_pick (lo2 := [(0, .ref 129)]) [0] rfl ?_
      exact c275_16_ok _ _ h
    · rw [if_neg hb2] at h
      refine sx_icmp_ne (tgt := 20) k275_13 (by decide) (fun _ => ?_) (fun q => absurd q hb2)
      refine sx_iconst (v := 0) k275_20 (by decide) ?_
      refine sx_pick (lo2 := [(0, .ref 129)]) [0] rfl ?_
      exact c275_21_ok (0 : Int32) _ _ h
