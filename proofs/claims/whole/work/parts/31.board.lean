theorem k5_0 : decode (gb 5) 0 = .ok (.aload_n 0, 1) := by decide +kernel
theorem k5_1 : decode (gb 5) 1 = .ok (.getfield 16, 3) := by decide +kernel
theorem k5_4 : decode (gb 5) 4 = .ok (.invokevirtual 62, 3) := by decide +kernel
theorem k5_7 : decode (gb 5) 7 = .ok (.ireturn, 1) := by decide +kernel
/-- Board.hasRoom()Z -/
def f5 (μ : Mem) : Option (Mem × Int32) :=
  (f159 102 μ).bind fun r1 =>
  rtZ r1.2 r1.1
theorem ok5 {L : Nat} (μ : Mem) (res : Mem × Int32) (h : f5 μ = some res) : Mx 5 [.ref 101] (mk L μ) (mk L res.1, some (.int res.2)) := by
  refine Mx_of ml_5 (by rw [mx_5]; exact Nat.le_of_ble_eq_true rfl) ?_
  show Sx 5 0 [(0, .ref 101)] [] 0 0 (mk L μ) _
  unfold f5 at h
  refine sx_aload_n (i := 0) k5_0 rfl rfl ?_
  refine cx_getR (k := 2) k5_1 ow_5 fl_1_16 (by decide) sk_101 ft_0_2 sr_101_2 ?_
  obtain ⟨r1, e2, h⟩ := Option.bind_eq_some_iff.mp h
  refine cx_V (sk := []) (vs := []) st_5_159 k5_4 ow_5 cl_1_62 (by decide) rfl (Nat.le_of_ble_eq_true rfl) sk_102 (ok159 102 sk_102 _ _ e2) (sk3 := [.int r1.2]) rfl rfl ?_
  exact cx_retz k5_7 rt_5 h
theorem k6_0 : decode (gb 6) 0 = .ok (.iload_n 1, 1) := by decide +kernel
theorem k6_1 : decode (gb 6) 1 = .ok (.tableswitch 79 16 23 #[47, 55, 79, 79, 79, 63, 79, 71], 47) := by decide +kernel
theorem k6_48 : decode (gb 6) 48 = .ok (.aload_n 0, 1) := by decide +kernel
theorem k6_49 : decode (gb 6) 49 = .ok (.getfield 55, 3) := by decide +kernel
theorem k6_52 : decode (gb 6) 52 = .ok (.getfield 66, 3) := by decide +kernel
theorem k6_55 : decode (gb 6) 55 = .ok (.ireturn, 1) := by decide +kernel
theorem k6_56 : decode (gb 6) 56 = .ok (.aload_n 0, 1) := by decide +kernel
theorem k6_57 : decode (gb 6) 57 = .ok (.getfield 55, 3) := by decide +kernel
theorem k6_60 : decode (gb 6) 60 = .ok (.getfield 72, 3) := by decide +kernel
theorem k6_63 : decode (gb 6) 63 = .ok (.ireturn, 1) := by decide +kernel
theorem k6_64 : decode (gb 6) 64 = .ok (.aload_n 0, 1) := by decide +kernel
theorem k6_65 : decode (gb 6) 65 = .ok (.getfield 20, 3) := by decide +kernel
theorem k6_68 : decode (gb 6) 68 = .ok (.getfield 75, 3) := by decide +kernel
theorem k6_71 : decode (gb 6) 71 = .ok (.ireturn, 1) := by decide +kernel
theorem k6_72 : decode (gb 6) 72 = .ok (.aload_n 0, 1) := by decide +kernel
theorem k6_73 : decode (gb 6) 73 = .ok (.getfield 51, 3) := by decide +kernel
theorem k6_76 : decode (gb 6) 76 = .ok (.getfield 78, 3) := by decide +kernel
theorem k6_79 : decode (gb 6) 79 = .ok (.ireturn, 1) := by decide +kernel
theorem k6_80 : decode (gb 6) 80 = .ok (.iload_n 1, 1) := by decide +kernel
theorem k6_81 : decode (gb 6) 81 = .ok (.ifCond .lt 18, 3) := by decide +kernel
theorem k6_84 : decode (gb 6) 84 = .ok (.iload_n 1, 1) := by decide +kernel
theorem k6_85 : decode (gb 6) 85 = .ok (.bipush 24, 2) := by decide +kernel
theorem k6_87 : decode (gb 6) 87 = .ok (.if_icmp .ge 12, 3) := by decide +kernel
theorem k6_90 : decode (gb 6) 90 = .ok (.aload_n 0, 1) := by decide +kernel
theorem k6_91 : decode (gb 6) 91 = .ok (.getfield 38, 3) := by decide +kernel
theorem k6_94 : decode (gb 6) 94 = .ok (.iload_n 1, 1) := by decide +kernel
theorem k6_95 : decode (gb 6) 95 = .ok (.iaload, 1) := by decide +kernel
theorem k6_96 : decode (gb 6) 96 = .ok (.goto 4, 3) := by decide +kernel
theorem k6_99 : decode (gb 6) 99 = .ok (.iconst 0, 1) := by decide +kernel
theorem k6_100 : decode (gb 6) 100 = .ok (.ireturn, 1) := by decide +kernel
/-- Board.valueOf(I)I -/
def f6 (p1 : Int32) (μ : Mem) : Option (Mem × Int32) :=
  if p1 = (16 : Int32) then
    some (μ, (μ.1 9 8))
  else if p1 = (17 : Int32) then
    some (μ, (μ.1 9 9))
  else if p1 = (18 : Int32) then
    if p1 < 0 then
      some (μ, (0 : Int32))
    else
      if (24 : Int32) ≤ p1 then
        some (μ, (0 : Int32))
      else
        (ldA 124 p1 μ).bind fun x5 =>
        some (μ, x5)
  else if p1 = (19 : Int32) then
    if p1 < 0 then
      some (μ, (0 : Int32))
    else
      if (24 : Int32) ≤ p1 then
        some (μ, (0 : Int32))
      else
        (ldA 124 p1 μ).bind fun x10 =>
        some (μ, x10)
  else if p1 = (20 : Int32) then
    if p1 < 0 then
      some (μ, (0 : Int32))
    else
      if (24 : Int32) ≤ p1 then
        some (μ, (0 : Int32))
      else
        (ldA 124 p1 μ).bind fun x15 =>
        some (μ, x15)
  else if p1 = (21 : Int32) then
    some (μ, (μ.1 108 5))
  else if p1 = (22 : Int32) then
    if p1 < 0 then
      some (μ, (0 : Int32))
    else
      if (24 : Int32) ≤ p1 then
        some (μ, (0 : Int32))
      else
        (ldA 124 p1 μ).bind fun x21 =>
        some (μ, x21)
  else if p1 = (23 : Int32) then
    some (μ, (μ.1 57 12))
  else 
    if p1 < 0 then
      some (μ, (0 : Int32))
    else
      if (24 : Int32) ≤ p1 then
        some (μ, (0 : Int32))
      else
        (ldA 124 p1 μ).bind fun x27 =>
        some (μ, x27)
theorem ok6 {L : Nat} (p1 : Int32) (μ : Mem) (res : Mem × Int32) (h : f6 p1 μ = some res) : Mx 6 [.ref 101, .int p1] (mk L μ) (mk L res.1, some (.int res.2)) := by
  refine Mx_of ml_6 (by rw [mx_6]; exact Nat.le_of_ble_eq_true rfl) ?_
  show Sx 6 0 [(0, .ref 101), (1, .int p1)] [] 0 0 (mk L μ) _
  unfold f6 at h
  refine sx_iload_n (i := 1) k6_0 rfl rfl ?_
  by_cases hb1 : p1 = (16 : Int32)
  · rw [if_pos hb1] at h
    refine sx_tableIn (off := 47) (tgt := 48) k6_1 (by rw [hb1]; decide) (by rw [hb1]; decide) (by rw [hb1]; rfl) (by decide) ?_
    refine sx_aload_n (i := 0) k6_48 rfl rfl ?_
    refine cx_getR (k := 1) k6_49 ow_6 fl_1_55 (by decide) sk_101 ft_0_1 sr_101_1 ?_
    refine cx_getI (k := 8) k6_52 ow_6 fl_1_66 (by decide) sk_9 ft_9_8 ?_
    exact cx_reti k6_55 rt_6 h
  · rw [if_neg hb1] at h
    by_cases hb2 : p1 = (17 : Int32)
    · rw [if_pos hb2] at h
      refine sx_tableIn (off := 55) (tgt := 56) k6_1 (by rw [hb2]; decide) (by rw [hb2]; decide) (by rw [hb2]; rfl) (by decide) ?_
      refine sx_aload_n (i := 0) k6_56 rfl rfl ?_
      refine cx_getR (k := 1) k6_57 ow_6 fl_1_55 (by decide) sk_101 ft_0_1 sr_101_1 ?_
      refine cx_getI (k := 9) k6_60 ow_6 fl_1_72 (by decide) sk_9 ft_9_9 ?_
      exact cx_reti k6_63 rt_6 h
    · rw [if_neg hb2] at h
      by_cases hb7 : p1 = (18 : Int32)
      · rw [if_pos hb7] at h
        refine sx_tableIn (off := 79) (tgt := 80) k6_1 (by rw [hb7]; decide) (by rw [hb7]; decide) (by rw [hb7]; rfl) (by decide) ?_
        refine sx_iload_n (i := 1) k6_80 rfl rfl ?_
        by_cases hb3 : p1 < 0
        · rw [if_pos hb3] at h
          refine sx_if_lt (tgt := 99) k6_81 (by decide) (fun _ => ?_) (fun q => absurd hb3 q)
          refine sx_iconst (v := 0) k6_99 (by decide) ?_
          exact cx_reti k6_100 rt_6 h
        · rw [if_neg hb3] at h
          refine sx_if_lt (tgt := 99) k6_81 (by decide) (fun q => absurd q hb3) (fun _ => ?_)
          refine sx_iload_n (i := 1) k6_84 rfl rfl ?_
          refine sx_bipush (v := 24) k6_85 (by decide) ?_
          by_cases hb4 : (24 : Int32) ≤ p1
          · rw [if_pos hb4] at h
            refine sx_icmp_ge (tgt := 99) k6_87 (by decide) (fun _ => ?_) (fun q => absurd hb4 q)
            refine sx_iconst (v := 0) k6_99 (by decide) ?_
            exact cx_reti k6_100 rt_6 h
          · rw [if_neg hb4] at h
            refine sx_icmp_ge (tgt := 99) k6_87 (by decide) (fun q => absurd q hb4) (fun _ => ?_)
            refine sx_aload_n (i := 0) k6_90 rfl rfl ?_
            refine cx_getR (k := 7) k6_91 ow_6 fl_1_38 (by decide) sk_101 ft_0_7 sr_101_7 ?_
            refine sx_iload_n (i := 1) k6_94 rfl rfl ?_
            obtain ⟨x5, e6, h⟩ := Option.bind_eq_some_iff.mp h
            refine cx_iald k6_95 sk_124 e6 ?_
            refine sx_goto (tgt := 100) k6_96 (by decide) ?_
            exact cx_reti k6_100 rt_6 h
      · rw [if_neg hb7] at h
        by_cases hb12 : p1 = (19 : Int32)
        · rw [if_pos hb12] at h
          refine sx_tableIn (off := 79) (tgt := 80) k6_1 (by rw [hb12]; decide) (by rw [hb12]; decide) (by rw [hb12]; rfl) (by decide) ?_
          refine sx_iload_n (i := 1) k6_80 rfl rfl ?_
          by_cases hb8 : p1 < 0
          · rw [if_pos hb8] at h
            refine sx_if_lt (tgt := 99) k6_81 (by decide) (fun _ => ?_) (fun q => absurd hb8 q)
            refine sx_iconst (v := 0) k6_99 (by decide) ?_
            exact cx_reti k6_100 rt_6 h
          · rw [if_neg hb8] at h
            refine sx_if_lt (tgt := 99) k6_81 (by decide) (fun q => absurd q hb8) (fun _ => ?_)
            refine sx_iload_n (i := 1) k6_84 rfl rfl ?_
            refine sx_bipush (v := 24) k6_85 (by decide) ?_
            by_cases hb9 : (24 : Int32) ≤ p1
            · rw [if_pos hb9] at h
              refine sx_icmp_ge (tgt := 99) k6_87 (by decide) (fun _ => ?_) (fun q => absurd hb9 q)
              refine sx_iconst (v := 0) k6_99 (by decide) ?_
              exact cx_reti k6_100 rt_6 h
            · rw [if_neg hb9] at h
              refine sx_icmp_ge (tgt := 99) k6_87 (by decide) (fun q => absurd q hb9) (fun _ => ?_)
              refine sx_aload_n (i := 0) k6_90 rfl rfl ?_
              refine cx_getR (k := 7) k6_91 ow_6 fl_1_38 (by decide) sk_101 ft_0_7 sr_101_7 ?_
              refine sx_iload_n (i := 1) k6_94 rfl rfl ?_
              obtain ⟨x10, e11, h⟩ := Option.bind_eq_some_iff.mp h
              refine cx_iald k6_95 sk_124 e11 ?_
              refine sx_goto (tgt := 100) k6_96 (by decide) ?_
              exact cx_reti k6_100 rt_6 h
        · rw [if_neg hb12] at h
          by_cases hb17 : p1 = (20 : Int32)
          · rw [if_pos hb17] at h
            refine sx_tableIn (off := 79) (tgt := 80) k6_1 (by rw [hb17]; decide) (by rw [hb17]; decide) (by rw [hb17]; rfl) (by decide) ?_
            refine sx_iload_n (i := 1) k6_80 rfl rfl ?_
            by_cases hb13 : p1 < 0
            · rw [if_pos hb13] at h
              refine sx_if_lt (tgt := 99) k6_81 (by decide) (fun _ => ?_) (fun q => absurd hb13 q)
              refine sx_iconst (v := 0) k6_99 (by decide) ?_
              exact cx_reti k6_100 rt_6 h
            · rw [if_neg hb13] at h
              refine sx_if_lt (tgt := 99) k6_81 (by decide) (fun q => absurd q hb13) (fun _ => ?_)
              refine sx_iload_n (i := 1) k6_84 rfl rfl ?_
              refine sx_bipush (v := 24) k6_85 (by decide) ?_
              by_cases hb14 : (24 : Int32) ≤ p1
              · rw [if_pos hb14] at h
                refine sx_icmp_ge (tgt := 99) k6_87 (by decide) (fun _ => ?_) (fun q => absurd hb14 q)
                refine sx_iconst (v := 0) k6_99 (by decide) ?_
                exact cx_reti k6_100 rt_6 h
              · rw [if_neg hb14] at h
                refine sx_icmp_ge (tgt := 99) k6_87 (by decide) (fun q => absurd q hb14) (fun _ => ?_)
                refine sx_aload_n (i := 0) k6_90 rfl rfl ?_
                refine cx_getR (k := 7) k6_91 ow_6 fl_1_38 (by decide) sk_101 ft_0_7 sr_101_7 ?_
                refine sx_iload_n (i := 1) k6_94 rfl rfl ?_
                obtain ⟨x15, e16, h⟩ := Option.bind_eq_some_iff.mp h
                refine cx_iald k6_95 sk_124 e16 ?_
                refine sx_goto (tgt := 100) k6_96 (by decide) ?_
                exact cx_reti k6_100 rt_6 h
          · rw [if_neg hb17] at h
            by_cases hb18 : p1 = (21 : Int32)
            · rw [if_pos hb18] at h
              refine sx_tableIn (off := 63) (tgt := 64) k6_1 (by rw [hb18]; decide) (by rw [hb18]; decide) (by rw [hb18]; rfl) (by decide) ?_
              refine sx_aload_n (i := 0) k6_64 rfl rfl ?_
              refine cx_getR (k := 3) k6_65 ow_6 fl_1_20 (by decide) sk_101 ft_0_3 sr_101_3 ?_
              refine cx_getI (k := 5) k6_68 ow_6 fl_1_75 (by decide) sk_108 ft_7_5 ?_
              exact cx_reti k6_71 rt_6 h
            · rw [if_neg hb18] at h
              by_cases hb23 : p1 = (22 : Int32)
              · rw [if_pos hb23] at h
                refine sx_tableIn (off := 79) (tgt := 80) k6_1 (by rw [hb23]; decide) (by rw [hb23]; decide) (by rw [hb23]; rfl) (by decide) ?_
                refine sx_iload_n (i := 1) k6_80 rfl rfl ?_
                by_cases hb19 : p1 < 0
                · rw [if_pos hb19] at h
                  refine sx_if_lt (tgt := 99) k6_81 (by decide) (fun _ => ?_) (fun q => absurd hb19 q)
                  refine sx_iconst (v := 0) k6_99 (by decide) ?_
                  exact cx_reti k6_100 rt_6 h
                · rw [if_neg hb19] at h
                  refine sx_if_lt (tgt := 99) k6_81 (by decide) (fun q => absurd q hb19) (fun _ => ?_)
                  refine sx_iload_n (i := 1) k6_84 rfl rfl ?_
                  refine sx_bipush (v := 24) k6_85 (by decide) ?_
                  by_cases hb20 : (24 : Int32) ≤ p1
                  · rw [if_pos hb20] at h
                    refine sx_icmp_ge (tgt := 99) k6_87 (by decide) (fun _ => ?_) (fun q => absurd hb20 q)
                    refine sx_iconst (v := 0) k6_99 (by decide) ?_
                    exact cx_reti k6_100 rt_6 h
                  · rw [if_neg hb20] at h
                    refine sx_icmp_ge (tgt := 99) k6_87 (by decide) (fun q => absurd q hb20) (fun _ => ?_)
                    refine sx_aload_n (i := 0) k6_90 rfl rfl ?_
                    refine cx_getR (k := 7) k6_91 ow_6 fl_1_38 (by decide) sk_101 ft_0_7 sr_101_7 ?_
                    refine sx_iload_n (i := 1) k6_94 rfl rfl ?_
                    obtain ⟨x21, e22, h⟩ := Option.bind_eq_some_iff.mp h
                    refine cx_iald k6_95 sk_124 e22 ?_
                    refine sx_goto (tgt := 100) k6_96 (by decide) ?_
                    exact cx_reti k6_100 rt_6 h
              · rw [if_neg hb23] at h
                by_cases hb24 : p1 = (23 : Int32)
                · rw [if_pos hb24] at h
                  refine sx_tableIn (off := 71) (tgt := 72) k6_1 (by rw [hb24]; decide) (by rw [hb24]; decide) (by rw [hb24]; rfl) (by decide) ?_
                  refine sx_aload_n (i := 0) k6_72 rfl rfl ?_
                  refine cx_getR (k := 0) k6_73 ow_6 fl_1_51 (by decide) sk_101 ft_0_0 sr_101_0 ?_
                  refine cx_getI (k := 12) k6_76 ow_6 fl_1_78 (by decide) sk_57 ft_5_12 ?_
                  exact cx_reti k6_79 rt_6 h
                · rw [if_neg hb24] at h
                  refine sx_tableOut (tgt := 80) k6_1 (sw_out (n := 8) (fun j hj => ?_)) (by decide) ?_
                  · intro hj2
                    exact sw_no [(16 : Int32), (17 : Int32), (18 : Int32), (19 : Int32), (20 : Int32), (21 : Int32), (22 : Int32), (23 : Int32)] (by decide) hj hj2 ⟨hb1, hb2, hb7, hb12, hb17, hb18, hb23, hb24, trivial⟩
                  ·
                    refine sx_iload_n (i := 1) k6_80 rfl rfl ?_
                    by_cases hb25 : p1 < 0
                    · rw [if_pos hb25] at h
                      refine sx_if_lt (tgt := 99) k6_81 (by decide) (fun _ => ?_) (fun q => absurd hb25 q)
                      refine sx_iconst (v := 0) k6_99 (by decide) ?_
                      exact cx_reti k6_100 rt_6 h
                    · rw [if_neg hb25] at h
                      refine sx_if_lt (tgt := 99) k6_81 (by decide) (fun q => absurd q hb25) (fun _ => ?_)
                      refine sx_iload_n (i := 1) k6_84 rfl rfl ?_
                      refine sx_bipush (v := 24) k6_85 (by decide) ?_
                      by_cases hb26 : (24 : Int32) ≤ p1
                      · rw [if_pos hb26] at h
                        refine sx_icmp_ge (tgt := 99) k6_87 (by decide) (fun _ => ?_) (fun q => absurd hb26 q)
                        refine sx_iconst (v := 0) k6_99 (by decide) ?_
                        exact cx_reti k6_100 rt_6 h
                      · rw [if_neg hb26] at h
                        refine sx_icmp_ge (tgt := 99) k6_87 (by decide) (fun q => absurd q hb26) (fun _ => ?_)
                        refine sx_aload_n (i := 0) k6_90 rfl rfl ?_
                        refine cx_getR (k := 7) k6_91 ow_6 fl_1_38 (by decide) sk_101 ft_0_7 sr_101_7 ?_
                        refine sx_iload_n (i := 1) k6_94 rfl rfl ?_
                        obtain ⟨x27, e28, h⟩ := Option.bind_eq_some_iff.mp h
                        refine cx_iald k6_95 sk_124 e28 ?_
                        refine sx_goto (tgt := 100) k6_96 (by decide) ?_
                        exact cx_reti k6_100 rt_6 h
theorem k7_0 : decode (gb 7) 0 = .ok (.aload_n 0, 1) := by decide +kernel
theorem k7_1 : decode (gb 7) 1 = .ok (.getfield 83, 3) := by decide +kernel
theorem k7_4 : decode (gb 7) 4 = .ok (.iload_n 1, 1) := by decide +kernel
theorem k7_5 : decode (gb 7) 5 = .ok (.ishr, 1) := by decide +kernel
theorem k7_6 : decode (gb 7) 6 = .ok (.iconst 1, 1) := by decide +kernel
theorem k7_7 : decode (gb 7) 7 = .ok (.iand, 1) := by decide +kernel
theorem k7_8 : decode (gb 7) 8 = .ok (.ifCond .ne 7, 3) := by decide +kernel
theorem k7_11 : decode (gb 7) 11 = .ok (.iconst 1, 1) := by decide +kernel
theorem k7_12 : decode (gb 7) 12 = .ok (.goto 4, 3) := by decide +kernel
theorem k7_15 : decode (gb 7) 15 = .ok (.iconst 0, 1) := by decide +kernel
theorem k7_16 : decode (gb 7) 16 = .ok (.ireturn, 1) := by decide +kernel
/-- Board.tellsEvent(I)Z -/
def f7 (p1 : Int32) (μ : Mem) : Option (Mem × Int32) :=
  if ((jshr (μ.1 101 11) p1) &&& (1 : Int32)) = 0 then
    rtZ (1 : Int32) μ
  else
    rtZ (0 : Int32) μ
theorem ok7 {L : Nat} (p1 : Int32) (μ : Mem) (res : Mem × Int32) (h : f7 p1 μ = some res) : Mx 7 [.ref 101, .int p1] (mk L μ) (mk L res.1, some (.int res.2)) := by
  refine Mx_of ml_7 (by rw [mx_7]; exact Nat.le_of_ble_eq_true rfl) ?_
  show Sx 7 0 [(0, .ref 101), (1, .int p1)] [] 0 0 (mk L μ) _
  unfold f7 at h
  refine sx_aload_n (i := 0) k7_0 rfl rfl ?_
  refine cx_getI (k := 11) k7_1 ow_7 fl_1_83 (by decide) sk_101 ft_0_11 ?_
  refine sx_iload_n (i := 1) k7_4 rfl rfl ?_
  refine sx_ishr k7_5 ?_
  refine sx_iconst (v := 1) k7_6 (by decide) ?_
  refine sx_iand k7_7 ?_
  by_cases hb1 : ((jshr (μ.1 101 11) p1) &&& (1 : Int32)) = 0
  · rw [if_pos hb1] at h
    refine sx_if_ne (tgt := 15) k7_8 (by decide) (fun q => absurd hb1 q) (fun _ => ?_)
    refine sx_iconst (v := 1) k7_11 (by decide) ?_
    refine sx_goto (tgt := 16) k7_12 (by decide) ?_
    exact cx_retz k7_16 rt_7 h
  · rw [if_neg hb1] at h
    refine sx_if_ne (tgt := 15) k7_8 (by decide) (fun _ => ?_) (fun q => absurd q hb1)
    refine sx_iconst (v := 0) k7_15 (by decide) ?_
    exact cx_retz k7_16 rt_7 h
theorem k8_0 : decode (gb 8) 0 = .ok (.aload_n 0, 1) := by decide +kernel
theorem k8_1 : decode (gb 8) 1 = .ok (.getfield 86, 3) := by decide +kernel
theorem k8_4 : decode (gb 8) 4 = .ok (.iload_n 1, 1) := by decide +kernel
theorem k8_5 : decode (gb 8) 5 = .ok (.ishr, 1) := by decide +kernel
theorem k8_6 : decode (gb 8) 6 = .ok (.iconst 1, 1) := by decide +kernel
theorem k8_7 : decode (gb 8) 7 = .ok (.iand, 1) := by decide +kernel
theorem k8_8 : decode (gb 8) 8 = .ok (.ifCond .ne 7, 3) := by decide +kernel
theorem k8_11 : decode (gb 8) 11 = .ok (.iconst 1, 1) := by decide +kernel
theorem k8_12 : decode (gb 8) 12 = .ok (.goto 4, 3) := by decide +kernel
theorem k8_15 : decode (gb 8) 15 = .ok (.iconst 0, 1) := by decide +kernel
theorem k8_16 : decode (gb 8) 16 = .ok (.ireturn, 1) := by decide +kernel
/-- Board.groupIsOn(I)Z -/
def f8 (p1 : Int32) (μ : Mem) : Option (Mem × Int32) :=
  if ((jshr (μ.1 101 12) p1) &&& (1 : Int32)) = 0 then
    rtZ (1 : Int32) μ
  else
    rtZ (0 : Int32) μ
theorem ok8 {L : Nat} (p1 : Int32) (μ : Mem) (res : Mem × Int32) (h : f8 p1 μ = some res) : Mx 8 [.ref 101, .int p1] (mk L μ) (mk L res.1, some (.int res.2)) := by
  refine Mx_of ml_8 (by rw [mx_8]; exact Nat.le_of_ble_eq_true rfl) ?_
  show Sx 8 0 [(0, .ref 101), (1, .int p1)] [] 0 0 (mk L μ) _
  unfold f8 at h
  refine sx_aload_n (i := 0) k8_0 rfl rfl ?_
  refine cx_getI (k := 12) k8_1 ow_8 fl_1_86 (by decide) sk_101 ft_0_12 ?_
  refine sx_iload_n (i := 1) k8_4 rfl rfl ?_
  refine sx_ishr k8_5 ?_
  refine sx_iconst (v := 1) k8_6 (by decide) ?_
  refine sx_iand k8_7 ?_
  by_cases hb1 : ((jshr (μ.1 101 12) p1) &&& (1 : Int32)) = 0
  · rw [if_pos hb1] at h
    refine sx_if_ne (tgt := 15) k8_8 (by decide) (fun q => absurd hb1 q) (fun _ => ?_)
    refine sx_iconst (v := 1) k8_11 (by decide) ?_
    refine sx_goto (tgt := 16) k8_12 (by decide) ?_
    exact cx_retz k8_16 rt_8 h
  · rw [if_neg hb1] at h
    refine sx_if_ne (tgt := 15) k8_8 (by decide) (fun _ => ?_) (fun q => absurd q hb1)
    refine sx_iconst (v := 0) k8_15 (by decide) ?_
    exact cx_retz k8_16 rt_8 h
theorem k9_0 : decode (gb 9) 0 = .ok (.iload_n 1, 1) := by decide +kernel
theorem k9_1 : decode (gb 9) 1 = .ok (.ifCond .ne 11, 3) := by decide +kernel
theorem k9_4 : decode (gb 9) 4 = .ok (.aload_n 0, 1) := by decide +kernel
theorem k9_5 : decode (gb 9) 5 = .ok (.getfield 20, 3) := by decide +kernel
theorem k9_8 : decode (gb 9) 8 = .ok (.getfield 75, 3) := by decide +kernel
theorem k9_11 : decode (gb 9) 11 = .ok (.ireturn, 1) := by decide +kernel
theorem k9_12 : decode (gb 9) 12 = .ok (.iload_n 1, 1) := by decide +kernel
theorem k9_13 : decode (gb 9) 13 = .ok (.iconst 1, 1) := by decide +kernel
theorem k9_14 : decode (gb 9) 14 = .ok (.if_icmp .ne 16, 3) := by decide +kernel
theorem k9_17 : decode (gb 9) 17 = .ok (.aload_n 0, 1) := by decide +kernel
theorem k9_18 : decode (gb 9) 18 = .ok (.getfield 89, 3) := by decide +kernel
theorem k9_21 : decode (gb 9) 21 = .ok (.ifCond .eq 7, 3) := by decide +kernel
theorem k9_24 : decode (gb 9) 24 = .ok (.iconst 1, 1) := by decide +kernel
theorem k9_25 : decode (gb 9) 25 = .ok (.goto 4, 3) := by decide +kernel
theorem k9_28 : decode (gb 9) 28 = .ok (.iconst 0, 1) := by decide +kernel
theorem k9_29 : decode (gb 9) 29 = .ok (.ireturn, 1) := by decide +kernel
theorem k9_30 : decode (gb 9) 30 = .ok (.iload_n 1, 1) := by decide +kernel
theorem k9_31 : decode (gb 9) 31 = .ok (.iconst 2, 1) := by decide +kernel
theorem k9_32 : decode (gb 9) 32 = .ok (.if_icmp .lt 8, 3) := by decide +kernel
theorem k9_35 : decode (gb 9) 35 = .ok (.iload_n 1, 1) := by decide +kernel
theorem k9_36 : decode (gb 9) 36 = .ok (.iconst 5, 1) := by decide +kernel
theorem k9_37 : decode (gb 9) 37 = .ok (.if_icmp .le 5, 3) := by decide +kernel
theorem k9_40 : decode (gb 9) 40 = .ok (.iconst (-1), 1) := by decide +kernel
theorem k9_41 : decode (gb 9) 41 = .ok (.ireturn, 1) := by decide +kernel
theorem k9_42 : decode (gb 9) 42 = .ok (.aload_n 0, 1) := by decide +kernel
theorem k9_43 : decode (gb 9) 43 = .ok (.iload_n 1, 1) := by decide +kernel
theorem k9_44 : decode (gb 9) 44 = .ok (.iconst 2, 1) := by decide +kernel
theorem k9_45 : decode (gb 9) 45 = .ok (.isub, 1) := by decide +kernel
theorem k9_46 : decode (gb 9) 46 = .ok (.invokevirtual 93, 3) := by decide +kernel
theorem k9_49 : decode (gb 9) 49 = .ok (.ifCond .eq 7, 3) := by decide +kernel
theorem k9_52 : decode (gb 9) 52 = .ok (.iconst 1, 1) := by decide +kernel
theorem k9_53 : decode (gb 9) 53 = .ok (.goto 4, 3) := by decide +kernel
theorem k9_56 : decode (gb 9) 56 = .ok (.iconst 0, 1) := by decide +kernel
theorem k9_57 : decode (gb 9) 57 = .ok (.ireturn, 1) := by decide +kernel
/-- Board.tellSchedule(I)I -/
def f9 (p1 : Int32) (μ : Mem) : Option (Mem × Int32) :=
  if p1 = 0 then
    some (μ, (μ.1 108 5))
  else
    if p1 = (1 : Int32) then
      if (μ.1 101 13) = 0 then
        some (μ, (0 : Int32))
      else
        some (μ, (1 : Int32))
    else
      if p1 < (2 : Int32) then
        some (μ, (-1 : Int32))
      else
        if p1 ≤ (5 : Int32) then
          (f8 (p1 - (2 : Int32)) μ).bind fun r5 =>
          if r5.2 = 0 then
            some (r5.1, (0 : Int32))
          else
            some (r5.1, (1 : Int32))
        else
          some (μ, (-1 : Int32))
theorem ok9 {L : Nat} (p1 : Int32) (μ : Mem) (res : Mem × Int32) (h : f9 p1 μ = some res) : Mx 9 [.ref 101, .int p1] (mk L μ) (mk L res.1, some (.int res.2)) := by
  refine Mx_of ml_9 (by rw [mx_9]; exact Nat.le_of_ble_eq_true rfl) ?_
  show Sx 9 0 [(0, .ref 101), (1, .int p1)] [] 0 0 (mk L μ) _
  unfold f9 at h
  refine sx_iload_n (i := 1) k9_0 rfl rfl ?_
  by_cases hb1 : p1 = 0
  · rw [if_pos hb1] at h
    refine sx_if_ne (tgt := 12) k9_1 (by decide) (fun q => absurd hb1 q) (fun _ => ?_)
    refine sx_aload_n (i := 0) k9_4 rfl rfl ?_
    refine cx_getR (k := 3) k9_5 ow_9 fl_1_20 (by decide) sk_101 ft_0_3 sr_101_3 ?_
    refine cx_getI (k := 5) k9_8 ow_9 fl_1_75 (by decide) sk_108 ft_7_5 ?_
    exact cx_reti k9_11 rt_9 h
  · rw [if_neg hb1] at h
    refine sx_if_ne (tgt := 12) k9_1 (by decide) (fun _ => ?_) (fun q => absurd q hb1)
    refine sx_iload_n (i := 1) k9_12 rfl rfl ?_
    refine sx_iconst (v := 1) k9_13 (by decide) ?_
    by_cases hb2 : p1 = (1 : Int32)
    · rw [if_pos hb2] at h
      refine sx_icmp_ne (tgt := 30) k9_14 (by decide) (fun q => absurd hb2 q) (fun _ => ?_)
      refine sx_aload_n (i := 0) k9_17 rfl rfl ?_
      refine cx_getI (k := 13) k9_18 ow_9 fl_1_89 (by decide) sk_101 ft_0_13 ?_
      by_cases hb8 : (μ.1 101 13) = 0
      · rw [if_pos hb8] at h
        refine sx_if_eq (tgt := 28) k9_21 (by decide) (fun _ => ?_) (fun q => absurd hb8 q)
        refine sx_iconst (v := 0) k9_28 (by decide) ?_
        exact cx_reti k9_29 rt_9 h
      · rw [if_neg hb8] at h
        refine sx_if_eq (tgt := 28) k9_21 (by decide) (fun q => absurd q hb8) (fun _ => ?_)
        refine sx_iconst (v := 1) k9_24 (by decide) ?_
        refine sx_goto (tgt := 29) k9_25 (by decide) ?_
        exact cx_reti k9_29 rt_9 h
    · rw [if_neg hb2] at h
      refine sx_icmp_ne (tgt := 30) k9_14 (by decide) (fun _ => ?_) (fun q => absurd q hb2)
      refine sx_iload_n (i := 1) k9_30 rfl rfl ?_
      refine sx_iconst (v := 2) k9_31 (by decide) ?_
      by_cases hb3 : p1 < (2 : Int32)
      · rw [if_pos hb3] at h
        refine sx_icmp_lt (tgt := 40) k9_32 (by decide) (fun _ => ?_) (fun q => absurd hb3 q)
        refine sx_iconst (v := -1) k9_40 (by decide) ?_
        exact cx_reti k9_41 rt_9 h
      · rw [if_neg hb3] at h
        refine sx_icmp_lt (tgt := 40) k9_32 (by decide) (fun q => absurd q hb3) (fun _ => ?_)
        refine sx_iload_n (i := 1) k9_35 rfl rfl ?_
        refine sx_iconst (v := 5) k9_36 (by decide) ?_
        by_cases hb4 : p1 ≤ (5 : Int32)
        · rw [if_pos hb4] at h
          refine sx_icmp_le (tgt := 42) k9_37 (by decide) (fun _ => ?_) (fun q => absurd hb4 q)
          refine sx_aload_n (i := 0) k9_42 rfl rfl ?_
          refine sx_iload_n (i := 1) k9_43 rfl rfl ?_
          refine sx_iconst (v := 2) k9_44 (by decide) ?_
          refine sx_isub k9_45 ?_
          obtain ⟨r5, e6, h⟩ := Option.bind_eq_some_iff.mp h
          refine cx_V (sk := []) (vs := [.int (p1 - (2 : Int32))]) st_9_8 k9_46 ow_9 cl_1_93 (by decide) rfl (Nat.le_of_ble_eq_true rfl) sk_101 (ok8 (p1 - (2 : Int32)) _ _ e6) (sk3 := [.int r5.2]) rfl rfl ?_
          by_cases hb7 : r5.2 = 0
          · rw [if_pos hb7] at h
            refine sx_if_eq (tgt := 56) k9_49 (by decide) (fun _ => ?_) (fun q => absurd hb7 q)
            refine sx_iconst (v := 0) k9_56 (by decide) ?_
            exact cx_reti k9_57 rt_9 h
          · rw [if_neg hb7] at h
            refine sx_if_eq (tgt := 56) k9_49 (by decide) (fun q => absurd q hb7) (fun _ => ?_)
            refine sx_iconst (v := 1) k9_52 (by decide) ?_
            refine sx_goto (tgt := 57) k9_53 (by decide) ?_
            exact cx_reti k9_57 rt_9 h
        · rw [if_neg hb4] at h
          refine sx_icmp_le (tgt := 42) k9_37 (by decide) (fun q => absurd q hb4) (fun _ => ?_)
          refine sx_iconst (v := -1) k9_40 (by decide) ?_
          exact cx_reti k9_41 rt_9 h
theorem k13_0 : decode (gb 13) 0 = .ok (.bipush (-4), 2) := by decide +kernel
theorem k13_2 : decode (gb 13) 2 = .ok (.istore_n 1, 1) := by decide +kernel
theorem k13_3 : decode (gb 13) 3 = .ok (.iconst 0, 1) := by decide +kernel
theorem k13_4 : decode (gb 13) 4 = .ok (.istore_n 2, 1) := by decide +kernel
theorem k13_5 : decode (gb 13) 5 = .ok (.iload_n 2, 1) := by decide +kernel
theorem k13_6 : decode (gb 13) 6 = .ok (.bipush 6, 2) := by decide +kernel
theorem k13_8 : decode (gb 13) 8 = .ok (.iadd, 1) := by decide +kernel
theorem k13_9 : decode (gb 13) 9 = .ok (.getstatic 144, 3) := by decide +kernel
theorem k13_12 : decode (gb 13) 12 = .ok (.arraylength, 1) := by decide +kernel
theorem k13_13 : decode (gb 13) 13 = .ok (.if_icmp .gt 50, 3) := by decide +kernel
theorem k13_16 : decode (gb 13) 16 = .ok (.getstatic 144, 3) := by decide +kernel
theorem k13_19 : decode (gb 13) 19 = .ok (.iload_n 2, 1) := by decide +kernel
theorem k13_20 : decode (gb 13) 20 = .ok (.iaload, 1) := by decide +kernel
theorem k13_21 : decode (gb 13) 21 = .ok (.aload_n 0, 1) := by decide +kernel
theorem k13_22 : decode (gb 13) 22 = .ok (.getfield 31, 3) := by decide +kernel
theorem k13_25 : decode (gb 13) 25 = .ok (.bipush 7, 2) := by decide +kernel
theorem k13_27 : decode (gb 13) 27 = .ok (.invokevirtual 105, 3) := by decide +kernel
theorem k13_30 : decode (gb 13) 30 = .ok (.if_icmp .ne 27, 3) := by decide +kernel
theorem k13_33 : decode (gb 13) 33 = .ok (.getstatic 144, 3) := by decide +kernel
theorem k13_36 : decode (gb 13) 36 = .ok (.iload_n 2, 1) := by decide +kernel
theorem k13_37 : decode (gb 13) 37 = .ok (.iconst 1, 1) := by decide +kernel
theorem k13_38 : decode (gb 13) 38 = .ok (.iadd, 1) := by decide +kernel
theorem k13_39 : decode (gb 13) 39 = .ok (.iaload, 1) := by decide +kernel
theorem k13_40 : decode (gb 13) 40 = .ok (.aload_n 0, 1) := by decide +kernel
theorem k13_41 : decode (gb 13) 41 = .ok (.getfield 31, 3) := by decide +kernel
theorem k13_44 : decode (gb 13) 44 = .ok (.bipush 8, 2) := by decide +kernel
theorem k13_46 : decode (gb 13) 46 = .ok (.invokevirtual 105, 3) := by decide +kernel
theorem k13_49 : decode (gb 13) 49 = .ok (.if_icmp .ne 5, 3) := by decide +kernel
theorem k13_52 : decode (gb 13) 52 = .ok (.iload_n 2, 1) := by decide +kernel
theorem k13_53 : decode (gb 13) 53 = .ok (.ireturn, 1) := by decide +kernel
theorem k13_54 : decode (gb 13) 54 = .ok (.bipush (-5), 2) := by decide +kernel
theorem k13_56 : decode (gb 13) 56 = .ok (.istore_n 1, 1) := by decide +kernel
theorem k13_57 : decode (gb 13) 57 = .ok (.iinc 2 6, 3) := by decide +kernel
theorem k13_60 : decode (gb 13) 60 = .ok (.goto (-55), 3) := by decide +kernel
theorem k13_63 : decode (gb 13) 63 = .ok (.iload_n 1, 1) := by decide +kernel
theorem k13_64 : decode (gb 13) 64 = .ok (.ireturn, 1) := by decide +kernel
def c13_57 (kl5 : Int32 → Int32 → Mem → Option (Mem × Int32)) (v1 : Int32) (v2 : Int32) (μ : Mem) : Option (Mem × Int32) :=
  nm (v2 + (6 : Int32)) fun x1 =>
  kl5 v1 x1 μ
theorem c13_57_ok {L : Nat} (kl5 : Int32 → Int32 → Mem → Option (Mem × Int32)) (hk5 : (∀ (v1 : Int32) (v2 : Int32) (μ : Mem) (res : Mem × Int32), kl5 v1 v2 μ = some res → Sx 13 5 [(0, .ref 101), (1, .int v1), (2, .int v2)] [] 0 0 (mk L μ) (mk L res.1, some (.int res.2)))) (v1 : Int32) (v2 : Int32) (μ : Mem) (res : Mem × Int32) (h : c13_57 kl5 v1 v2 μ = some res) : Sx 13 57 [(0, .ref 101), (1, .int v1), (2, .int v2)] [] 0 0 (mk L μ) (mk L res.1, some (.int res.2)) := by
  unfold c13_57 at h
  refine cx_iinc (c := 6) (lo2 := fun x1 => [(2, .int x1), (0, .ref 101), (1, .int v1)]) k13_57 rfl (by decide) (by rw [mx_13]; decide) (fun _ => rfl) h (fun x1 h => ?_)
  refine sx_goto (tgt := 5) k13_60 (by decide) ?_
  refine sx_pick (lo2 := [(0, .ref 101), (1, .int v1), (2, .int x1)]) [1, 2, 0] rfl ?_
  exact hk5 v1 x1 _ _ h
def b13_5 (kl5 : Int32 → Int32 → Mem → Option (Mem × Int32)) (v1 : Int32) (v2 : Int32) (μ : Mem) : Option (Mem × Int32) :=
  if (nI (gln 100002)) < (v2 + (6 : Int32)) then
    some (μ, v1)
  else
    (ldA 100002 v2 μ).bind fun x2 =>
    (f75 120 (7 : Int32) μ).bind fun r4 =>
    if x2 = r4.2 then
      (ldA 100002 (v2 + (1 : Int32)) r4.1).bind fun x7 =>
      (f75 120 (8 : Int32) r4.1).bind fun r9 =>
      if x7 = r9.2 then
        some (r9.1, v2)
      else
        c13_57 kl5 (-5 : Int32) v2 r9.1
    else
      c13_57 kl5 v1 v2 r4.1
theorem b13_5_ok {L : Nat} (kl5 : Int32 → Int32 → Mem → Option (Mem × Int32)) (hk5 : (∀ (v1 : Int32) (v2 : Int32) (μ : Mem) (res : Mem × Int32), kl5 v1 v2 μ = some res → Sx 13 5 [(0, .ref 101), (1, .int v1), (2, .int v2)] [] 0 0 (mk L μ) (mk L res.1, some (.int res.2)))) (v1 : Int32) (v2 : Int32) (μ : Mem) (res : Mem × Int32) (h : b13_5 kl5 v1 v2 μ = some res) : Sx 13 5 [(0, .ref 101), (1, .int v1), (2, .int v2)] [] 0 0 (mk L μ) (mk L res.1, some (.int res.2)) := by
  unfold b13_5 at h
  refine sx_iload_n (i := 2) k13_5 rfl rfl ?_
  refine sx_bipush (v := 6) k13_6 (by decide) ?_
  refine sx_iadd k13_8 ?_
  refine cx_gets (j := 2) k13_9 ow_13 sl_1_144 (by decide) ?_
  refine cx_alenT k13_12 (by decide) ?_
  by_cases hb1 : (nI (gln 100002)) < (v2 + (6 : Int32))
  · rw [if_pos hb1] at h
    refine sx_icmp_gt (tgt := 63) k13_13 (by decide) (fun _ => ?_) (fun q => absurd hb1 q)
    refine sx_iload_n (i := 1) k13_63 rfl rfl ?_
    exact cx_reti k13_64 rt_13 h
  · rw [if_neg hb1] at h
    refine sx_icmp_gt (tgt := 63) k13_13 (by decide) (fun q => absurd q hb1) (fun _ => ?_)
    refine cx_gets (j := 2) k13_16 ow_13 sl_1_144 (by decide) ?_
    refine sx_iload_n (i := 2) k13_19 rfl rfl ?_
    obtain ⟨x2, e3, h⟩ := Option.bind_eq_some_iff.mp h
    refine cx_tald k13_20 (by decide) e3 ?_
    refine sx_aload_n (i := 0) k13_21 rfl rfl ?_
    refine cx_getR (k := 5) k13_22 ow_13 fl_1_31 (by decide) sk_101 ft_0_5 sr_101_5 ?_
    refine sx_bipush (v := 7) k13_25 (by decide) ?_
    obtain ⟨r4, e5, h⟩ := Option.bind_eq_some_iff.mp h
    refine cx_V (sk := [.int x2]) (vs := [.int (7 : Int32)]) st_13_75 k13_27 ow_13 cl_1_105 (by decide) rfl (Nat.le_of_ble_eq_true rfl) sk_120 (ok75 120 (7 : Int32) sk_120 _ _ e5) (sk3 := [.int r4.2, .int x2]) rfl rfl ?_
    by_cases hb6 : x2 = r4.2
    · rw [if_pos hb6] at h
      refine sx_icmp_ne (tgt := 57) k13_30 (by decide) (fun q => absurd hb6 q) (fun _ => ?_)
      refine cx_gets (j := 2) k13_33 ow_13 sl_1_144 (by decide) ?_
      refine sx_iload_n (i := 2) k13_36 rfl rfl ?_
      refine sx_iconst (v := 1) k13_37 (by decide) ?_
      refine sx_iadd k13_38 ?_
      obtain ⟨x7, e8, h⟩ := Option.bind_eq_some_iff.mp h
      refine cx_tald k13_39 (by decide) e8 ?_
      refine sx_aload_n (i := 0) k13_40 rfl rfl ?_
      refine cx_getR (k := 5) k13_41 ow_13 fl_1_31 (by decide) sk_101 ft_0_5 sr_101_5 ?_
      refine sx_bipush (v := 8) k13_44 (by decide) ?_
      obtain ⟨r9, e10, h⟩ := Option.bind_eq_some_iff.mp h
      refine cx_V (sk := [.int x7]) (vs := [.int (8 : Int32)]) st_13_75 k13_46 ow_13 cl_1_105 (by decide) rfl (Nat.le_of_ble_eq_true rfl) sk_120 (ok75 120 (8 : Int32) sk_120 _ _ e10) (sk3 := [.int r9.2, .int x7]) rfl rfl ?_
      by_cases hb11 : x7 = r9.2
      · rw [if_pos hb11] at h
        refine sx_icmp_ne (tgt := 54) k13_49 (by decide) (fun q => absurd hb11 q) (fun _ => ?_)
        refine sx_iload_n (i := 2) k13_52 rfl rfl ?_
        exact cx_reti k13_53 rt_13 h
      · rw [if_neg hb11] at h
        refine sx_icmp_ne (tgt := 54) k13_49 (by decide) (fun _ => ?_) (fun q => absurd q hb11)
        refine sx_bipush (v := -5) k13_54 (by decide) ?_
        refine cx_istore_n (lo2 := [(1, .int (-5 : Int32)), (0, .ref 101), (2, .int v2)]) k13_56 rfl (by rw [mx_13]; decide) rfl ?_
        refine sx_pick (lo2 := [(0, .ref 101), (1, .int (-5 : Int32)), (2, .int v2)]) [1, 0, 2] rfl ?_
        exact c13_57_ok kl5 hk5 (-5 : Int32) v2 _ _ h
    · rw [if_neg hb6] at h
      refine sx_icmp_ne (tgt := 57) k13_30 (by decide) (fun _ => ?_) (fun q => absurd q hb6)
      refine sx_pick (lo2 := [(0, .ref 101), (1, .int v1), (2, .int v2)]) [0, 1, 2] rfl ?_
      exact c13_57_ok kl5 hk5 v1 v2 _ _ h
def l13_5 : Nat → Int32 × Int32 × Mem → Option (Mem × Int32) :=
  fixN (fun self x => b13_5 (fun v1 v2 μ => self (v1, v2, μ)) (x.1) (x.2.1) (x.2.2))
theorem l13_5_ok {L : Nat} (n : Nat) (v1 : Int32) (v2 : Int32) (μ : Mem) (res : Mem × Int32) (h : l13_5 n (v1, v2, μ) = some res) : Sx 13 5 [(0, .ref 101), (1, .int v1), (2, .int v2)] [] 0 0 (mk L μ) (mk L res.1, some (.int res.2)) := by
  have key := fixN_ind (P := fun x res => Sx 13 5 [(0, .ref 101), (1, .int (x.1)), (2, .int (x.2.1))] [] 0 0 (mk L (x.2.2)) (mk L res.1, some (.int res.2))) (F := fun self x => b13_5 (fun v1 v2 μ => self (v1, v2, μ)) (x.1) (x.2.1) (x.2.2)) (fun self hself x res h => b13_5_ok (fun v1 v2 μ => self (v1, v2, μ)) (fun v1 v2 μ res hh => hself (v1, v2, μ) res hh) (x.1) (x.2.1) (x.2.2) res h) n (v1, v2, μ) res h
  exact key
/-- Board.findShape()I -/
def f13 (μ : Mem) : Option (Mem × Int32) :=
  l13_5 gF ((-4 : Int32), (0 : Int32), μ)
theorem ok13 {L : Nat} (μ : Mem) (res : Mem × Int32) (h : f13 μ = some res) : Mx 13 [.ref 101] (mk L μ) (mk L res.1, some (.int res.2)) := by
  refine Mx_of ml_13 (by rw [mx_13]; exact Nat.le_of_ble_eq_true rfl) ?_
  show Sx 13 0 [(0, .ref 101)] [] 0 0 (mk L μ) _
  unfold f13 at h
  refine sx_bipush (v := -4) k13_0 (by decide) ?_
  refine cx_istore_n (lo2 := [(1, .int (-4 : Int32)), (0, .ref 101)]) k13_2 rfl (by rw [mx_13]; decide) rfl ?_
  refine sx_iconst (v := 0) k13_3 (by decide) ?_
  refine cx_istore_n (lo2 := [(2, .int (0 : Int32)), (1, .int (-4 : Int32)), (0, .ref 101)]) k13_4 rfl (by rw [mx_13]; decide) rfl ?_
  refine sx_pick (lo2 := [(0, .ref 101), (1, .int (-4 : Int32)), (2, .int (0 : Int32))]) [2, 1, 0] rfl ?_
  exact l13_5_ok gF (-4 : Int32) (0 : Int32) _ _ h
theorem k14_0 : decode (gb 14) 0 = .ok (.iload_n 1, 1) := by decide +kernel
theorem k14_1 : decode (gb 14) 1 = .ok (.ifCond .lt 14, 3) := by decide +kernel
theorem k14_4 : decode (gb 14) 4 = .ok (.iload_n 1, 1) := by decide +kernel
theorem k14_5 : decode (gb 14) 5 = .ok (.bipush 6, 2) := by decide +kernel
theorem k14_7 : decode (gb 14) 7 = .ok (.iadd, 1) := by decide +kernel
theorem k14_8 : decode (gb 14) 8 = .ok (.getstatic 144, 3) := by decide +kernel
theorem k14_11 : decode (gb 14) 11 = .ok (.arraylength, 1) := by decide +kernel
theorem k14_12 : decode (gb 14) 12 = .ok (.if_icmp .le 5, 3) := by decide +kernel
theorem k14_15 : decode (gb 14) 15 = .ok (.iconst 0, 1) := by decide +kernel
theorem k14_16 : decode (gb 14) 16 = .ok (.ireturn, 1) := by decide +kernel
theorem k14_17 : decode (gb 14) 17 = .ok (.aload_n 0, 1) := by decide +kernel
theorem k14_18 : decode (gb 14) 18 = .ok (.getfield 31, 3) := by decide +kernel
theorem k14_21 : decode (gb 14) 21 = .ok (.getfield 109, 3) := by decide +kernel
theorem k14_24 : decode (gb 14) 24 = .ok (.bipush 13, 2) := by decide +kernel
theorem k14_26 : decode (gb 14) 26 = .ok (.isub, 1) := by decide +kernel
theorem k14_27 : decode (gb 14) 27 = .ok (.getstatic 144, 3) := by decide +kernel
theorem k14_30 : decode (gb 14) 30 = .ok (.iload_n 1, 1) := by decide +kernel
theorem k14_31 : decode (gb 14) 31 = .ok (.iconst 2, 1) := by decide +kernel
theorem k14_32 : decode (gb 14) 32 = .ok (.iadd, 1) := by decide +kernel
theorem k14_33 : decode (gb 14) 33 = .ok (.iaload, 1) := by decide +kernel
theorem k14_34 : decode (gb 14) 34 = .ok (.isub, 1) := by decide +kernel
theorem k14_35 : decode (gb 14) 35 = .ok (.istore_n 2, 1) := by decide +kernel
theorem k14_36 : decode (gb 14) 36 = .ok (.getstatic 144, 3) := by decide +kernel
theorem k14_39 : decode (gb 14) 39 = .ok (.iload_n 1, 1) := by decide +kernel
theorem k14_40 : decode (gb 14) 40 = .ok (.iconst 3, 1) := by decide +kernel
theorem k14_41 : decode (gb 14) 41 = .ok (.iadd, 1) := by decide +kernel
theorem k14_42 : decode (gb 14) 42 = .ok (.iaload, 1) := by decide +kernel
theorem k14_43 : decode (gb 14) 43 = .ok (.istore_n 3, 1) := by decide +kernel
theorem k14_44 : decode (gb 14) 44 = .ok (.iload_n 2, 1) := by decide +kernel
theorem k14_45 : decode (gb 14) 45 = .ok (.ifCond .ge 5, 3) := by decide +kernel
theorem k14_48 : decode (gb 14) 48 = .ok (.iconst 0, 1) := by decide +kernel
theorem k14_49 : decode (gb 14) 49 = .ok (.ireturn, 1) := by decide +kernel
theorem k14_50 : decode (gb 14) 50 = .ok (.iload_n 3, 1) := by decide +kernel
theorem k14_51 : decode (gb 14) 51 = .ok (.bipush (-2), 2) := by decide +kernel
theorem k14_53 : decode (gb 14) 53 = .ok (.if_icmp .ne 21, 3) := by decide +kernel
theorem k14_56 : decode (gb 14) 56 = .ok (.iload_n 2, 1) := by decide +kernel
theorem k14_57 : decode (gb 14) 57 = .ok (.bipush 13, 2) := by decide +kernel
theorem k14_59 : decode (gb 14) 59 = .ok (.if_icmp .lt 13, 3) := by decide +kernel
theorem k14_62 : decode (gb 14) 62 = .ok (.iload_n 2, 1) := by decide +kernel
theorem k14_63 : decode (gb 14) 63 = .ok (.bipush 40, 2) := by decide +kernel
theorem k14_65 : decode (gb 14) 65 = .ok (.if_icmp .gt 7, 3) := by decide +kernel
theorem k14_68 : decode (gb 14) 68 = .ok (.iconst 1, 1) := by decide +kernel
theorem k14_69 : decode (gb 14) 69 = .ok (.goto 4, 3) := by decide +kernel
theorem k14_72 : decode (gb 14) 72 = .ok (.iconst 0, 1) := by decide +kernel
theorem k14_73 : decode (gb 14) 73 = .ok (.ireturn, 1) := by decide +kernel
theorem k14_74 : decode (gb 14) 74 = .ok (.iload_n 3, 1) := by decide +kernel
theorem k14_75 : decode (gb 14) 75 = .ok (.iconst (-1), 1) := by decide +kernel
theorem k14_76 : decode (gb 14) 76 = .ok (.if_icmp .ne 13, 3) := by decide +kernel
theorem k14_79 : decode (gb 14) 79 = .ok (.iload_n 2, 1) := by decide +kernel
theorem k14_80 : decode (gb 14) 80 = .ok (.ifCond .ne 7, 3) := by decide +kernel
theorem k14_83 : decode (gb 14) 83 = .ok (.iconst 1, 1) := by decide +kernel
theorem k14_84 : decode (gb 14) 84 = .ok (.goto 4, 3) := by decide +kernel
theorem k14_87 : decode (gb 14) 87 = .ok (.iconst 0, 1) := by decide +kernel
theorem k14_88 : decode (gb 14) 88 = .ok (.ireturn, 1) := by decide +kernel
theorem k14_89 : decode (gb 14) 89 = .ok (.aload_n 0, 1) := by decide +kernel
theorem k14_90 : decode (gb 14) 90 = .ok (.getfield 31, 3) := by decide +kernel
theorem k14_93 : decode (gb 14) 93 = .ok (.bipush 11, 2) := by decide +kernel
theorem k14_95 : decode (gb 14) 95 = .ok (.iload_n 3, 1) := by decide +kernel
theorem k14_96 : decode (gb 14) 96 = .ok (.iadd, 1) := by decide +kernel
theorem k14_97 : decode (gb 14) 97 = .ok (.invokevirtual 105, 3) := by decide +kernel
theorem k14_100 : decode (gb 14) 100 = .ok (.istore 4, 2) := by decide +kernel
theorem k14_102 : decode (gb 14) 102 = .ok (.iload 4, 2) := by decide +kernel
theorem k14_104 : decode (gb 14) 104 = .ok (.iconst 1, 1) := by decide +kernel
theorem k14_105 : decode (gb 14) 105 = .ok (.if_icmp .lt 33, 3) := by decide +kernel
theorem k14_108 : decode (gb 14) 108 = .ok (.iload 4, 2) := by decide +kernel
theorem k14_110 : decode (gb 14) 110 = .ok (.getstatic 144, 3) := by decide +kernel
theorem k14_113 : decode (gb 14) 113 = .ok (.iload_n 1, 1) := by decide +kernel
theorem k14_114 : decode (gb 14) 114 = .ok (.iconst 4, 1) := by decide +kernel
theorem k14_115 : decode (gb 14) 115 = .ok (.iadd, 1) := by decide +kernel
theorem k14_116 : decode (gb 14) 116 = .ok (.iaload, 1) := by decide +kernel
theorem k14_117 : decode (gb 14) 117 = .ok (.if_icmp .gt 21, 3) := by decide +kernel
theorem k14_120 : decode (gb 14) 120 = .ok (.iload_n 2, 1) := by decide +kernel
theorem k14_121 : decode (gb 14) 121 = .ok (.iload 4, 2) := by decide +kernel
theorem k14_123 : decode (gb 14) 123 = .ok (.getstatic 144, 3) := by decide +kernel
theorem k14_126 : decode (gb 14) 126 = .ok (.iload_n 1, 1) := by decide +kernel
theorem k14_127 : decode (gb 14) 127 = .ok (.iconst 5, 1) := by decide +kernel
theorem k14_128 : decode (gb 14) 128 = .ok (.iadd, 1) := by decide +kernel
theorem k14_129 : decode (gb 14) 129 = .ok (.iaload, 1) := by decide +kernel
theorem k14_130 : decode (gb 14) 130 = .ok (.imul, 1) := by decide +kernel
theorem k14_131 : decode (gb 14) 131 = .ok (.if_icmp .ne 7, 3) := by decide +kernel
theorem k14_134 : decode (gb 14) 134 = .ok (.iconst 1, 1) := by decide +kernel
theorem k14_135 : decode (gb 14) 135 = .ok (.goto 4, 3) := by decide +kernel
theorem k14_138 : decode (gb 14) 138 = .ok (.iconst 0, 1) := by decide +kernel
theorem k14_139 : decode (gb 14) 139 = .ok (.ireturn, 1) := by decide +kernel
/-- Board.fitsShape(I)Z -/
def f14 (p1 : Int32) (μ : Mem) : Option (Mem × Int32) :=
  if p1 < 0 then
    rtZ (0 : Int32) μ
  else
    if (p1 + (6 : Int32)) ≤ (nI (gln 100002)) then
      (ldA 100002 (p1 + (2 : Int32)) μ).bind fun x3 =>
      nm (((μ.1 120 1) - (13 : Int32)) - x3) fun x5 =>
      (ldA 100002 (p1 + (3 : Int32)) μ).bind fun x6 =>
      if 0 ≤ x5 then
        if x6 = (-2 : Int32) then
          if x5 < (13 : Int32) then
            rtZ (0 : Int32) μ
          else
            if (40 : Int32) < x5 then
              rtZ (0 : Int32) μ
            else
              rtZ (1 : Int32) μ
        else
          if x6 = (-1 : Int32) then
            if x5 = 0 then
              rtZ (1 : Int32) μ
            else
              rtZ (0 : Int32) μ
          else
            (f75 120 ((11 : Int32) + x6) μ).bind fun r11 =>
            if r11.2 < (1 : Int32) then
              rtZ (0 : Int32) r11.1
            else
              (ldA 100002 (p1 + (4 : Int32)) r11.1).bind fun x14 =>
              if x14 < r11.2 then
                rtZ (0 : Int32) r11.1
              else
                (ldA 100002 (p1 + (5 : Int32)) r11.1).bind fun x17 =>
                if x5 = (r11.2 * x17) then
                  rtZ (1 : Int32) r11.1
                else
                  rtZ (0 : Int32) r11.1
      else
        rtZ (0 : Int32) μ
    else
      rtZ (0 : Int32) μ
theorem ok14 {L : Nat} (p1 : Int32) (μ : Mem) (res : Mem × Int32) (h : f14 p1 μ = some res) : Mx 14 [.ref 101, .int p1] (mk L μ) (mk L res.1, some (.int res.2)) := by
  refine Mx_of ml_14 (by rw [mx_14]; exact Nat.le_of_ble_eq_true rfl) ?_
  show Sx 14 0 [(0, .ref 101), (1, .int p1)] [] 0 0 (mk L μ) _
  unfold f14 at h
  refine sx_iload_n (i := 1) k14_0 rfl rfl ?_
  by_cases hb1 : p1 < 0
  · rw [if_pos hb1] at h
    refine sx_if_lt (tgt := 15) k14_1 (by decide) (fun _ => ?_) (fun q => absurd hb1 q)
    refine sx_iconst (v := 0) k14_15 (by decide) ?_
    exact cx_retz k14_16 rt_14 h
  · rw [if_neg hb1] at h
    refine sx_if_lt (tgt := 15) k14_1 (by decide) (fun q => absurd q hb1) (fun _ => ?_)
    refine sx_iload_n (i := 1) k14_4 rfl rfl ?_
    refine sx_bipush (v := 6) k14_5 (by decide) ?_
    refine sx_iadd k14_7 ?_
    refine cx_gets (j := 2) k14_8 ow_14 sl_1_144 (by decide) ?_
    refine cx_alenT k14_11 (by decide) ?_
    by_cases hb2 : (p1 + (6 : Int32)) ≤ (nI (gln 100002))
    · rw [if_pos hb2] at h
      refine sx_icmp_le (tgt := 17) k14_12 (by decide) (fun _ => ?_) (fun q => absurd hb2 q)
      refine sx_aload_n (i := 0) k14_17 rfl rfl ?_
      refine cx_getR (k := 5) k14_18 ow_14 fl_1_31 (by decide) sk_101 ft_0_5 sr_101_5 ?_
      refine cx_getI (k := 1) k14_21 ow_14 fl_1_109 (by decide) sk_120 ft_1_1 ?_
      refine sx_bipush (v := 13) k14_24 (by decide) ?_
      refine sx_isub k14_26 ?_
      refine cx_gets (j := 2) k14_27 ow_14 sl_1_144 (by decide) ?_
      refine sx_iload_n (i := 1) k14_30 rfl rfl ?_
      refine sx_iconst (v := 2) k14_31 (by decide) ?_
      refine sx_iadd k14_32 ?_
      obtain ⟨x3, e4, h⟩ := Option.bind_eq_some_iff.mp h
      refine cx_tald k14_33 (by decide) e4 ?_
      refine sx_isub k14_34 ?_
      refine cx_nm h (fun x5 h => ?_)
      refine cx_istore_n (lo2 := [(2, .int x5), (0, .ref 101), (1, .int p1)]) k14_35 rfl (by rw [mx_14]; decide) rfl ?_
      refine cx_gets (j := 2) k14_36 ow_14 sl_1_144 (by decide) ?_
      refine sx_iload_n (i := 1) k14_39 rfl rfl ?_
      refine sx_iconst (v := 3) k14_40 (by decide) ?_
      refine sx_iadd k14_41 ?_
      obtain ⟨x6, e7, h⟩ := Option.bind_eq_some_iff.mp h
      refine cx_tald k14_42 (by decide) e7 ?_
      refine cx_istore_n (lo2 := [(3, .int x6), (2, .int x5), (0, .ref 101), (1, .int p1)]) k14_43 rfl (by rw [mx_14]; decide) rfl ?_
      refine sx_iload_n (i := 2) k14_44 rfl rfl ?_
      by_cases hb8 : 0 ≤ x5
      · rw [if_pos hb8] at h
        refine sx_if_ge (tgt := 50) k14_45 (by decide) (fun _ => ?_) (fun q => absurd hb8 q)
        refine sx_iload_n (i := 3) k14_50 rfl rfl ?_
        refine sx_bipush (v := -2) k14_51 (by decide) ?_
        by_cases hb9 : x6 = (-2 : Int32)
        · rw [if_pos hb9] at h
          refine sx_icmp_ne (tgt := 74) k14_53 (by decide) (fun q => absurd hb9 q) (fun _ => ?_)
          refine sx_iload_n (i := 2) k14_56 rfl rfl ?_
          refine sx_bipush (v := 13) k14_57 (by decide) ?_
          by_cases hb21 : x5 < (13 : Int32)
          · rw [if_pos hb21] at h
            refine sx_icmp_lt (tgt := 72) k14_59 (by decide) (fun _ => ?_) (fun q => absurd hb21 q)
            refine sx_iconst (v := 0) k14_72 (by decide) ?_
            exact cx_retz k14_73 rt_14 h
          · rw [if_neg hb21] at h
            refine sx_icmp_lt (tgt := 72) k14_59 (by decide) (fun q => absurd q hb21) (fun _ => ?_)
            refine sx_iload_n (i := 2) k14_62 rfl rfl ?_
            refine sx_bipush (v := 40) k14_63 (by decide) ?_
            by_cases hb22 : (40 : Int32) < x5
            · rw [if_pos hb22] at h
              refine sx_icmp_gt (tgt := 72) k14_65 (by decide) (fun _ => ?_) (fun q => absurd hb22 q)
              refine sx_iconst (v := 0) k14_72 (by decide) ?_
              exact cx_retz k14_73 rt_14 h
            · rw [if_neg hb22] at h
              refine sx_icmp_gt (tgt := 72) k14_65 (by decide) (fun q => absurd q hb22) (fun _ => ?_)
              refine sx_iconst (v := 1) k14_68 (by decide) ?_
              refine sx_goto (tgt := 73) k14_69 (by decide) ?_
              exact cx_retz k14_73 rt_14 h
        · rw [if_neg hb9] at h
          refine sx_icmp_ne (tgt := 74) k14_53 (by decide) (fun _ => ?_) (fun q => absurd q hb9)
          refine sx_iload_n (i := 3) k14_74 rfl rfl ?_
          refine sx_iconst (v := -1) k14_75 (by decide) ?_
          by_cases hb10 : x6 = (-1 : Int32)
          · rw [if_pos hb10] at h
            refine sx_icmp_ne (tgt := 89) k14_76 (by decide) (fun q => absurd hb10 q) (fun _ => ?_)
            refine sx_iload_n (i := 2) k14_79 rfl rfl ?_
            by_cases hb20 : x5 = 0
            · rw [if_pos hb20] at h
              refine sx_if_ne (tgt := 87) k14_80 (by decide) (fun q => absurd hb20 q) (fun _ => ?_)
              refine sx_iconst (v := 1) k14_83 (by decide) ?_
              refine sx_goto (tgt := 88) k14_84 (by decide) ?_
              exact cx_retz k14_88 rt_14 h
            · rw [if_neg hb20] at h
              refine sx_if_ne (tgt := 87) k14_80 (by decide) (fun _ => ?_) (fun q => absurd q hb20)
              refine sx_iconst (v := 0) k14_87 (by decide) ?_
              exact cx_retz k14_88 rt_14 h
          · rw [if_neg hb10] at h
            refine sx_icmp_ne (tgt := 89) k14_76 (by decide) (fun _ => ?_) (fun q => absurd q hb10)
            refine sx_aload_n (i := 0) k14_89 rfl rfl ?_
            refine cx_getR (k := 5) k14_90 ow_14 fl_1_31 (by decide) sk_101 ft_0_5 sr_101_5 ?_
            refine sx_bipush (v := 11) k14_93 (by decide) ?_
            refine sx_iload_n (i := 3) k14_95 rfl rfl ?_
            refine sx_iadd k14_96 ?_
            obtain ⟨r11, e12, h⟩ := Option.bind_eq_some_iff.mp h
            refine cx_V (sk := []) (vs := [.int ((11 : Int32) + x6)]) st_14_75 k14_97 ow_14 cl_1_105 (by decide) rfl (Nat.le_of_ble_eq_true rfl) sk_120 (ok75 120 ((11 : Int32) + x6) sk_120 _ _ e12) (sk3 := [.int r11.2]) rfl rfl ?_
            refine cx_istore (lo2 := [(4, .int r11.2), (3, .int x6), (2, .int x5), (0, .ref 101), (1, .int p1)]) k14_100 (by rw [mx_14]; decide) rfl ?_
            refine sx_iload k14_102 rfl ?_
            refine sx_iconst (v := 1) k14_104 (by decide) ?_
            by_cases hb13 : r11.2 < (1 : Int32)
            · rw [if_pos hb13] at h
              refine sx_icmp_lt (tgt := 138) k14_105 (by decide) (fun _ => ?_) (fun q => absurd hb13 q)
              refine sx_iconst (v := 0) k14_138 (by decide) ?_
              exact cx_retz k14_139 rt_14 h
            · rw [if_neg hb13] at h
              refine sx_icmp_lt (tgt := 138) k14_105 (by decide) (fun q => absurd q hb13) (fun _ => ?_)
              refine sx_iload k14_108 rfl ?_
              refine cx_gets (j := 2) k14_110 ow_14 sl_1_144 (by decide) ?_
              refine sx_iload_n (i := 1) k14_113 rfl rfl ?_
              refine sx_iconst (v := 4) k14_114 (by decide) ?_
              refine sx_iadd k14_115 ?_
              obtain ⟨x14, e15, h⟩ := Option.bind_eq_some_iff.mp h
              refine cx_tald k14_116 (by decide) e15 ?_
              by_cases hb16 : x14 < r11.2
              · rw [if_pos hb16] at h
                refine sx_icmp_gt (tgt := 138) k14_117 (by decide) (fun _ => ?_) (fun q => absurd hb16 q)
                refine sx_iconst (v := 0) k14_138 (by decide) ?_
                exact cx_retz k14_139 rt_14 h
              · rw [if_neg hb16] at h
                refine sx_icmp_gt (tgt := 138) k14_117 (by decide) (fun q => absurd q hb16) (fun _ => ?_)
                refine sx_iload_n (i := 2) k14_120 rfl rfl ?_
                refine sx_iload k14_121 rfl ?_
                refine cx_gets (j := 2) k14_123 ow_14 sl_1_144 (by decide) ?_
                refine sx_iload_n (i := 1) k14_126 rfl rfl ?_
                refine sx_iconst (v := 5) k14_127 (by decide) ?_
                refine sx_iadd k14_128 ?_
                obtain ⟨x17, e18, h⟩ := Option.bind_eq_some_iff.mp h
                refine cx_tald k14_129 (by decide) e18 ?_
                refine sx_imul k14_130 ?_
                by_cases hb19 : x5 = (r11.2 * x17)
                · rw [if_pos hb19] at h
                  refine sx_icmp_ne (tgt := 138) k14_131 (by decide) (fun q => absurd hb19 q) (fun _ => ?_)
                  refine sx_iconst (v := 1) k14_134 (by decide) ?_
                  refine sx_goto (tgt := 139) k14_135 (by decide) ?_
                  exact cx_retz k14_139 rt_14 h
                · rw [if_neg hb19] at h
                  refine sx_icmp_ne (tgt := 138) k14_131 (by decide) (fun _ => ?_) (fun q => absurd q hb19)
                  refine sx_iconst (v := 0) k14_138 (by decide) ?_
                  exact cx_retz k14_139 rt_14 h
      · rw [if_neg hb8] at h
        refine sx_if_ge (tgt := 50) k14_45 (by decide) (fun q => absurd q hb8) (fun _ => ?_)
        refine sx_iconst (v := 0) k14_48 (by decide) ?_
        exact cx_retz k14_49 rt_14 h
    · rw [if_neg hb2] at h
      refine sx_icmp_le (tgt := 17) k14_12 (by decide) (fun q => absurd q hb2) (fun _ => ?_)
      refine sx_iconst (v := 0) k14_15 (by decide) ?_
      exact cx_retz k14_16 rt_14 h
theorem k15_0 : decode (gb 15) 0 = .ok (.aload_n 0, 1) := by decide +kernel
theorem k15_1 : decode (gb 15) 1 = .ok (.getfield 31, 3) := by decide +kernel
theorem k15_4 : decode (gb 15) 4 = .ok (.bipush 7, 2) := by decide +kernel
theorem k15_6 : decode (gb 15) 6 = .ok (.invokevirtual 128, 3) := by decide +kernel
theorem k15_9 : decode (gb 15) 9 = .ok (.lookupswitch 100 #[(769, 43), (1545, 62), (3852, 81), (4865, 81)], 43) := by decide +kernel
theorem k15_52 : decode (gb 15) 52 = .ok (.aload_n 0, 1) := by decide +kernel
theorem k15_53 : decode (gb 15) 53 = .ok (.getfield 31, 3) := by decide +kernel
theorem k15_56 : decode (gb 15) 56 = .ok (.bipush 12, 2) := by decide +kernel
theorem k15_58 : decode (gb 15) 58 = .ok (.invokevirtual 128, 3) := by decide +kernel
theorem k15_61 : decode (gb 15) 61 = .ok (.iconst 1, 1) := by decide +kernel
theorem k15_62 : decode (gb 15) 62 = .ok (.if_icmp .lt 7, 3) := by decide +kernel
theorem k15_65 : decode (gb 15) 65 = .ok (.iconst 1, 1) := by decide +kernel
theorem k15_66 : decode (gb 15) 66 = .ok (.goto 4, 3) := by decide +kernel
theorem k15_69 : decode (gb 15) 69 = .ok (.iconst 0, 1) := by decide +kernel
theorem k15_70 : decode (gb 15) 70 = .ok (.ireturn, 1) := by decide +kernel
theorem k15_71 : decode (gb 15) 71 = .ok (.aload_n 0, 1) := by decide +kernel
theorem k15_72 : decode (gb 15) 72 = .ok (.getfield 31, 3) := by decide +kernel
theorem k15_75 : decode (gb 15) 75 = .ok (.bipush 13, 2) := by decide +kernel
theorem k15_77 : decode (gb 15) 77 = .ok (.invokevirtual 128, 3) := by decide +kernel
theorem k15_80 : decode (gb 15) 80 = .ok (.iconst 1, 1) := by decide +kernel
theorem k15_81 : decode (gb 15) 81 = .ok (.if_icmp .lt 7, 3) := by decide +kernel
theorem k15_84 : decode (gb 15) 84 = .ok (.iconst 1, 1) := by decide +kernel
theorem k15_85 : decode (gb 15) 85 = .ok (.goto 4, 3) := by decide +kernel
theorem k15_88 : decode (gb 15) 88 = .ok (.iconst 0, 1) := by decide +kernel
theorem k15_89 : decode (gb 15) 89 = .ok (.ireturn, 1) := by decide +kernel
theorem k15_90 : decode (gb 15) 90 = .ok (.aload_n 0, 1) := by decide +kernel
theorem k15_91 : decode (gb 15) 91 = .ok (.getfield 31, 3) := by decide +kernel
theorem k15_94 : decode (gb 15) 94 = .ok (.bipush 12, 2) := by decide +kernel
theorem k15_96 : decode (gb 15) 96 = .ok (.invokevirtual 105, 3) := by decide +kernel
theorem k15_99 : decode (gb 15) 99 = .ok (.iconst 1, 1) := by decide +kernel
theorem k15_100 : decode (gb 15) 100 = .ok (.if_icmp .gt 7, 3) := by decide +kernel
theorem k15_103 : decode (gb 15) 103 = .ok (.iconst 1, 1) := by decide +kernel
theorem k15_104 : decode (gb 15) 104 = .ok (.goto 4, 3) := by decide +kernel
theorem k15_107 : decode (gb 15) 107 = .ok (.iconst 0, 1) := by decide +kernel
theorem k15_108 : decode (gb 15) 108 = .ok (.ireturn, 1) := by decide +kernel
theorem k15_109 : decode (gb 15) 109 = .ok (.iconst 1, 1) := by decide +kernel
theorem k15_110 : decode (gb 15) 110 = .ok (.ireturn, 1) := by decide +kernel
/-- Board.fitsRanges()Z -/
def f15 (μ : Mem) : Option (Mem × Int32) :=
  (f76 120 (7 : Int32) μ).bind fun r1 =>
  if r1.2 = (769 : Int32) then
    (f76 120 (12 : Int32) r1.1).bind fun r3 =>
    if r3.2 < (1 : Int32) then
      rtZ (0 : Int32) r3.1
    else
      rtZ (1 : Int32) r3.1
  else if r1.2 = (1545 : Int32) then
    (f76 120 (13 : Int32) r1.1).bind fun r7 =>
    if r7.2 < (1 : Int32) then
      rtZ (0 : Int32) r7.1
    else
      rtZ (1 : Int32) r7.1
  else if r1.2 = (3852 : Int32) then
    (f75 120 (12 : Int32) r1.1).bind fun r11 =>
    if (1 : Int32) < r11.2 then
      rtZ (0 : Int32) r11.1
    else
      rtZ (1 : Int32) r11.1
  else if r1.2 = (4865 : Int32) then
    (f75 120 (12 : Int32) r1.1).bind fun r15 =>
    if (1 : Int32) < r15.2 then
      rtZ (0 : Int32) r15.1
    else
      rtZ (1 : Int32) r15.1
  else 
    rtZ (1 : Int32) r1.1
theorem ok15 {L : Nat} (μ : Mem) (res : Mem × Int32) (h : f15 μ = some res) : Mx 15 [.ref 101] (mk L μ) (mk L res.1, some (.int res.2)) := by
  refine Mx_of ml_15 (by rw [mx_15]; exact Nat.le_of_ble_eq_true rfl) ?_
  show Sx 15 0 [(0, .ref 101)] [] 0 0 (mk L μ) _
  unfold f15 at h
  refine sx_aload_n (i := 0) k15_0 rfl rfl ?_
  refine cx_getR (k := 5) k15_1 ow_15 fl_1_31 (by decide) sk_101 ft_0_5 sr_101_5 ?_
  refine sx_bipush (v := 7) k15_4 (by decide) ?_
  obtain ⟨r1, e2, h⟩ := Option.bind_eq_some_iff.mp h
  refine cx_V (sk := []) (vs := [.int (7 : Int32)]) st_15_76 k15_6 ow_15 cl_1_128 (by decide) rfl (Nat.le_of_ble_eq_true rfl) sk_120 (ok76 120 (7 : Int32) sk_120 _ _ e2) (sk3 := [.int r1.2]) rfl rfl ?_
  by_cases hb6 : r1.2 = (769 : Int32)
  · rw [if_pos hb6] at h
    refine sx_lookup (off := 43) (tgt := 52) k15_9 (by decide) (by rw [hb6]; rfl) (by decide) ?_
    refine sx_aload_n (i := 0) k15_52 rfl rfl ?_
    refine cx_getR (k := 5) k15_53 ow_15 fl_1_31 (by decide) sk_101 ft_0_5 sr_101_5 ?_
    refine sx_bipush (v := 12) k15_56 (by decide) ?_
    obtain ⟨r3, e4, h⟩ := Option.bind_eq_some_iff.mp h
    refine cx_V (sk := []) (vs := [.int (12 : Int32)]) st_15_76 k15_58 ow_15 cl_1_128 (by decide) rfl (Nat.le_of_ble_eq_true rfl) sk_120 (ok76 120 (12 : Int32) sk_120 _ _ e4) (sk3 := [.int r3.2]) rfl rfl ?_
    refine sx_iconst (v := 1) k15_61 (by decide) ?_
    by_cases hb5 : r3.2 < (1 : Int32)
    · rw [if_pos hb5] at h
      refine sx_icmp_lt (tgt := 69) k15_62 (by decide) (fun _ => ?_) (fun q => absurd hb5 q)
      refine sx_iconst (v := 0) k15_69 (by decide) ?_
      exact cx_retz k15_70 rt_15 h
    · rw [if_neg hb5] at h
      refine sx_icmp_lt (tgt := 69) k15_62 (by decide) (fun q => absurd q hb5) (fun _ => ?_)
      refine sx_iconst (v := 1) k15_65 (by decide) ?_
      refine sx_goto (tgt := 70) k15_66 (by decide) ?_
      exact cx_retz k15_70 rt_15 h
  · rw [if_neg hb6] at h
    by_cases hb10 : r1.2 = (1545 : Int32)
    · rw [if_pos hb10] at h
      refine sx_lookup (off := 62) (tgt := 71) k15_9 (by decide) (by rw [hb10]; rfl) (by decide) ?_
      refine sx_aload_n (i := 0) k15_71 rfl rfl ?_
      refine cx_getR (k := 5) k15_72 ow_15 fl_1_31 (by decide) sk_101 ft_0_5 sr_101_5 ?_
      refine sx_bipush (v := 13) k15_75 (by decide) ?_
      obtain ⟨r7, e8, h⟩ := Option.bind_eq_some_iff.mp h
      refine cx_V (sk := []) (vs := [.int (13 : Int32)]) st_15_76 k15_77 ow_15 cl_1_128 (by decide) rfl (Nat.le_of_ble_eq_true rfl) sk_120 (ok76 120 (13 : Int32) sk_120 _ _ e8) (sk3 := [.int r7.2]) rfl rfl ?_
      refine sx_iconst (v := 1) k15_80 (by decide) ?_
      by_cases hb9 : r7.2 < (1 : Int32)
      · rw [if_pos hb9] at h
        refine sx_icmp_lt (tgt := 88) k15_81 (by decide) (fun _ => ?_) (fun q => absurd hb9 q)
        refine sx_iconst (v := 0) k15_88 (by decide) ?_
        exact cx_retz k15_89 rt_15 h
      · rw [if_neg hb9] at h
        refine sx_icmp_lt (tgt := 88) k15_81 (by decide) (fun q => absurd q hb9) (fun _ => ?_)
        refine sx_iconst (v := 1) k15_84 (by decide) ?_
        refine sx_goto (tgt := 89) k15_85 (by decide) ?_
        exact cx_retz k15_89 rt_15 h
    · rw [if_neg hb10] at h
      by_cases hb14 : r1.2 = (3852 : Int32)
      · rw [if_pos hb14] at h
        refine sx_lookup (off := 81) (tgt := 90) k15_9 (by decide) (by rw [hb14]; rfl) (by decide) ?_
        refine sx_aload_n (i := 0) k15_90 rfl rfl ?_
        refine cx_getR (k := 5) k15_91 ow_15 fl_1_31 (by decide) sk_101 ft_0_5 sr_101_5 ?_
        refine sx_bipush (v := 12) k15_94 (by decide) ?_
        obtain ⟨r11, e12, h⟩ := Option.bind_eq_some_iff.mp h
        refine cx_V (sk := []) (vs := [.int (12 : Int32)]) st_15_75 k15_96 ow_15 cl_1_105 (by decide) rfl (Nat.le_of_ble_eq_true rfl) sk_120 (ok75 120 (12 : Int32) sk_120 _ _ e12) (sk3 := [.int r11.2]) rfl rfl ?_
        refine sx_iconst (v := 1) k15_99 (by decide) ?_
        by_cases hb13 : (1 : Int32) < r11.2
        · rw [if_pos hb13] at h
          refine sx_icmp_gt (tgt := 107) k15_100 (by decide) (fun _ => ?_) (fun q => absurd hb13 q)
          refine sx_iconst (v := 0) k15_107 (by decide) ?_
          exact cx_retz k15_108 rt_15 h
        · rw [if_neg hb13] at h
          refine sx_icmp_gt (tgt := 107) k15_100 (by decide) (fun q => absurd q hb13) (fun _ => ?_)
          refine sx_iconst (v := 1) k15_103 (by decide) ?_
          refine sx_goto (tgt := 108) k15_104 (by decide) ?_
          exact cx_retz k15_108 rt_15 h
      · rw [if_neg hb14] at h
        by_cases hb18 : r1.2 = (4865 : Int32)
        · rw [if_pos hb18] at h
          refine sx_lookup (off := 81) (tgt := 90) k15_9 (by decide) (by rw [hb18]; rfl) (by decide) ?_
          refine sx_aload_n (i := 0) k15_90 rfl rfl ?_
          refine cx_getR (k := 5) k15_91 ow_15 fl_1_31 (by decide) sk_101 ft_0_5 sr_101_5 ?_
          refine sx_bipush (v := 12) k15_94 (by decide) ?_
          obtain ⟨r15, e16, h⟩ := Option.bind_eq_some_iff.mp h
          refine cx_V (sk := []) (vs := [.int (12 : Int32)]) st_15_75 k15_96 ow_15 cl_1_105 (by decide) rfl (Nat.le_of_ble_eq_true rfl) sk_120 (ok75 120 (12 : Int32) sk_120 _ _ e16) (sk3 := [.int r15.2]) rfl rfl ?_
          refine sx_iconst (v := 1) k15_99 (by decide) ?_
          by_cases hb17 : (1 : Int32) < r15.2
          · rw [if_pos hb17] at h
            refine sx_icmp_gt (tgt := 107) k15_100 (by decide) (fun _ => ?_) (fun q => absurd hb17 q)
            refine sx_iconst (v := 0) k15_107 (by decide) ?_
            exact cx_retz k15_108 rt_15 h
          · rw [if_neg hb17] at h
            refine sx_icmp_gt (tgt := 107) k15_100 (by decide) (fun q => absurd q hb17) (fun _ => ?_)
            refine sx_iconst (v := 1) k15_103 (by decide) ?_
            refine sx_goto (tgt := 108) k15_104 (by decide) ?_
            exact cx_retz k15_108 rt_15 h
        · rw [if_neg hb18] at h
          refine sx_lookup (off := 100) (tgt := 109) k15_9 (by decide) (lsw_out (cs := [(769 : Int32), (1545 : Int32), (3852 : Int32), (4865 : Int32)]) (by decide) ⟨hb6, hb10, hb14, hb18, trivial⟩) (by decide) ?_
          refine sx_iconst (v := 1) k15_109 (by decide) ?_
          exact cx_retz k15_110 rt_15 h
theorem k12_0 : decode (gb 12) 0 = .ok (.aload_n 0, 1) := by decide +kernel
theorem k12_1 : decode (gb 12) 1 = .ok (.getfield 31, 3) := by decide +kernel
theorem k12_4 : decode (gb 12) 4 = .ok (.getfield 109, 3) := by decide +kernel
theorem k12_7 : decode (gb 12) 7 = .ok (.istore_n 1, 1) := by decide +kernel
theorem k12_8 : decode (gb 12) 8 = .ok (.iload_n 1, 1) := by decide +kernel
theorem k12_9 : decode (gb 12) 9 = .ok (.bipush 13, 2) := by decide +kernel
theorem k12_11 : decode (gb 12) 11 = .ok (.if_icmp .lt 18, 3) := by decide +kernel
theorem k12_14 : decode (gb 12) 14 = .ok (.aload_n 0, 1) := by decide +kernel
theorem k12_15 : decode (gb 12) 15 = .ok (.getfield 31, 3) := by decide +kernel
theorem k12_18 : decode (gb 12) 18 = .ok (.iconst 4, 1) := by decide +kernel
theorem k12_19 : decode (gb 12) 19 = .ok (.invokevirtual 128, 3) := by decide +kernel
theorem k12_22 : decode (gb 12) 22 = .ok (.bipush 7, 2) := by decide +kernel
theorem k12_24 : decode (gb 12) 24 = .ok (.iadd, 1) := by decide +kernel
theorem k12_25 : decode (gb 12) 25 = .ok (.iload_n 1, 1) := by decide +kernel
theorem k12_26 : decode (gb 12) 26 = .ok (.if_icmp .eq 5, 3) := by decide +kernel
theorem k12_29 : decode (gb 12) 29 = .ok (.iconst 1, 1) := by decide +kernel
theorem k12_30 : decode (gb 12) 30 = .ok (.ireturn, 1) := by decide +kernel
theorem k12_31 : decode (gb 12) 31 = .ok (.aload_n 0, 1) := by decide +kernel
theorem k12_32 : decode (gb 12) 32 = .ok (.getfield 31, 3) := by decide +kernel
theorem k12_35 : decode (gb 12) 35 = .ok (.iconst 0, 1) := by decide +kernel
theorem k12_36 : decode (gb 12) 36 = .ok (.iload_n 1, 1) := by decide +kernel
theorem k12_37 : decode (gb 12) 37 = .ok (.iconst 2, 1) := by decide +kernel
theorem k12_38 : decode (gb 12) 38 = .ok (.isub, 1) := by decide +kernel
theorem k12_39 : decode (gb 12) 39 = .ok (.invokevirtual 131, 3) := by decide +kernel
theorem k12_42 : decode (gb 12) 42 = .ok (.aload_n 0, 1) := by decide +kernel
theorem k12_43 : decode (gb 12) 43 = .ok (.getfield 31, 3) := by decide +kernel
theorem k12_46 : decode (gb 12) 46 = .ok (.iload_n 1, 1) := by decide +kernel
theorem k12_47 : decode (gb 12) 47 = .ok (.iconst 2, 1) := by decide +kernel
theorem k12_48 : decode (gb 12) 48 = .ok (.isub, 1) := by decide +kernel
theorem k12_49 : decode (gb 12) 49 = .ok (.invokevirtual 128, 3) := by decide +kernel
theorem k12_52 : decode (gb 12) 52 = .ok (.if_icmp .eq 5, 3) := by decide +kernel
theorem k12_55 : decode (gb 12) 55 = .ok (.iconst 2, 1) := by decide +kernel
theorem k12_56 : decode (gb 12) 56 = .ok (.ireturn, 1) := by decide +kernel
theorem k12_57 : decode (gb 12) 57 = .ok (.aload_n 0, 1) := by decide +kernel
theorem k12_58 : decode (gb 12) 58 = .ok (.getfield 31, 3) := by decide +kernel
theorem k12_61 : decode (gb 12) 61 = .ok (.iconst 0, 1) := by decide +kernel
theorem k12_62 : decode (gb 12) 62 = .ok (.invokevirtual 128, 3) := by decide +kernel
theorem k12_65 : decode (gb 12) 65 = .ok (.sipush 6156, 3) := by decide +kernel
theorem k12_68 : decode (gb 12) 68 = .ok (.if_icmp .ne 21, 3) := by decide +kernel
theorem k12_71 : decode (gb 12) 71 = .ok (.aload_n 0, 1) := by decide +kernel
theorem k12_72 : decode (gb 12) 72 = .ok (.getfield 31, 3) := by decide +kernel
theorem k12_75 : decode (gb 12) 75 = .ok (.bipush 6, 2) := by decide +kernel
theorem k12_77 : decode (gb 12) 77 = .ok (.invokevirtual 105, 3) := by decide +kernel
theorem k12_80 : decode (gb 12) 80 = .ok (.sipush 240, 3) := by decide +kernel
theorem k12_83 : decode (gb 12) 83 = .ok (.iand, 1) := by decide +kernel
theorem k12_84 : decode (gb 12) 84 = .ok (.bipush 32, 2) := by decide +kernel
theorem k12_86 : decode (gb 12) 86 = .ok (.if_icmp .eq 5, 3) := by decide +kernel
theorem k12_89 : decode (gb 12) 89 = .ok (.iconst 3, 1) := by decide +kernel
theorem k12_90 : decode (gb 12) 90 = .ok (.ireturn, 1) := by decide +kernel
theorem k12_91 : decode (gb 12) 91 = .ok (.aload_n 0, 1) := by decide +kernel
theorem k12_92 : decode (gb 12) 92 = .ok (.invokevirtual 135, 3) := by decide +kernel
theorem k12_95 : decode (gb 12) 95 = .ok (.istore_n 2, 1) := by decide +kernel
theorem k12_96 : decode (gb 12) 96 = .ok (.iload_n 2, 1) := by decide +kernel
theorem k12_97 : decode (gb 12) 97 = .ok (.ifCond .ge 6, 3) := by decide +kernel
theorem k12_100 : decode (gb 12) 100 = .ok (.iload_n 2, 1) := by decide +kernel
theorem k12_101 : decode (gb 12) 101 = .ok (.ineg, 1) := by decide +kernel
theorem k12_102 : decode (gb 12) 102 = .ok (.ireturn, 1) := by decide +kernel
theorem k12_103 : decode (gb 12) 103 = .ok (.aload_n 0, 1) := by decide +kernel
theorem k12_104 : decode (gb 12) 104 = .ok (.iload_n 2, 1) := by decide +kernel
theorem k12_105 : decode (gb 12) 105 = .ok (.invokevirtual 138, 3) := by decide +kernel
theorem k12_108 : decode (gb 12) 108 = .ok (.ifCond .eq 10, 3) := by decide +kernel
theorem k12_111 : decode (gb 12) 111 = .ok (.aload_n 0, 1) := by decide +kernel
theorem k12_112 : decode (gb 12) 112 = .ok (.invokevirtual 141, 3) := by decide +kernel
theorem k12_115 : decode (gb 12) 115 = .ok (.ifCond .ne 6, 3) := by decide +kernel
theorem k12_118 : decode (gb 12) 118 = .ok (.bipush 6, 2) := by decide +kernel
theorem k12_120 : decode (gb 12) 120 = .ok (.ireturn, 1) := by decide +kernel
theorem k12_121 : decode (gb 12) 121 = .ok (.aload_n 0, 1) := by decide +kernel
theorem k12_122 : decode (gb 12) 122 = .ok (.getfield 16, 3) := by decide +kernel
theorem k12_125 : decode (gb 12) 125 = .ok (.invokevirtual 62, 3) := by decide +kernel
theorem k12_128 : decode (gb 12) 128 = .ok (.ifCond .eq 7, 3) := by decide +kernel
theorem k12_131 : decode (gb 12) 131 = .ok (.iconst 0, 1) := by decide +kernel
theorem k12_132 : decode (gb 12) 132 = .ok (.goto 5, 3) := by decide +kernel
theorem k12_135 : decode (gb 12) 135 = .ok (.bipush 7, 2) := by decide +kernel
theorem k12_137 : decode (gb 12) 137 = .ok (.ireturn, 1) := by decide +kernel
/-- Board.whyRefused()I -/
def f12 (μ : Mem) : Option (Mem × Int32) :=
  if (μ.1 120 1) < (13 : Int32) then
    some (μ, (1 : Int32))
  else
    (f76 120 (4 : Int32) μ).bind fun r2 =>
    if (r2.2 + (7 : Int32)) = (μ.1 120 1) then
      (f78 120 (0 : Int32) ((μ.1 120 1) - (2 : Int32)) r2.1).bind fun r5 =>
      (f76 120 ((μ.1 120 1) - (2 : Int32)) r5.1).bind fun r7 =>
      if r5.2 = r7.2 then
        (f76 120 (0 : Int32) r7.1).bind fun r10 =>
        if r10.2 = (6156 : Int32) then
          (f75 120 (6 : Int32) r10.1).bind fun r13 =>
          if (r13.2 &&& (240 : Int32)) = (32 : Int32) then
            (f13 r13.1).bind fun r16 =>
            if 0 ≤ r16.2 then
              (f14 r16.2 r16.1).bind fun r19 =>
              if r19.2 = 0 then
                some (r19.1, (6 : Int32))
              else
                (f15 r19.1).bind fun r22 =>
                if r22.2 = 0 then
                  some (r22.1, (6 : Int32))
                else
                  (f159 102 r22.1).bind fun r25 =>
                  if r25.2 = 0 then
                    some (r25.1, (7 : Int32))
                  else
                    some (r25.1, (0 : Int32))
            else
              some (r16.1, (-r16.2))
          else
            some (r13.1, (3 : Int32))
        else
          some (r10.1, (3 : Int32))
      else
        some (r7.1, (2 : Int32))
    else
      some (r2.1, (1 : Int32))
theorem ok12 {L : Nat} (μ : Mem) (res : Mem × Int32) (h : f12 μ = some res) : Mx 12 [.ref 101] (mk L μ) (mk L res.1, some (.int res.2)) := by
  refine Mx_of ml_12 (by rw [mx_12]; exact Nat.le_of_ble_eq_true rfl) ?_
  show Sx 12 0 [(0, .ref 101)] [] 0 0 (mk L μ) _
  unfold f12 at h
  refine sx_aload_n (i := 0) k12_0 rfl rfl ?_
  refine cx_getR (k := 5) k12_1 ow_12 fl_1_31 (by decide) sk_101 ft_0_5 sr_101_5 ?_
  refine cx_getI (k := 1) k12_4 ow_12 fl_1_109 (by decide) sk_120 ft_1_1 ?_
  refine cx_istore_n (lo2 := [(1, .int (μ.1 120 1)), (0, .ref 101)]) k12_7 rfl (by rw [mx_12]; decide) rfl ?_
  refine sx_iload_n (i := 1) k12_8 rfl rfl ?_
  refine sx_bipush (v := 13) k12_9 (by decide) ?_
  by_cases hb1 : (μ.1 120 1) < (13 : Int32)
  · rw [if_pos hb1] at h
    refine sx_icmp_lt (tgt := 29) k12_11 (by decide) (fun _ => ?_) (fun q => absurd hb1 q)
    refine sx_iconst (v := 1) k12_29 (by decide) ?_
    exact cx_reti k12_30 rt_12 h
  · rw [if_neg hb1] at h
    refine sx_icmp_lt (tgt := 29) k12_11 (by decide) (fun q => absurd q hb1) (fun _ => ?_)
    refine sx_aload_n (i := 0) k12_14 rfl rfl ?_
    refine cx_getR (k := 5) k12_15 ow_12 fl_1_31 (by decide) sk_101 ft_0_5 sr_101_5 ?_
    refine sx_iconst (v := 4) k12_18 (by decide) ?_
    obtain ⟨r2, e3, h⟩ := Option.bind_eq_some_iff.mp h
    refine cx_V (sk := []) (vs := [.int (4 : Int32)]) st_12_76 k12_19 ow_12 cl_1_128 (by decide) rfl (Nat.le_of_ble_eq_true rfl) sk_120 (ok76 120 (4 : Int32) sk_120 _ _ e3) (sk3 := [.int r2.2]) rfl rfl ?_
    refine sx_bipush (v := 7) k12_22 (by decide) ?_
    refine sx_iadd k12_24 ?_
    refine sx_iload_n (i := 1) k12_25 rfl rfl ?_
    by_cases hb4 : (r2.2 + (7 : Int32)) = (μ.1 120 1)
    · rw [if_pos hb4] at h
      refine sx_icmp_eq (tgt := 31) k12_26 (by decide) (fun _ => ?_) (fun q => absurd hb4 q)
      refine sx_aload_n (i := 0) k12_31 rfl rfl ?_
      refine cx_getR (k := 5) k12_32 ow_12 fl_1_31 (by decide) sk_101 ft_0_5 sr_101_5 ?_
      refine sx_iconst (v := 0) k12_35 (by decide) ?_
      refine sx_iload_n (i := 1) k12_36 rfl rfl ?_
      refine sx_iconst (v := 2) k12_37 (by decide) ?_
      refine sx_isub k12_38 ?_
      obtain ⟨r5, e6, h⟩ := Option.bind_eq_some_iff.mp h
      refine cx_V (sk := []) (vs := [.int (0 : Int32), .int ((μ.1 120 1) - (2 : Int32))]) st_12_78 k12_39 ow_12 cl_1_131 (by decide) rfl (Nat.le_of_ble_eq_true rfl) sk_120 (ok78 120 (0 : Int32) ((μ.1 120 1) - (2 : Int32)) sk_120 _ _ e6) (sk3 := [.int r5.2]) rfl rfl ?_
      refine sx_aload_n (i := 0) k12_42 rfl rfl ?_
      refine cx_getR (k := 5) k12_43 ow_12 fl_1_31 (by decide) sk_101 ft_0_5 sr_101_5 ?_
      refine sx_iload_n (i := 1) k12_46 rfl rfl ?_
      refine sx_iconst (v := 2) k12_47 (by decide) ?_
      refine sx_isub k12_48 ?_
      obtain ⟨r7, e8, h⟩ := Option.bind_eq_some_iff.mp h
      refine cx_V (sk := [.int r5.2]) (vs := [.int ((μ.1 120 1) - (2 : Int32))]) st_12_76 k12_49 ow_12 cl_1_128 (by decide) rfl (Nat.le_of_ble_eq_true rfl) sk_120 (ok76 120 ((μ.1 120 1) - (2 : Int32)) sk_120 _ _ e8) (sk3 := [.int r7.2, .int r5.2]) rfl rfl ?_
      by_cases hb9 : r5.2 = r7.2
      · rw [if_pos hb9] at h
        refine sx_icmp_eq (tgt := 57) k12_52 (by decide) (fun _ => ?_) (fun q => absurd hb9 q)
        refine sx_aload_n (i := 0) k12_57 rfl rfl ?_
        refine cx_getR (k := 5) k12_58 ow_12 fl_1_31 (by decide) sk_101 ft_0_5 sr_101_5 ?_
        refine sx_iconst (v := 0) k12_61 (by decide) ?_
        obtain ⟨r10, e11, h⟩ := Option.bind_eq_some_iff.mp h
        refine cx_V (sk := []) (vs := [.int (0 : Int32)]) st_12_76 k12_62 ow_12 cl_1_128 (by decide) rfl (Nat.le_of_ble_eq_true rfl) sk_120 (ok76 120 (0 : Int32) sk_120 _ _ e11) (sk3 := [.int r10.2]) rfl rfl ?_
        refine sx_sipush (v := 6156) k12_65 (by decide) ?_
        by_cases hb12 : r10.2 = (6156 : Int32)
        · rw [if_pos hb12] at h
          refine sx_icmp_ne (tgt := 89) k12_68 (by decide) (fun q => absurd hb12 q) (fun _ => ?_)
          refine sx_aload_n (i := 0) k12_71 rfl rfl ?_
          refine cx_getR (k := 5) k12_72 ow_12 fl_1_31 (by decide) sk_101 ft_0_5 sr_101_5 ?_
          refine sx_bipush (v := 6) k12_75 (by decide) ?_
          obtain ⟨r13, e14, h⟩ := Option.bind_eq_some_iff.mp h
          refine cx_V (sk := []) (vs := [.int (6 : Int32)]) st_12_75 k12_77 ow_12 cl_1_105 (by decide) rfl (Nat.le_of_ble_eq_true rfl) sk_120 (ok75 120 (6 : Int32) sk_120 _ _ e14) (sk3 := [.int r13.2]) rfl rfl ?_
          refine sx_sipush (v := 240) k12_80 (by decide) ?_
          refine sx_iand k12_83 ?_
          refine sx_bipush (v := 32) k12_84 (by decide) ?_
          by_cases hb15 : (r13.2 &&& (240 : Int32)) = (32 : Int32)
          · rw [if_pos hb15] at h
            refine sx_icmp_eq (tgt := 91) k12_86 (by decide) (fun _ => ?_) (fun q => absurd hb15 q)
            refine sx_aload_n (i := 0) k12_91 rfl rfl ?_
            obtain ⟨r16, e17, h⟩ := Option.bind_eq_some_iff.mp h
            refine cx_V (sk := []) (vs := []) st_12_13 k12_92 ow_12 cl_1_135 (by decide) rfl (Nat.le_of_ble_eq_true rfl) sk_101 (ok13 _ _ e17) (sk3 := [.int r16.2]) rfl rfl ?_
            refine cx_istore_n (lo2 := [(2, .int r16.2), (1, .int (μ.1 120 1)), (0, .ref 101)]) k12_95 rfl (by rw [mx_12]; decide) rfl ?_
            refine sx_iload_n (i := 2) k12_96 rfl rfl ?_
            by_cases hb18 : 0 ≤ r16.2
            · rw [if_pos hb18] at h
              refine sx_if_ge (tgt := 103) k12_97 (by decide) (fun _ => ?_) (fun q => absurd hb18 q)
              refine sx_aload_n (i := 0) k12_103 rfl rfl ?_
              refine sx_iload_n (i := 2) k12_104 rfl rfl ?_
              obtain ⟨r19, e20, h⟩ := Option.bind_eq_some_iff.mp h
              refine cx_V (sk := []) (vs := [.int r16.2]) st_12_14 k12_105 ow_12 cl_1_138 (by decide) rfl (Nat.le_of_ble_eq_true rfl) sk_101 (ok14 r16.2 _ _ e20) (sk3 := [.int r19.2]) rfl rfl ?_
              by_cases hb21 : r19.2 = 0
              · rw [if_pos hb21] at h
                refine sx_if_eq (tgt := 118) k12_108 (by decide) (fun _ => ?_) (fun q => absurd hb21 q)
                refine sx_bipush (v := 6) k12_118 (by decide) ?_
                exact cx_reti k12_120 rt_12 h
              · rw [if_neg hb21] at h
                refine sx_if_eq (tgt := 118) k12_108 (by decide) (fun q => absurd q hb21) (fun _ => ?_)
                refine sx_aload_n (i := 0) k12_111 rfl rfl ?_
                obtain ⟨r22, e23, h⟩ := Option.bind_eq_some_iff.mp h
                refine cx_V (sk := []) (vs := []) st_12_15 k12_112 ow_12 cl_1_141 (by decide) rfl (Nat.le_of_ble_eq_true rfl) sk_101 (ok15 _ _ e23) (sk3 := [.int r22.2]) rfl rfl ?_
                by_cases hb24 : r22.2 = 0
                · rw [if_pos hb24] at h
                  refine sx_if_ne (tgt := 121) k12_115 (by decide) (fun q => absurd hb24 q) (fun _ => ?_)
                  refine sx_bipush (v := 6) k12_118 (by decide) ?_
                  exact cx_reti k12_120 rt_12 h
                · rw [if_neg hb24] at h
                  refine sx_if_ne (tgt := 121) k12_115 (by decide) (fun _ => ?_) (fun q => absurd q hb24)
                  refine sx_aload_n (i := 0) k12_121 rfl rfl ?_
                  refine cx_getR (k := 2) k12_122 ow_12 fl_1_16 (by decide) sk_101 ft_0_2 sr_101_2 ?_
                  obtain ⟨r25, e26, h⟩ := Option.bind_eq_some_iff.mp h
                  refine cx_V (sk := []) (vs := []) st_12_159 k12_125 ow_12 cl_1_62 (by decide) rfl (Nat.le_of_ble_eq_true rfl) sk_102 (ok159 102 sk_102 _ _ e26) (sk3 := [.int r25.2]) rfl rfl ?_
                  by_cases hb27 : r25.2 = 0
                  · rw [if_pos hb27] at h
                    refine sx_if_eq (tgt := 135) k12_128 (by decide) (fun _ => ?_) (fun q => absurd hb27 q)
                    refine sx_bipush (v := 7) k12_135 (by decide) ?_
                    exact cx_reti k12_137 rt_12 h
                  · rw [if_neg hb27] at h
                    refine sx_if_eq (tgt := 135) k12_128 (by decide) (fun q => absurd q hb27) (fun _ => ?_)
                    refine sx_iconst (v := 0) k12_131 (by decide) ?_
                    refine sx_goto (tgt := 137) k12_132 (by decide) ?_
                    exact cx_reti k12_137 rt_12 h
            · rw [if_neg hb18] at h
              refine sx_if_ge (tgt := 103) k12_97 (by decide) (fun q => absurd q hb18) (fun _ => ?_)
              refine sx_iload_n (i := 2) k12_100 rfl rfl ?_
              refine sx_ineg k12_101 ?_
              exact cx_reti k12_102 rt_12 h
          · rw [if_neg hb15] at h
            refine sx_icmp_eq (tgt := 91) k12_86 (by decide) (fun q => absurd q hb15) (fun _ => ?_)
            refine sx_iconst (v := 3) k12_89 (by decide) ?_
            exact cx_reti k12_90 rt_12 h
        · rw [if_neg hb12] at h
          refine sx_icmp_ne (tgt := 89) k12_68 (by decide) (fun _ => ?_) (fun q => absurd q hb12)
          refine sx_iconst (v := 3) k12_89 (by decide) ?_
          exact cx_reti k12_90 rt_12 h
      · rw [if_neg hb9] at h
        refine sx_icmp_eq (tgt := 57) k12_52 (by decide) (fun q => absurd q hb9) (fun _ => ?_)
        refine sx_iconst (v := 2) k12_55 (by decide) ?_
        exact cx_reti k12_56 rt_12 h
    · rw [if_neg hb4] at h
      refine sx_icmp_eq (tgt := 31) k12_26 (by decide) (fun q => absurd q hb4) (fun _ => ?_)
      refine sx_iconst (v := 1) k12_29 (by decide) ?_
      exact cx_reti k12_30 rt_12 h
theorem k11_0 : decode (gb 11) 0 = .ok (.aload_n 0, 1) := by decide +kernel
theorem k11_1 : decode (gb 11) 1 = .ok (.getfield 51, 3) := by decide +kernel
theorem k11_4 : decode (gb 11) 4 = .ok (.iconst 1, 1) := by decide +kernel
theorem k11_5 : decode (gb 11) 5 = .ok (.iload_n 2, 1) := by decide +kernel
theorem k11_6 : decode (gb 11) 6 = .ok (.invokevirtual 116, 3) := by decide +kernel
theorem k11_9 : decode (gb 11) 9 = .ok (.aload_n 0, 1) := by decide +kernel
theorem k11_10 : decode (gb 11) 10 = .ok (.getfield 51, 3) := by decide +kernel
theorem k11_13 : decode (gb 11) 13 = .ok (.getfield 119, 3) := by decide +kernel
theorem k11_16 : decode (gb 11) 16 = .ok (.aload_n 1, 1) := by decide +kernel
theorem k11_17 : decode (gb 11) 17 = .ok (.iconst 2, 1) := by decide +kernel
theorem k11_18 : decode (gb 11) 18 = .ok (.invokevirtual 105, 3) := by decide +kernel
theorem k11_21 : decode (gb 11) 21 = .ok (.invokevirtual 122, 3) := by decide +kernel
theorem k11_24 : decode (gb 11) 24 = .ok (.aload_n 0, 1) := by decide +kernel
theorem k11_25 : decode (gb 11) 25 = .ok (.getfield 51, 3) := by decide +kernel
theorem k11_28 : decode (gb 11) 28 = .ok (.getfield 119, 3) := by decide +kernel
theorem k11_31 : decode (gb 11) 31 = .ok (.aload_n 1, 1) := by decide +kernel
theorem k11_32 : decode (gb 11) 32 = .ok (.iconst 3, 1) := by decide +kernel
theorem k11_33 : decode (gb 11) 33 = .ok (.invokevirtual 105, 3) := by decide +kernel
theorem k11_36 : decode (gb 11) 36 = .ok (.invokevirtual 122, 3) := by decide +kernel
theorem k11_39 : decode (gb 11) 39 = .ok (.iload_n 3, 1) := by decide +kernel
theorem k11_40 : decode (gb 11) 40 = .ok (.ifCond .eq 14, 3) := by decide +kernel
theorem k11_43 : decode (gb 11) 43 = .ok (.aload_n 0, 1) := by decide +kernel
theorem k11_44 : decode (gb 11) 44 = .ok (.getfield 51, 3) := by decide +kernel
theorem k11_47 : decode (gb 11) 47 = .ok (.getfield 119, 3) := by decide +kernel
theorem k11_50 : decode (gb 11) 50 = .ok (.iload_n 3, 1) := by decide +kernel
theorem k11_51 : decode (gb 11) 51 = .ok (.invokevirtual 122, 3) := by decide +kernel
theorem k11_54 : decode (gb 11) 54 = .ok (.aload_n 0, 1) := by decide +kernel
theorem k11_55 : decode (gb 11) 55 = .ok (.getfield 51, 3) := by decide +kernel
theorem k11_58 : decode (gb 11) 58 = .ok (.invokevirtual 125, 3) := by decide +kernel
theorem k11_61 : decode (gb 11) 61 = .ok (.return_, 1) := by decide +kernel
def c11_54 (p1 : Nat) (μ : Mem) : Option (Mem) :=
  (f119 μ).bind fun r1 =>
  some r1
theorem c11_54_ok {L : Nat} (p1 : Nat) (h1 : SK0 p1 = (0, 1)) (μ : Mem) (res : Mem) (h : c11_54 p1 μ = some res) : Sx 11 54 [(0, .ref 101)] [] 0 0 (mk L μ) (mk L res, none) := by
  unfold c11_54 at h
  refine sx_aload_n (i := 0) k11_54 rfl rfl ?_
  refine cx_getR (k := 0) k11_55 ow_11 fl_1_51 (by decide) sk_101 ft_0_0 sr_101_0 ?_
  obtain ⟨r1, e2, h⟩ := Option.bind_eq_some_iff.mp h
  refine cx_V (sk := []) (vs := []) st_11_119 k11_58 ow_11 cl_1_125 (by decide) rfl (Nat.le_of_ble_eq_true rfl) sk_57 (ok119 _ _ e2) (sk3 := []) rfl rfl ?_
  exact cx_retv k11_61 rt_11 h
/-- Board.report(LCraftHouse$Bytes;II)V -/
def f11 (p1 : Nat) (p2 : Int32) (p3 : Int32) (μ : Mem) : Option (Mem) :=
  (f117 (1 : Int32) p2 μ).bind fun r1 =>
  (f75 p1 (2 : Int32) r1).bind fun r3 =>
  (f65 87 r3.2 r3.1).bind fun r5 =>
  (f75 p1 (3 : Int32) r5).bind fun r7 =>
  (f65 87 r7.2 r7.1).bind fun r9 =>
  if p3 = 0 then
    c11_54 p1 r9
  else
    (f65 87 p3 r9).bind fun r12 =>
    c11_54 p1 r12
theorem ok11 {L : Nat} (p1 : Nat) (p2 : Int32) (p3 : Int32) (h1 : SK0 p1 = (0, 1)) (μ : Mem) (res : Mem) (h : f11 p1 p2 p3 μ = some res) : Mx 11 [.ref 101, .ref p1, .int p2, .int p3] (mk L μ) (mk L res, none) := by
  refine Mx_of ml_11 (by rw [mx_11]; exact Nat.le_of_ble_eq_true rfl) ?_
  show Sx 11 0 [(0, .ref 101), (1, .ref p1), (2, .int p2), (3, .int p3)] [] 0 0 (mk L μ) _
  unfold f11 at h
  refine sx_aload_n (i := 0) k11_0 rfl rfl ?_
  refine cx_getR (k := 0) k11_1 ow_11 fl_1_51 (by decide) sk_101 ft_0_0 sr_101_0 ?_
  refine sx_iconst (v := 1) k11_4 (by decide) ?_
  refine sx_iload_n (i := 2) k11_5 rfl rfl ?_
  obtain ⟨r1, e2, h⟩ := Option.bind_eq_some_iff.mp h
  refine cx_V (sk := []) (vs := [.int (1 : Int32), .int p2]) st_11_117 k11_6 ow_11 cl_1_116 (by decide) rfl (Nat.le_of_ble_eq_true rfl) sk_57 (ok117 (1 : Int32) p2 _ _ e2) (sk3 := []) rfl rfl ?_
  refine sx_aload_n (i := 0) k11_9 rfl rfl ?_
  refine cx_getR (k := 0) k11_10 ow_11 fl_1_51 (by decide) sk_101 ft_0_0 sr_101_0 ?_
  refine cx_getR (k := 5) k11_13 ow_11 fl_1_119 (by decide) sk_57 ft_5_5 sr_57_5 ?_
  refine sx_aload_n (i := 1) k11_16 rfl rfl ?_
  refine sx_iconst (v := 2) k11_17 (by decide) ?_
  obtain ⟨r3, e4, h⟩ := Option.bind_eq_some_iff.mp h
  refine cx_V (sk := [.ref 87]) (vs := [.int (2 : Int32)]) st_11_75 k11_18 ow_11 cl_1_105 (by decide) rfl (Nat.le_of_ble_eq_true rfl) h1 (ok75 p1 (2 : Int32) h1 _ _ e4) (sk3 := [.int r3.2, .ref 87]) rfl rfl ?_
  obtain ⟨r5, e6, h⟩ := Option.bind_eq_some_iff.mp h
  refine cx_V (sk := []) (vs := [.int r3.2]) st_11_65 k11_21 ow_11 cl_1_122 (by decide) rfl (Nat.le_of_ble_eq_true rfl) sk_87 (ok65 87 r3.2 sk_87 _ _ e6) (sk3 := []) rfl rfl ?_
  refine sx_aload_n (i := 0) k11_24 rfl rfl ?_
  refine cx_getR (k := 0) k11_25 ow_11 fl_1_51 (by decide) sk_101 ft_0_0 sr_101_0 ?_
  refine cx_getR (k := 5) k11_28 ow_11 fl_1_119 (by decide) sk_57 ft_5_5 sr_57_5 ?_
  refine sx_aload_n (i := 1) k11_31 rfl rfl ?_
  refine sx_iconst (v := 3) k11_32 (by decide) ?_
  obtain ⟨r7, e8, h⟩ := Option.bind_eq_some_iff.mp h
  refine cx_V (sk := [.ref 87]) (vs := [.int (3 : Int32)]) st_11_75 k11_33 ow_11 cl_1_105 (by decide) rfl (Nat.le_of_ble_eq_true rfl) h1 (ok75 p1 (3 : Int32) h1 _ _ e8) (sk3 := [.int r7.2, .ref 87]) rfl rfl ?_
  obtain ⟨r9, e10, h⟩ := Option.bind_eq_some_iff.mp h
  refine cx_V (sk := []) (vs := [.int r7.2]) st_11_65 k11_36 ow_11 cl_1_122 (by decide) rfl (Nat.le_of_ble_eq_true rfl) sk_87 (ok65 87 r7.2 sk_87 _ _ e10) (sk3 := []) rfl rfl ?_
  refine sx_iload_n (i := 3) k11_39 rfl rfl ?_
  by_cases hb11 : p3 = 0
  · rw [if_pos hb11] at h
    refine sx_if_eq (tgt := 54) k11_40 (by decide) (fun _ => ?_) (fun q => absurd hb11 q)
    refine sx_pick (lo2 := [(0, .ref 101)]) [0] rfl ?_
    exact c11_54_ok p1 h1 _ _ h
  · rw [if_neg hb11] at h
    refine sx_if_eq (tgt := 54) k11_40 (by decide) (fun q => absurd q hb11) (fun _ => ?_)
    refine sx_aload_n (i := 0) k11_43 rfl rfl ?_
    refine cx_getR (k := 0) k11_44 ow_11 fl_1_51 (by decide) sk_101 ft_0_0 sr_101_0 ?_
    refine cx_getR (k := 5) k11_47 ow_11 fl_1_119 (by decide) sk_57 ft_5_5 sr_57_5 ?_
    refine sx_iload_n (i := 3) k11_50 rfl rfl ?_
    obtain ⟨r12, e13, h⟩ := Option.bind_eq_some_iff.mp h
    refine cx_V (sk := []) (vs := [.int p3]) st_11_65 k11_51 ow_11 cl_1_122 (by decide) rfl (Nat.le_of_ble_eq_true rfl) sk_87 (ok65 87 p3 sk_87 _ _ e13) (sk3 := []) rfl rfl ?_
    refine sx_pick (lo2 := [(0, .ref 101)]) [0] rfl ?_
    exact c11_54_ok p1 h1 _ _ h
theorem k10_0 : decode (gb 10) 0 = .ok (.aload_n 0, 1) := by decide +kernel
theorem k10_1 : decode (gb 10) 1 = .ok (.invokevirtual 97, 3) := by decide +kernel
theorem k10_4 : decode (gb 10) 4 = .ok (.istore_n 2, 1) := by decide +kernel
theorem k10_5 : decode (gb 10) 5 = .ok (.iload_n 2, 1) := by decide +kernel
theorem k10_6 : decode (gb 10) 6 = .ok (.ifCond .eq 25, 3) := by decide +kernel
theorem k10_9 : decode (gb 10) 9 = .ok (.aload_n 0, 1) := by decide +kernel
theorem k10_10 : decode (gb 10) 10 = .ok (.getfield 38, 3) := by decide +kernel
theorem k10_13 : decode (gb 10) 13 = .ok (.bipush 18, 2) := by decide +kernel
theorem k10_15 : decode (gb 10) 15 = .ok (.dup2, 1) := by decide +kernel
theorem k10_16 : decode (gb 10) 16 = .ok (.iaload, 1) := by decide +kernel
theorem k10_17 : decode (gb 10) 17 = .ok (.iconst 1, 1) := by decide +kernel
theorem k10_18 : decode (gb 10) 18 = .ok (.iadd, 1) := by decide +kernel
theorem k10_19 : decode (gb 10) 19 = .ok (.iastore, 1) := by decide +kernel
theorem k10_20 : decode (gb 10) 20 = .ok (.aload_n 0, 1) := by decide +kernel
theorem k10_21 : decode (gb 10) 21 = .ok (.aload_n 0, 1) := by decide +kernel
theorem k10_22 : decode (gb 10) 22 = .ok (.getfield 31, 3) := by decide +kernel
theorem k10_25 : decode (gb 10) 25 = .ok (.iconst 2, 1) := by decide +kernel
theorem k10_26 : decode (gb 10) 26 = .ok (.iload_n 2, 1) := by decide +kernel
theorem k10_27 : decode (gb 10) 27 = .ok (.invokevirtual 101, 3) := by decide +kernel
theorem k10_30 : decode (gb 10) 30 = .ok (.return_, 1) := by decide +kernel
theorem k10_31 : decode (gb 10) 31 = .ok (.aload_n 0, 1) := by decide +kernel
theorem k10_32 : decode (gb 10) 32 = .ok (.getfield 31, 3) := by decide +kernel
theorem k10_35 : decode (gb 10) 35 = .ok (.bipush 6, 2) := by decide +kernel
theorem k10_37 : decode (gb 10) 37 = .ok (.invokevirtual 105, 3) := by decide +kernel
theorem k10_40 : decode (gb 10) 40 = .ok (.bipush 8, 2) := by decide +kernel
theorem k10_42 : decode (gb 10) 42 = .ok (.iand, 1) := by decide +kernel
theorem k10_43 : decode (gb 10) 43 = .ok (.ifCond .eq 13, 3) := by decide +kernel
theorem k10_46 : decode (gb 10) 46 = .ok (.aload_n 0, 1) := by decide +kernel
theorem k10_47 : decode (gb 10) 47 = .ok (.aload_n 0, 1) := by decide +kernel
theorem k10_48 : decode (gb 10) 48 = .ok (.getfield 31, 3) := by decide +kernel
theorem k10_51 : decode (gb 10) 51 = .ok (.iconst 1, 1) := by decide +kernel
theorem k10_52 : decode (gb 10) 52 = .ok (.iconst 0, 1) := by decide +kernel
theorem k10_53 : decode (gb 10) 53 = .ok (.invokevirtual 101, 3) := by decide +kernel
theorem k10_56 : decode (gb 10) 56 = .ok (.aload_n 0, 1) := by decide +kernel
theorem k10_57 : decode (gb 10) 57 = .ok (.getfield 16, 3) := by decide +kernel
theorem k10_60 : decode (gb 10) 60 = .ok (.aload_n 0, 1) := by decide +kernel
theorem k10_61 : decode (gb 10) 61 = .ok (.getfield 31, 3) := by decide +kernel
theorem k10_64 : decode (gb 10) 64 = .ok (.iconst 0, 1) := by decide +kernel
theorem k10_65 : decode (gb 10) 65 = .ok (.aload_n 0, 1) := by decide +kernel
theorem k10_66 : decode (gb 10) 66 = .ok (.getfield 31, 3) := by decide +kernel
theorem k10_69 : decode (gb 10) 69 = .ok (.getfield 109, 3) := by decide +kernel
theorem k10_72 : decode (gb 10) 72 = .ok (.iload_n 1, 1) := by decide +kernel
theorem k10_73 : decode (gb 10) 73 = .ok (.iconst 0, 1) := by decide +kernel
theorem k10_74 : decode (gb 10) 74 = .ok (.invokevirtual 112, 3) := by decide +kernel
theorem k10_77 : decode (gb 10) 77 = .ok (.pop, 1) := by decide +kernel
theorem k10_78 : decode (gb 10) 78 = .ok (.return_, 1) := by decide +kernel
def c10_56 (v1 : Int32) (μ : Mem) : Option (Mem) :=
  (f161 102 120 (0 : Int32) (μ.1 120 1) v1 (0 : Int32) μ).bind fun r1 =>
  some r1.1
theorem c10_56_ok {L : Nat} (v1 : Int32) (μ : Mem) (res : Mem) (h : c10_56 v1 μ = some res) : Sx 10 56 [(0, .ref 101), (1, .int v1)] [] 0 0 (mk L μ) (mk L res, none) := by
  unfold c10_56 at h
  refine sx_aload_n (i := 0) k10_56 rfl rfl ?_
  refine cx_getR (k := 2) k10_57 ow_10 fl_1_16 (by decide) sk_101 ft_0_2 sr_101_2 ?_
  refine sx_aload_n (i := 0) k10_60 rfl rfl ?_
  refine cx_getR (k := 5) k10_61 ow_10 fl_1_31 (by decide) sk_101 ft_0_5 sr_101_5 ?_
  refine sx_iconst (v := 0) k10_64 (by decide) ?_
  refine sx_aload_n (i := 0) k10_65 rfl rfl ?_
  refine cx_getR (k := 5) k10_66 ow_10 fl_1_31 (by decide) sk_101 ft_0_5 sr_101_5 ?_
  refine cx_getI (k := 1) k10_69 ow_10 fl_1_109 (by decide) sk_120 ft_1_1 ?_
  refine sx_iload_n (i := 1) k10_72 rfl rfl ?_
  refine sx_iconst (v := 0) k10_73 (by decide) ?_
  obtain ⟨r1, e2, h⟩ := Option.bind_eq_some_iff.mp h
  refine cx_V (sk := []) (vs := [.ref 120, .int (0 : Int32), .int (μ.1 120 1), .int v1, .int (0 : Int32)]) st_10_161 k10_74 ow_10 cl_1_112 (by decide) rfl (Nat.le_of_ble_eq_true rfl) sk_102 (ok161 102 120 (0 : Int32) (μ.1 120 1) v1 (0 : Int32) sk_102 sk_120 _ _ e2) (sk3 := [.int r1.2]) rfl rfl ?_
  refine sx_pop k10_77 rfl ?_
  exact cx_retv k10_78 rt_10 h
/-- Board.look(I)V -/
def f10 (p1 : Int32) (μ : Mem) : Option (Mem) :=
  (f12 μ).bind fun r1 =>
  if r1.2 = 0 then
    (f75 120 (6 : Int32) r1.1).bind fun r4 =>
    if (r4.2 &&& (8 : Int32)) = 0 then
      c10_56 p1 r4.1
    else
      (f11 120 (1 : Int32) (0 : Int32) r4.1).bind fun r7 =>
      c10_56 p1 r7
  else
    (ldA 124 (18 : Int32) r1.1).bind fun x9 =>
    (stA 124 (18 : Int32) (x9 + (1 : Int32)) r1.1).bind fun m11 =>
    (f11 120 (2 : Int32) r1.2 m11).bind fun r13 =>
    some r13
theorem ok10 {L : Nat} (p1 : Int32) (μ : Mem) (res : Mem) (h : f10 p1 μ = some res) : Mx 10 [.ref 101, .int p1] (mk L μ) (mk L res, none) := by
  refine Mx_of ml_10 (by rw [mx_10]; exact Nat.le_of_ble_eq_true rfl) ?_
  show Sx 10 0 [(0, .ref 101), (1, .int p1)] [] 0 0 (mk L μ) _
  unfold f10 at h
  refine sx_aload_n (i := 0) k10_0 rfl rfl ?_
  obtain ⟨r1, e2, h⟩ := Option.bind_eq_some_iff.mp h
  refine cx_V (sk := []) (vs := []) st_10_12 k10_1 ow_10 cl_1_97 (by decide) rfl (Nat.le_of_ble_eq_true rfl) sk_101 (ok12 _ _ e2) (sk3 := [.int r1.2]) rfl rfl ?_
  refine cx_istore_n (lo2 := [(2, .int r1.2), (0, .ref 101), (1, .int p1)]) k10_4 rfl (by rw [mx_10]; decide) rfl ?_
  refine sx_iload_n (i := 2) k10_5 rfl rfl ?_
  by_cases hb3 : r1.2 = 0
  · rw [if_pos hb3] at h
    refine sx_if_eq (tgt := 31) k10_6 (by decide) (fun _ => ?_) (fun q => absurd hb3 q)
    refine sx_aload_n (i := 0) k10_31 rfl rfl ?_
    refine cx_getR (k := 5) k10_32 ow_10 fl_1_31 (by decide) sk_101 ft_0_5 sr_101_5 ?_
    refine sx_bipush (v := 6) k10_35 (by decide) ?_
    obtain ⟨r4, e5, h⟩ := Option.bind_eq_some_iff.mp h
    refine cx_V (sk := []) (vs := [.int (6 : Int32)]) st_10_75 k10_37 ow_10 cl_1_105 (by decide) rfl (Nat.le_of_ble_eq_true rfl) sk_120 (ok75 120 (6 : Int32) sk_120 _ _ e5) (sk3 := [.int r4.2]) rfl rfl ?_
    refine sx_bipush (v := 8) k10_40 (by decide) ?_
    refine sx_iand k10_42 ?_
    by_cases hb6 : (r4.2 &&& (8 : Int32)) = 0
    · rw [if_pos hb6] at h
      refine sx_if_eq (tgt := 56) k10_43 (by decide) (fun _ => ?_) (fun q => absurd hb6 q)
      refine sx_pick (lo2 := [(0, .ref 101), (1, .int p1)]) [1, 2] rfl ?_
      exact c10_56_ok p1 _ _ h
    · rw [if_neg hb6] at h
      refine sx_if_eq (tgt := 56) k10_43 (by decide) (fun q => absurd q hb6) (fun _ => ?_)
      refine sx_aload_n (i := 0) k10_46 rfl rfl ?_
      refine sx_aload_n (i := 0) k10_47 rfl rfl ?_
      refine cx_getR (k := 5) k10_48 ow_10 fl_1_31 (by decide) sk_101 ft_0_5 sr_101_5 ?_
      refine sx_iconst (v := 1) k10_51 (by decide) ?_
      refine sx_iconst (v := 0) k10_52 (by decide) ?_
      obtain ⟨r7, e8, h⟩ := Option.bind_eq_some_iff.mp h
      refine cx_V (sk := []) (vs := [.ref 120, .int (1 : Int32), .int (0 : Int32)]) st_10_11 k10_53 ow_10 cl_1_101 (by decide) rfl (Nat.le_of_ble_eq_true rfl) sk_101 (ok11 120 (1 : Int32) (0 : Int32) sk_120 _ _ e8) (sk3 := []) rfl rfl ?_
      refine sx_pick (lo2 := [(0, .ref 101), (1, .int p1)]) [1, 2] rfl ?_
      exact c10_56_ok p1 _ _ h
  · rw [if_neg hb3] at h
    refine sx_if_eq (tgt := 31) k10_6 (by decide) (fun q => absurd q hb3) (fun _ => ?_)
    refine sx_aload_n (i := 0) k10_9 rfl rfl ?_
    refine cx_getR (k := 7) k10_10 ow_10 fl_1_38 (by decide) sk_101 ft_0_7 sr_101_7 ?_
    refine sx_bipush (v := 18) k10_13 (by decide) ?_
    refine sx_dup2 k10_15 rfl rfl ?_
    obtain ⟨x9, e10, h⟩ := Option.bind_eq_some_iff.mp h
    refine cx_iald k10_16 sk_124 e10 ?_
    refine sx_iconst (v := 1) k10_17 (by decide) ?_
    refine sx_iadd k10_18 ?_
    obtain ⟨m11, e12, h⟩ := Option.bind_eq_some_iff.mp h
    refine cx_iast k10_19 sk_124 e12 ?_
    refine sx_aload_n (i := 0) k10_20 rfl rfl ?_
    refine sx_aload_n (i := 0) k10_21 rfl rfl ?_
    refine cx_getR (k := 5) k10_22 ow_10 fl_1_31 (by decide) sk_101 ft_0_5 sr_101_5 ?_
    refine sx_iconst (v := 2) k10_25 (by decide) ?_
    refine sx_iload_n (i := 2) k10_26 rfl rfl ?_
    obtain ⟨r13, e14, h⟩ := Option.bind_eq_some_iff.mp h
    refine cx_V (sk := []) (vs := [.ref 120, .int (2 : Int32), .int r1.2]) st_10_11 k10_27 ow_10 cl_1_101 (by decide) rfl (Nat.le_of_ble_eq_true rfl) sk_101 (ok11 120 (2 : Int32) r1.2 sk_120 _ _ e14) (sk3 := []) rfl rfl ?_
    exact cx_retv k10_30 rt_10 h
theorem k20_0 : decode (gb 20) 0 = .ok (.aload_n 0, 1) := by decide +kernel
theorem k20_1 : decode (gb 20) 1 = .ok (.getfield 35, 3) := by decide +kernel
theorem k20_4 : decode (gb 20) 4 = .ok (.bipush 11, 2) := by decide +kernel
theorem k20_6 : decode (gb 20) 6 = .ok (.iload_n 1, 1) := by decide +kernel
theorem k20_7 : decode (gb 20) 7 = .ok (.iadd, 1) := by decide +kernel
theorem k20_8 : decode (gb 20) 8 = .ok (.invokevirtual 105, 3) := by decide +kernel
theorem k20_11 : decode (gb 20) 11 = .ok (.ireturn, 1) := by decide +kernel
/-- Board.arg(I)I -/
def f20 (p1 : Int32) (μ : Mem) : Option (Mem × Int32) :=
  (f75 122 ((11 : Int32) + p1) μ).bind fun r1 =>
  some (r1.1, r1.2)
theorem ok20 {L : Nat} (p1 : Int32) (μ : Mem) (res : Mem × Int32) (h : f20 p1 μ = some res) : Mx 20 [.ref 101, .int p1] (mk L μ) (mk L res.1, some (.int res.2)) := by
  refine Mx_of ml_20 (by rw [mx_20]; exact Nat.le_of_ble_eq_true rfl) ?_
  show Sx 20 0 [(0, .ref 101), (1, .int p1)] [] 0 0 (mk L μ) _
  unfold f20 at h
  refine sx_aload_n (i := 0) k20_0 rfl rfl ?_
  refine cx_getR (k := 6) k20_1 ow_20 fl_1_35 (by decide) sk_101 ft_0_6 sr_101_6 ?_
  refine sx_bipush (v := 11) k20_4 (by decide) ?_
  refine sx_iload_n (i := 1) k20_6 rfl rfl ?_
  refine sx_iadd k20_7 ?_
  obtain ⟨r1, e2, h⟩ := Option.bind_eq_some_iff.mp h
  refine cx_V (sk := []) (vs := [.int ((11 : Int32) + p1)]) st_20_75 k20_8 ow_20 cl_1_105 (by decide) rfl (Nat.le_of_ble_eq_true rfl) sk_122 (ok75 122 ((11 : Int32) + p1) sk_122 _ _ e2) (sk3 := [.int r1.2]) rfl rfl ?_
  exact cx_reti k20_11 rt_20 h
theorem k23_0 : decode (gb 23) 0 = .ok (.aload_n 0, 1) := by decide +kernel
theorem k23_1 : decode (gb 23) 1 = .ok (.getfield 35, 3) := by decide +kernel
theorem k23_4 : decode (gb 23) 4 = .ok (.bipush 8, 2) := by decide +kernel
theorem k23_6 : decode (gb 23) 6 = .ok (.invokevirtual 105, 3) := by decide +kernel
theorem k23_9 : decode (gb 23) 9 = .ok (.ireturn, 1) := by decide +kernel
/-- Board.subtype()I -/
def f23 (μ : Mem) : Option (Mem × Int32) :=
  (f75 122 (8 : Int32) μ).bind fun r1 =>
  some (r1.1, r1.2)
theorem ok23 {L : Nat} (μ : Mem) (res : Mem × Int32) (h : f23 μ = some res) : Mx 23 [.ref 101] (mk L μ) (mk L res.1, some (.int res.2)) := by
  refine Mx_of ml_23 (by rw [mx_23]; exact Nat.le_of_ble_eq_true rfl) ?_
  show Sx 23 0 [(0, .ref 101)] [] 0 0 (mk L μ) _
  unfold f23 at h
  refine sx_aload_n (i := 0) k23_0 rfl rfl ?_
  refine cx_getR (k := 6) k23_1 ow_23 fl_1_35 (by decide) sk_101 ft_0_6 sr_101_6 ?_
  refine sx_bipush (v := 8) k23_4 (by decide) ?_
  obtain ⟨r1, e2, h⟩ := Option.bind_eq_some_iff.mp h
  refine cx_V (sk := []) (vs := [.int (8 : Int32)]) st_23_75 k23_6 ow_23 cl_1_105 (by decide) rfl (Nat.le_of_ble_eq_true rfl) sk_122 (ok75 122 (8 : Int32) sk_122 _ _ e2) (sk3 := [.int r1.2]) rfl rfl ?_
  exact cx_reti k23_9 rt_23 h
theorem k34_0 : decode (gb 34) 0 = .ok (.iload_n 1, 1) := by decide +kernel
theorem k34_1 : decode (gb 34) 1 = .ok (.ifCond .lt 27, 3) := by decide +kernel
theorem k34_4 : decode (gb 34) 4 = .ok (.iload_n 1, 1) := by decide +kernel
theorem k34_5 : decode (gb 34) 5 = .ok (.bipush 6, 2) := by decide +kernel
theorem k34_7 : decode (gb 34) 7 = .ok (.if_icmp .ge 21, 3) := by decide +kernel
theorem k34_10 : decode (gb 34) 10 = .ok (.aload_n 0, 1) := by decide +kernel
theorem k34_11 : decode (gb 34) 11 = .ok (.getfield 42, 3) := by decide +kernel
theorem k34_14 : decode (gb 34) 14 = .ok (.iload_n 1, 1) := by decide +kernel
theorem k34_15 : decode (gb 34) 15 = .ok (.bipush 13, 2) := by decide +kernel
theorem k34_17 : decode (gb 34) 17 = .ok (.imul, 1) := by decide +kernel
theorem k34_18 : decode (gb 34) 18 = .ok (.iconst 0, 1) := by decide +kernel
theorem k34_19 : decode (gb 34) 19 = .ok (.iadd, 1) := by decide +kernel
theorem k34_20 : decode (gb 34) 20 = .ok (.iaload, 1) := by decide +kernel
theorem k34_21 : decode (gb 34) 21 = .ok (.ifCond .eq 7, 3) := by decide +kernel
theorem k34_24 : decode (gb 34) 24 = .ok (.iconst 1, 1) := by decide +kernel
theorem k34_25 : decode (gb 34) 25 = .ok (.goto 4, 3) := by decide +kernel
theorem k34_28 : decode (gb 34) 28 = .ok (.iconst 0, 1) := by decide +kernel
theorem k34_29 : decode (gb 34) 29 = .ok (.ireturn, 1) := by decide +kernel
/-- Board.isThere(I)Z -/
def f34 (p1 : Int32) (μ : Mem) : Option (Mem × Int32) :=
  if p1 < 0 then
    rtZ (0 : Int32) μ
  else
    if (6 : Int32) ≤ p1 then
      rtZ (0 : Int32) μ
    else
      (ldA 125 ((p1 * (13 : Int32)) + (0 : Int32)) μ).bind fun x3 =>
      if x3 = 0 then
        rtZ (0 : Int32) μ
      else
        rtZ (1 : Int32) μ
theorem ok34 {L : Nat} (p1 : Int32) (μ : Mem) (res : Mem × Int32) (h : f34 p1 μ = some res) : Mx 34 [.ref 101, .int p1] (mk L μ) (mk L res.1, some (.int res.2)) := by
  refine Mx_of ml_34 (by rw [mx_34]; exact Nat.le_of_ble_eq_true rfl) ?_
  show Sx 34 0 [(0, .ref 101), (1, .int p1)] [] 0 0 (mk L μ) _
  unfold f34 at h
  refine sx_iload_n (i := 1) k34_0 rfl rfl ?_
  by_cases hb1 : p1 < 0
  · rw [if_pos hb1] at h
    refine sx_if_lt (tgt := 28) k34_1 (by decide) (fun _ => ?_) (fun q => absurd hb1 q)
    refine sx_iconst (v := 0) k34_28 (by decide) ?_
    exact cx_retz k34_29 rt_34 h
  · rw [if_neg hb1] at h
    refine sx_if_lt (tgt := 28) k34_1 (by decide) (fun q => absurd q hb1) (fun _ => ?_)
    refine sx_iload_n (i := 1) k34_4 rfl rfl ?_
    refine sx_bipush (v := 6) k34_5 (by decide) ?_
    by_cases hb2 : (6 : Int32) ≤ p1
    · rw [if_pos hb2] at h
      refine sx_icmp_ge (tgt := 28) k34_7 (by decide) (fun _ => ?_) (fun q => absurd hb2 q)
      refine sx_iconst (v := 0) k34_28 (by decide) ?_
      exact cx_retz k34_29 rt_34 h
    · rw [if_neg hb2] at h
      refine sx_icmp_ge (tgt := 28) k34_7 (by decide) (fun q => absurd q hb2) (fun _ => ?_)
      refine sx_aload_n (i := 0) k34_10 rfl rfl ?_
      refine cx_getR (k := 8) k34_11 ow_34 fl_1_42 (by decide) sk_101 ft_0_8 sr_101_8 ?_
      refine sx_iload_n (i := 1) k34_14 rfl rfl ?_
      refine sx_bipush (v := 13) k34_15 (by decide) ?_
      refine sx_imul k34_17 ?_
      refine sx_iconst (v := 0) k34_18 (by decide) ?_
      refine sx_iadd k34_19 ?_
      obtain ⟨x3, e4, h⟩ := Option.bind_eq_some_iff.mp h
      refine cx_iald k34_20 sk_125 e4 ?_
      by_cases hb5 : x3 = 0
      · rw [if_pos hb5] at h
        refine sx_if_eq (tgt := 28) k34_21 (by decide) (fun _ => ?_) (fun q => absurd hb5 q)
        refine sx_iconst (v := 0) k34_28 (by decide) ?_
        exact cx_retz k34_29 rt_34 h
      · rw [if_neg hb5] at h
        refine sx_if_eq (tgt := 28) k34_21 (by decide) (fun q => absurd q hb5) (fun _ => ?_)
        refine sx_iconst (v := 1) k34_24 (by decide) ?_
        refine sx_goto (tgt := 29) k34_25 (by decide) ?_
        exact cx_retz k34_29 rt_34 h
theorem k33_0 : decode (gb 33) 0 = .ok (.aload_n 0, 1) := by decide +kernel
theorem k33_1 : decode (gb 33) 1 = .ok (.iconst 0, 1) := by decide +kernel
theorem k33_2 : decode (gb 33) 2 = .ok (.invokevirtual 193, 3) := by decide +kernel
theorem k33_5 : decode (gb 33) 5 = .ok (.istore_n 1, 1) := by decide +kernel
theorem k33_6 : decode (gb 33) 6 = .ok (.aload_n 0, 1) := by decide +kernel
theorem k33_7 : decode (gb 33) 7 = .ok (.invokevirtual 247, 3) := by decide +kernel
theorem k33_10 : decode (gb 33) 10 = .ok (.iconst 1, 1) := by decide +kernel
theorem k33_11 : decode (gb 33) 11 = .ok (.if_icmp .ne 56, 3) := by decide +kernel
theorem k33_14 : decode (gb 33) 14 = .ok (.iconst 0, 1) := by decide +kernel
theorem k33_15 : decode (gb 33) 15 = .ok (.istore_n 2, 1) := by decide +kernel
theorem k33_16 : decode (gb 33) 16 = .ok (.iload_n 2, 1) := by decide +kernel
theorem k33_17 : decode (gb 33) 17 = .ok (.aload_n 0, 1) := by decide +kernel
theorem k33_18 : decode (gb 33) 18 = .ok (.iconst 3, 1) := by decide +kernel
theorem k33_19 : decode (gb 33) 19 = .ok (.invokevirtual 193, 3) := by decide +kernel
theorem k33_22 : decode (gb 33) 22 = .ok (.if_icmp .ge 24, 3) := by decide +kernel
theorem k33_25 : decode (gb 33) 25 = .ok (.aload_n 0, 1) := by decide +kernel
theorem k33_26 : decode (gb 33) 26 = .ok (.iconst 4, 1) := by decide +kernel
theorem k33_27 : decode (gb 33) 27 = .ok (.iload_n 2, 1) := by decide +kernel
theorem k33_28 : decode (gb 33) 28 = .ok (.iadd, 1) := by decide +kernel
theorem k33_29 : decode (gb 33) 29 = .ok (.invokevirtual 193, 3) := by decide +kernel
theorem k33_32 : decode (gb 33) 32 = .ok (.bipush 24, 2) := by decide +kernel
theorem k33_34 : decode (gb 33) 34 = .ok (.if_icmp .lt 6, 3) := by decide +kernel
theorem k33_37 : decode (gb 33) 37 = .ok (.bipush 10, 2) := by decide +kernel
theorem k33_39 : decode (gb 33) 39 = .ok (.ireturn, 1) := by decide +kernel
theorem k33_40 : decode (gb 33) 40 = .ok (.iinc 2 1, 3) := by decide +kernel
theorem k33_43 : decode (gb 33) 43 = .ok (.goto (-27), 3) := by decide +kernel
theorem k33_46 : decode (gb 33) 46 = .ok (.iload_n 1, 1) := by decide +kernel
theorem k33_47 : decode (gb 33) 47 = .ok (.bipush 6, 2) := by decide +kernel
theorem k33_49 : decode (gb 33) 49 = .ok (.if_icmp .ge 11, 3) := by decide +kernel
theorem k33_52 : decode (gb 33) 52 = .ok (.aload_n 0, 1) := by decide +kernel
theorem k33_53 : decode (gb 33) 53 = .ok (.iload_n 1, 1) := by decide +kernel
theorem k33_54 : decode (gb 33) 54 = .ok (.invokevirtual 279, 3) := by decide +kernel
theorem k33_57 : decode (gb 33) 57 = .ok (.ifCond .eq 8, 3) := by decide +kernel
theorem k33_60 : decode (gb 33) 60 = .ok (.bipush 13, 2) := by decide +kernel
theorem k33_62 : decode (gb 33) 62 = .ok (.goto 4, 3) := by decide +kernel
theorem k33_65 : decode (gb 33) 65 = .ok (.iconst 0, 1) := by decide +kernel
theorem k33_66 : decode (gb 33) 66 = .ok (.ireturn, 1) := by decide +kernel
theorem k33_67 : decode (gb 33) 67 = .ok (.iload_n 1, 1) := by decide +kernel
theorem k33_68 : decode (gb 33) 68 = .ok (.bipush 6, 2) := by decide +kernel
theorem k33_70 : decode (gb 33) 70 = .ok (.if_icmp .ge 11, 3) := by decide +kernel
theorem k33_73 : decode (gb 33) 73 = .ok (.aload_n 0, 1) := by decide +kernel
theorem k33_74 : decode (gb 33) 74 = .ok (.iload_n 1, 1) := by decide +kernel
theorem k33_75 : decode (gb 33) 75 = .ok (.invokevirtual 279, 3) := by decide +kernel
theorem k33_78 : decode (gb 33) 78 = .ok (.ifCond .ne 6, 3) := by decide +kernel
theorem k33_81 : decode (gb 33) 81 = .ok (.bipush 13, 2) := by decide +kernel
theorem k33_83 : decode (gb 33) 83 = .ok (.ireturn, 1) := by decide +kernel
theorem k33_84 : decode (gb 33) 84 = .ok (.aload_n 0, 1) := by decide +kernel
theorem k33_85 : decode (gb 33) 85 = .ok (.invokevirtual 247, 3) := by decide +kernel
theorem k33_88 : decode (gb 33) 88 = .ok (.iconst 3, 1) := by decide +kernel
theorem k33_89 : decode (gb 33) 89 = .ok (.if_icmp .ne 22, 3) := by decide +kernel
theorem k33_92 : decode (gb 33) 92 = .ok (.aload_n 0, 1) := by decide +kernel
theorem k33_93 : decode (gb 33) 93 = .ok (.getfield 42, 3) := by decide +kernel
theorem k33_96 : decode (gb 33) 96 = .ok (.iload_n 1, 1) := by decide +kernel
theorem k33_97 : decode (gb 33) 97 = .ok (.bipush 13, 2) := by decide +kernel
theorem k33_99 : decode (gb 33) 99 = .ok (.imul, 1) := by decide +kernel
theorem k33_100 : decode (gb 33) 100 = .ok (.iconst 1, 1) := by decide +kernel
theorem k33_101 : decode (gb 33) 101 = .ok (.iadd, 1) := by decide +kernel
theorem k33_102 : decode (gb 33) 102 = .ok (.iaload, 1) := by decide +kernel
theorem k33_103 : decode (gb 33) 103 = .ok (.ifCond .eq 8, 3) := by decide +kernel
theorem k33_106 : decode (gb 33) 106 = .ok (.bipush 13, 2) := by decide +kernel
theorem k33_108 : decode (gb 33) 108 = .ok (.goto 4, 3) := by decide +kernel
theorem k33_111 : decode (gb 33) 111 = .ok (.iconst 0, 1) := by decide +kernel
theorem k33_112 : decode (gb 33) 112 = .ok (.ireturn, 1) := by decide +kernel
def c33_60 (μ : Mem) : Option (Mem × Int32) :=
  some (μ, (13 : Int32))
theorem c33_60_ok {L : Nat} (μ : Mem) (res : Mem × Int32) (h : c33_60 μ = some res) : Sx 33 60 [] [] 0 0 (mk L μ) (mk L res.1, some (.int res.2)) := by
  unfold c33_60 at h
  refine sx_bipush (v := 13) k33_60 (by decide) ?_
  refine sx_goto (tgt := 66) k33_62 (by decide) ?_
  exact cx_reti k33_66 rt_33 h
def b33_16 (kl16 : Int32 → Int32 → Mem → Option (Mem × Int32)) (v1 : Int32) (v2 : Int32) (μ : Mem) : Option (Mem × Int32) :=
  (f20 (3 : Int32) μ).bind fun r1 =>
  if r1.2 ≤ v2 then
    if (6 : Int32) ≤ v1 then
      c33_60 r1.1
    else
      (f34 v1 r1.1).bind fun r5 =>
      if r5.2 = 0 then
        some (r5.1, (0 : Int32))
      else
        c33_60 r5.1
  else
    (f20 ((4 : Int32) + v2) r1.1).bind fun r8 =>
    if r8.2 < (24 : Int32) then
      nm (v2 + (1 : Int32)) fun x11 =>
      kl16 v1 x11 r8.1
    else
      some (r8.1, (10 : Int32))
theorem b33_16_ok {L : Nat} (kl16 : Int32 → Int32 → Mem → Option (Mem × Int32)) (hk16 : (∀ (v1 : Int32) (v2 : Int32) (μ : Mem) (res : Mem × Int32), kl16 v1 v2 μ = some res → Sx 33 16 [(0, .ref 101), (1, .int v1), (2, .int v2)] [] 0 0 (mk L μ) (mk L res.1, some (.int res.2)))) (v1 : Int32) (v2 : Int32) (μ : Mem) (res : Mem × Int32) (h : b33_16 kl16 v1 v2 μ = some res) : Sx 33 16 [(0, .ref 101), (1, .int v1), (2, .int v2)] [] 0 0 (mk L μ) (mk L res.1, some (.int res.2)) := by
  unfold b33_16 at h
  refine sx_iload_n (i := 2) k33_16 rfl rfl ?_
  refine sx_aload_n (i := 0) k33_17 rfl rfl ?_
  refine sx_iconst (v := 3) k33_18 (by decide) ?_
  obtain ⟨r1, e2, h⟩ := Option.bind_eq_some_iff.mp h
  refine cx_V (sk := [.int v2]) (vs := [.int (3 : Int32)]) st_33_20 k33_19 ow_33 cl_1_193 (by decide) rfl (Nat.le_of_ble_eq_true rfl) sk_101 (ok20 (3 : Int32) _ _ e2) (sk3 := [.int r1.2, .int v2]) rfl rfl ?_
  by_cases hb3 : r1.2 ≤ v2
  · rw [if_pos hb3] at h
    refine sx_icmp_ge (tgt := 46) k33_22 (by decide) (fun _ => ?_) (fun q => absurd hb3 q)
    refine sx_iload_n (i := 1) k33_46 rfl rfl ?_
    refine sx_bipush (v := 6) k33_47 (by decide) ?_
    by_cases hb4 : (6 : Int32) ≤ v1
    · rw [if_pos hb4] at h
      refine sx_icmp_ge (tgt := 60) k33_49 (by decide) (fun _ => ?_) (fun q => absurd hb4 q)
      refine sx_pick (lo2 := []) [] rfl ?_
      exact c33_60_ok _ _ h
    · rw [if_neg hb4] at h
      refine sx_icmp_ge (tgt := 60) k33_49 (by decide) (fun q => absurd q hb4) (fun _ => ?_)
      refine sx_aload_n (i := 0) k33_52 rfl rfl ?_
      refine sx_iload_n (i := 1) k33_53 rfl rfl ?_
      obtain ⟨r5, e6, h⟩ := Option.bind_eq_some_iff.mp h
      refine cx_V (sk := []) (vs := [.int v1]) st_33_34 k33_54 ow_33 cl_1_279 (by decide) rfl (Nat.le_of_ble_eq_true rfl) sk_101 (ok34 v1 _ _ e6) (sk3 := [.int r5.2]) rfl rfl ?_
      by_cases hb7 : r5.2 = 0
      · rw [if_pos hb7] at h
        refine sx_if_eq (tgt := 65) k33_57 (by decide) (fun _ => ?_) (fun q => absurd hb7 q)
        refine sx_iconst (v := 0) k33_65 (by decide) ?_
        exact cx_reti k33_66 rt_33 h
      · rw [if_neg hb7] at h
        refine sx_if_eq (tgt := 65) k33_57 (by decide) (fun q => absurd q hb7) (fun _ => ?_)
        refine sx_pick (lo2 := []) [] rfl ?_
        exact c33_60_ok _ _ h
  · rw [if_neg hb3] at h
    refine sx_icmp_ge (tgt := 46) k33_22 (by decide) (fun q => absurd q hb3) (fun _ => ?_)
    refine sx_aload_n (i := 0) k33_25 rfl rfl ?_
    refine sx_iconst (v := 4) k33_26 (by decide) ?_
    refine sx_iload_n (i := 2) k33_27 rfl rfl ?_
    refine sx_iadd k33_28 ?_
    obtain ⟨r8, e9, h⟩ := Option.bind_eq_some_iff.mp h
    refine cx_V (sk := []) (vs := [.int ((4 : Int32) + v2)]) st_33_20 k33_29 ow_33 cl_1_193 (by decide) rfl (Nat.le_of_ble_eq_true rfl) sk_101 (ok20 ((4 : Int32) + v2) _ _ e9) (sk3 := [.int r8.2]) rfl rfl ?_
    refine sx_bipush (v := 24) k33_32 (by decide) ?_
    by_cases hb10 : r8.2 < (24 : Int32)
    · rw [if_pos hb10] at h
      refine sx_icmp_lt (tgt := 40) k33_34 (by decide) (fun _ => ?_) (fun q => absurd hb10 q)
      refine cx_iinc (c := 1) (lo2 := fun x11 => [(2, .int x11), (0, .ref 101), (1, .int v1)]) k33_40 rfl (by decide) (by rw [mx_33]; decide) (fun _ => rfl) h (fun x11 h => ?_)
      refine sx_goto (tgt := 16) k33_43 (by decide) ?_
      refine sx_pick (lo2 := [(0, .ref 101), (1, .int v1), (2, .int x11)]) [1, 2, 0] rfl ?_
      exact hk16 v1 x11 _ _ h
    · rw [if_neg hb10] at h
      refine sx_icmp_lt (tgt := 40) k33_34 (by decide) (fun q => absurd q hb10) (fun _ => ?_)
      refine sx_bipush (v := 10) k33_37 (by decide) ?_
      exact cx_reti k33_39 rt_33 h
def l33_16 : Nat → Int32 × Int32 × Mem → Option (Mem × Int32) :=
  fixN (fun self x => b33_16 (fun v1 v2 μ => self (v1, v2, μ)) (x.1) (x.2.1) (x.2.2))
theorem l33_16_ok {L : Nat} (n : Nat) (v1 : Int32) (v2 : Int32) (μ : Mem) (res : Mem × Int32) (h : l33_16 n (v1, v2, μ) = some res) : Sx 33 16 [(0, .ref 101), (1, .int v1), (2, .int v2)] [] 0 0 (mk L μ) (mk L res.1, some (.int res.2)) := by
  have key := fixN_ind (P := fun x res => Sx 33 16 [(0, .ref 101), (1, .int (x.1)), (2, .int (x.2.1))] [] 0 0 (mk L (x.2.2)) (mk L res.1, some (.int res.2))) (F := fun self x => b33_16 (fun v1 v2 μ => self (v1, v2, μ)) (x.1) (x.2.1) (x.2.2)) (fun self hself x res h => b33_16_ok (fun v1 v2 μ => self (v1, v2, μ)) (fun v1 v2 μ res hh => hself (v1, v2, μ) res hh) (x.1) (x.2.1) (x.2.2) res h) n (v1, v2, μ) res h
  exact key
/-- Board.whyNotStructures()I -/
def f33 (μ : Mem) : Option (Mem × Int32) :=
  (f20 (0 : Int32) μ).bind fun r1 =>
  (f23 r1.1).bind fun r3 =>
  if r3.2 = (1 : Int32) then
    l33_16 gF (r1.2, (0 : Int32), r3.1)
  else
    if (6 : Int32) ≤ r1.2 then
      some (r3.1, (13 : Int32))
    else
      (f34 r1.2 r3.1).bind fun r7 =>
      if r7.2 = 0 then
        some (r7.1, (13 : Int32))
      else
        (f23 r7.1).bind fun r10 =>
        if r10.2 = (3 : Int32) then
          (ldA 125 ((r1.2 * (13 : Int32)) + (1 : Int32)) r10.1).bind fun x13 =>
          if x13 = 0 then
            some (r10.1, (0 : Int32))
          else
            some (r10.1, (13 : Int32))
        else
          some (r10.1, (0 : Int32))
theorem ok33 {L : Nat} (μ : Mem) (res : Mem × Int32) (h : f33 μ = some res) : Mx 33 [.ref 101] (mk L μ) (mk L res.1, some (.int res.2)) := by
  refine Mx_of ml_33 (by rw [mx_33]; exact Nat.le_of_ble_eq_true rfl) ?_
  show Sx 33 0 [(0, .ref 101)] [] 0 0 (mk L μ) _
  unfold f33 at h
  refine sx_aload_n (i := 0) k33_0 rfl rfl ?_
  refine sx_iconst (v := 0) k33_1 (by decide) ?_
  obtain ⟨r1, e2, h⟩ := Option.bind_eq_some_iff.mp h
  refine cx_V (sk := []) (vs := [.int (0 : Int32)]) st_33_20 k33_2 ow_33 cl_1_193 (by decide) rfl (Nat.le_of_ble_eq_true rfl) sk_101 (ok20 (0 : Int32) _ _ e2) (sk3 := [.int r1.2]) rfl rfl ?_
  refine cx_istore_n (lo2 := [(1, .int r1.2), (0, .ref 101)]) k33_5 rfl (by rw [mx_33]; decide) rfl ?_
  refine sx_aload_n (i := 0) k33_6 rfl rfl ?_
  obtain ⟨r3, e4, h⟩ := Option.bind_eq_some_iff.mp h
  refine cx_V (sk := []) (vs := []) st_33_23 k33_7 ow_33 cl_1_247 (by decide) rfl (Nat.le_of_ble_eq_true rfl) sk_101 (ok23 _ _ e4) (sk3 := [.int r3.2]) rfl rfl ?_
  refine sx_iconst (v := 1) k33_10 (by decide) ?_
  by_cases hb5 : r3.2 = (1 : Int32)
  · rw [if_pos hb5] at h
    refine sx_icmp_ne (tgt := 67) k33_11 (by decide) (fun q => absurd hb5 q) (fun _ => ?_)
    refine sx_iconst (v := 0) k33_14 (by decide) ?_
    refine cx_istore_n (lo2 := [(2, .int (0 : Int32)), (1, .int r1.2), (0, .ref 101)]) k33_15 rfl (by rw [mx_33]; decide) rfl ?_
    refine sx_pick (lo2 := [(0, .ref 101), (1, .int r1.2), (2, .int (0 : Int32))]) [2, 1, 0] rfl ?_
    exact l33_16_ok gF r1.2 (0 : Int32) _ _ h
  · rw [if_neg hb5] at h
    refine sx_icmp_ne (tgt := 67) k33_11 (by decide) (fun _ => ?_) (fun q => absurd q hb5)
    refine sx_iload_n (i := 1) k33_67 rfl rfl ?_
    refine sx_bipush (v := 6) k33_68 (by decide) ?_
    by_cases hb6 : (6 : Int32) ≤ r1.2
    · rw [if_pos hb6] at h
      refine sx_icmp_ge (tgt := 81) k33_70 (by decide) (fun _ => ?_) (fun q => absurd hb6 q)
      refine sx_bipush (v := 13) k33_81 (by decide) ?_
      exact cx_reti k33_83 rt_33 h
    · rw [if_neg hb6] at h
      refine sx_icmp_ge (tgt := 81) k33_70 (by decide) (fun q => absurd q hb6) (fun _ => ?_)
      refine sx_aload_n (i := 0) k33_73 rfl rfl ?_
      refine sx_iload_n (i := 1) k33_74 rfl rfl ?_
      obtain ⟨r7, e8, h⟩ := Option.bind_eq_some_iff.mp h
      refine cx_V (sk := []) (vs := [.int r1.2]) st_33_34 k33_75 ow_33 cl_1_279 (by decide) rfl (Nat.le_of_ble_eq_true rfl) sk_101 (ok34 r1.2 _ _ e8) (sk3 := [.int r7.2]) rfl rfl ?_
      by_cases hb9 : r7.2 = 0
      · rw [if_pos hb9] at h
        refine sx_if_ne (tgt := 84) k33_78 (by decide) (fun q => absurd hb9 q) (fun _ => ?_)
        refine sx_bipush (v := 13) k33_81 (by decide) ?_
        exact cx_reti k33_83 rt_33 h
      · rw [if_neg hb9] at h
        refine sx_if_ne (tgt := 84) k33_78 (by decide) (fun _ => ?_) (fun q => absurd q hb9)
        refine sx_aload_n (i := 0) k33_84 rfl rfl ?_
        obtain ⟨r10, e11, h⟩ := Option.bind_eq_some_iff.mp h
        refine cx_V (sk := []) (vs := []) st_33_23 k33_85 ow_33 cl_1_247 (by decide) rfl (Nat.le_of_ble_eq_true rfl) sk_101 (ok23 _ _ e11) (sk3 := [.int r10.2]) rfl rfl ?_
        refine sx_iconst (v := 3) k33_88 (by decide) ?_
        by_cases hb12 : r10.2 = (3 : Int32)
        · rw [if_pos hb12] at h
          refine sx_icmp_ne (tgt := 111) k33_89 (by decide) (fun q => absurd hb12 q) (fun _ => ?_)
          refine sx_aload_n (i := 0) k33_92 rfl rfl ?_
          refine cx_getR (k := 8) k33_93 ow_33 fl_1_42 (by decide) sk_101 ft_0_8 sr_101_8 ?_
          refine sx_iload_n (i := 1) k33_96 rfl rfl ?_
          refine sx_bipush (v := 13) k33_97 (by decide) ?_
          refine sx_imul k33_99 ?_
          refine sx_iconst (v := 1) k33_100 (by decide) ?_
          refine sx_iadd k33_101 ?_
          obtain ⟨x13, e14, h⟩ := Option.bind_eq_some_iff.mp h
          refine cx_iald k33_102 sk_125 e14 ?_
          by_cases hb15 : x13 = 0
          · rw [if_pos hb15] at h
            refine sx_if_eq (tgt := 111) k33_103 (by decide) (fun _ => ?_) (fun q => absurd hb15 q)
            refine sx_iconst (v := 0) k33_111 (by decide) ?_
            exact cx_reti k33_112 rt_33 h
          · rw [if_neg hb15] at h
            refine sx_if_eq (tgt := 111) k33_103 (by decide) (fun q => absurd q hb15) (fun _ => ?_)
            refine sx_bipush (v := 13) k33_106 (by decide) ?_
            refine sx_goto (tgt := 112) k33_108 (by decide) ?_
            exact cx_reti k33_112 rt_33 h
        · rw [if_neg hb12] at h
          refine sx_icmp_ne (tgt := 111) k33_89 (by decide) (fun _ => ?_) (fun q => absurd q hb12)
          refine sx_iconst (v := 0) k33_111 (by decide) ?_
          exact cx_reti k33_112 rt_33 h
theorem k21_0 : decode (gb 21) 0 = .ok (.aload_n 0, 1) := by decide +kernel
theorem k21_1 : decode (gb 21) 1 = .ok (.getfield 35, 3) := by decide +kernel
theorem k21_4 : decode (gb 21) 4 = .ok (.bipush 11, 2) := by decide +kernel
theorem k21_6 : decode (gb 21) 6 = .ok (.iload_n 1, 1) := by decide +kernel
theorem k21_7 : decode (gb 21) 7 = .ok (.iadd, 1) := by decide +kernel
theorem k21_8 : decode (gb 21) 8 = .ok (.invokevirtual 128, 3) := by decide +kernel
theorem k21_11 : decode (gb 21) 11 = .ok (.ireturn, 1) := by decide +kernel
/-- Board.argTwo(I)I -/
def f21 (p1 : Int32) (μ : Mem) : Option (Mem × Int32) :=
  (f76 122 ((11 : Int32) + p1) μ).bind fun r1 =>
  some (r1.1, r1.2)
theorem ok21 {L : Nat} (p1 : Int32) (μ : Mem) (res : Mem × Int32) (h : f21 p1 μ = some res) : Mx 21 [.ref 101, .int p1] (mk L μ) (mk L res.1, some (.int res.2)) := by
  refine Mx_of ml_21 (by rw [mx_21]; exact Nat.le_of_ble_eq_true rfl) ?_
  show Sx 21 0 [(0, .ref 101), (1, .int p1)] [] 0 0 (mk L μ) _
  unfold f21 at h
  refine sx_aload_n (i := 0) k21_0 rfl rfl ?_
  refine cx_getR (k := 6) k21_1 ow_21 fl_1_35 (by decide) sk_101 ft_0_6 sr_101_6 ?_
  refine sx_bipush (v := 11) k21_4 (by decide) ?_
  refine sx_iload_n (i := 1) k21_6 rfl rfl ?_
  refine sx_iadd k21_7 ?_
  obtain ⟨r1, e2, h⟩ := Option.bind_eq_some_iff.mp h
  refine cx_V (sk := []) (vs := [.int ((11 : Int32) + p1)]) st_21_76 k21_8 ow_21 cl_1_128 (by decide) rfl (Nat.le_of_ble_eq_true rfl) sk_122 (ok76 122 ((11 : Int32) + p1) sk_122 _ _ e2) (sk3 := [.int r1.2]) rfl rfl ?_
  exact cx_reti k21_11 rt_21 h
theorem k31_0 : decode (gb 31) 0 = .ok (.aload_n 0, 1) := by decide +kernel
theorem k31_1 : decode (gb 31) 1 = .ok (.invokevirtual 247, 3) := by decide +kernel
theorem k31_4 : decode (gb 31) 4 = .ok (.bipush 9, 2) := by decide +kernel
theorem k31_6 : decode (gb 31) 6 = .ok (.if_icmp .ne 11, 3) := by decide +kernel
theorem k31_9 : decode (gb 31) 9 = .ok (.aload_n 0, 1) := by decide +kernel
theorem k31_10 : decode (gb 31) 10 = .ok (.iconst 2, 1) := by decide +kernel
theorem k31_11 : decode (gb 31) 11 = .ok (.invokevirtual 262, 3) := by decide +kernel
theorem k31_14 : decode (gb 31) 14 = .ok (.goto 8, 3) := by decide +kernel
theorem k31_17 : decode (gb 31) 17 = .ok (.aload_n 0, 1) := by decide +kernel
theorem k31_18 : decode (gb 31) 18 = .ok (.iconst 2, 1) := by decide +kernel
theorem k31_19 : decode (gb 31) 19 = .ok (.invokevirtual 193, 3) := by decide +kernel
theorem k31_22 : decode (gb 31) 22 = .ok (.istore_n 1, 1) := by decide +kernel
theorem k31_23 : decode (gb 31) 23 = .ok (.aload_n 0, 1) := by decide +kernel
theorem k31_24 : decode (gb 31) 24 = .ok (.iconst 0, 1) := by decide +kernel
theorem k31_25 : decode (gb 31) 25 = .ok (.invokevirtual 262, 3) := by decide +kernel
theorem k31_28 : decode (gb 31) 28 = .ok (.iload_n 1, 1) := by decide +kernel
theorem k31_29 : decode (gb 31) 29 = .ok (.iadd, 1) := by decide +kernel
theorem k31_30 : decode (gb 31) 30 = .ok (.istore_n 2, 1) := by decide +kernel
theorem k31_31 : decode (gb 31) 31 = .ok (.iload_n 2, 1) := by decide +kernel
theorem k31_32 : decode (gb 31) 32 = .ok (.sipush 1024, 3) := by decide +kernel
theorem k31_35 : decode (gb 31) 35 = .ok (.if_icmp .le 6, 3) := by decide +kernel
theorem k31_38 : decode (gb 31) 38 = .ok (.bipush 11, 2) := by decide +kernel
theorem k31_40 : decode (gb 31) 40 = .ok (.ireturn, 1) := by decide +kernel
theorem k31_41 : decode (gb 31) 41 = .ok (.aload_n 0, 1) := by decide +kernel
theorem k31_42 : decode (gb 31) 42 = .ok (.invokevirtual 247, 3) := by decide +kernel
theorem k31_45 : decode (gb 31) 45 = .ok (.iconst 2, 1) := by decide +kernel
theorem k31_46 : decode (gb 31) 46 = .ok (.if_icmp .ne 15, 3) := by decide +kernel
theorem k31_49 : decode (gb 31) 49 = .ok (.iload_n 2, 1) := by decide +kernel
theorem k31_50 : decode (gb 31) 50 = .ok (.sipush 768, 3) := by decide +kernel
theorem k31_53 : decode (gb 31) 53 = .ok (.if_icmp .le 8, 3) := by decide +kernel
theorem k31_56 : decode (gb 31) 56 = .ok (.bipush 12, 2) := by decide +kernel
theorem k31_58 : decode (gb 31) 58 = .ok (.goto 4, 3) := by decide +kernel
theorem k31_61 : decode (gb 31) 61 = .ok (.iconst 0, 1) := by decide +kernel
theorem k31_62 : decode (gb 31) 62 = .ok (.ireturn, 1) := by decide +kernel
def c31_22 (s0 : Int32) (μ : Mem) : Option (Mem × Int32) :=
  (f21 (0 : Int32) μ).bind fun r1 =>
  nm (r1.2 + s0) fun x3 =>
  if x3 ≤ (1024 : Int32) then
    (f23 r1.1).bind fun r5 =>
    if r5.2 = (2 : Int32) then
      if x3 ≤ (768 : Int32) then
        some (r5.1, (0 : Int32))
      else
        some (r5.1, (12 : Int32))
    else
      some (r5.1, (0 : Int32))
  else
    some (r1.1, (11 : Int32))
theorem c31_22_ok {L : Nat} (s0 : Int32) (μ : Mem) (res : Mem × Int32) (h : c31_22 s0 μ = some res) : Sx 31 22 [(0, .ref 101)] [.int s0] 0 0 (mk L μ) (mk L res.1, some (.int res.2)) := by
  unfold c31_22 at h
  refine cx_istore_n (lo2 := [(1, .int s0), (0, .ref 101)]) k31_22 rfl (by rw [mx_31]; decide) rfl ?_
  refine sx_aload_n (i := 0) k31_23 rfl rfl ?_
  refine sx_iconst (v := 0) k31_24 (by decide) ?_
  obtain ⟨r1, e2, h⟩ := Option.bind_eq_some_iff.mp h
  refine cx_V (sk := []) (vs := [.int (0 : Int32)]) st_31_21 k31_25 ow_31 cl_1_262 (by decide) rfl (Nat.le_of_ble_eq_true rfl) sk_101 (ok21 (0 : Int32) _ _ e2) (sk3 := [.int r1.2]) rfl rfl ?_
  refine sx_iload_n (i := 1) k31_28 rfl rfl ?_
  refine sx_iadd k31_29 ?_
  refine cx_nm h (fun x3 h => ?_)
  refine cx_istore_n (lo2 := [(2, .int x3), (1, .int s0), (0, .ref 101)]) k31_30 rfl (by rw [mx_31]; decide) rfl ?_
  refine sx_iload_n (i := 2) k31_31 rfl rfl ?_
  refine sx_sipush (v := 1024) k31_32 (by decide) ?_
  by_cases hb4 : x3 ≤ (1024 : Int32)
  · rw [if_pos hb4] at h
    refine sx_icmp_le (tgt := 41) k31_35 (by decide) (fun _ => ?_) (fun q => absurd hb4 q)
    refine sx_aload_n (i := 0) k31_41 rfl rfl ?_
    obtain ⟨r5, e6, h⟩ := Option.bind_eq_some_iff.mp h
    refine cx_V (sk := []) (vs := []) st_31_23 k31_42 ow_31 cl_1_247 (by decide) rfl (Nat.le_of_ble_eq_true rfl) sk_101 (ok23 _ _ e6) (sk3 := [.int r5.2]) rfl rfl ?_
    refine sx_iconst (v := 2) k31_45 (by decide) ?_
    by_cases hb7 : r5.2 = (2 : Int32)
    · rw [if_pos hb7] at h
      refine sx_icmp_ne (tgt := 61) k31_46 (by decide) (fun q => absurd hb7 q) (fun _ => ?_)
      refine sx_iload_n (i := 2) k31_49 rfl rfl ?_
      refine sx_sipush (v := 768) k31_50 (by decide) ?_
      by_cases hb8 : x3 ≤ (768 : Int32)
      · rw [if_pos hb8] at h
        refine sx_icmp_le (tgt := 61) k31_53 (by decide) (fun _ => ?_) (fun q => absurd hb8 q)
        refine sx_iconst (v := 0) k31_61 (by decide) ?_
        exact cx_reti k31_62 rt_31 h
      · rw [if_neg hb8] at h
        refine sx_icmp_le (tgt := 61) k31_53 (by decide) (fun q => absurd q hb8) (fun _ => ?_)
        refine sx_bipush (v := 12) k31_56 (by decide) ?_
        refine sx_goto (tgt := 62) k31_58 (by decide) ?_
        exact cx_reti k31_62 rt_31 h
    · rw [if_neg hb7] at h
      refine sx_icmp_ne (tgt := 61) k31_46 (by decide) (fun _ => ?_) (fun q => absurd q hb7)
      refine sx_iconst (v := 0) k31_61 (by decide) ?_
      exact cx_reti k31_62 rt_31 h
  · rw [if_neg hb4] at h
    refine sx_icmp_le (tgt := 41) k31_35 (by decide) (fun q => absurd q hb4) (fun _ => ?_)
    refine sx_bipush (v := 11) k31_38 (by decide) ?_
    exact cx_reti k31_40 rt_31 h
/-- Board.whyNotMemory()I -/
def f31 (μ : Mem) : Option (Mem × Int32) :=
  (f23 μ).bind fun r1 =>
  if r1.2 = (9 : Int32) then
    (f21 (2 : Int32) r1.1).bind fun r6 =>
    c31_22 r6.2 r6.1
  else
    (f20 (2 : Int32) r1.1).bind fun r4 =>
    c31_22 r4.2 r4.1
theorem ok31 {L : Nat} (μ : Mem) (res : Mem × Int32) (h : f31 μ = some res) : Mx 31 [.ref 101] (mk L μ) (mk L res.1, some (.int res.2)) := by
  refine Mx_of ml_31 (by rw [mx_31]; exact Nat.le_of_ble_eq_true rfl) ?_
  show Sx 31 0 [(0, .ref 101)] [] 0 0 (mk L μ) _
  unfold f31 at h
  refine sx_aload_n (i := 0) k31_0 rfl rfl ?_
  obtain ⟨r1, e2, h⟩ := Option.bind_eq_some_iff.mp h
  refine cx_V (sk := []) (vs := []) st_31_23 k31_1 ow_31 cl_1_247 (by decide) rfl (Nat.le_of_ble_eq_true rfl) sk_101 (ok23 _ _ e2) (sk3 := [.int r1.2]) rfl rfl ?_
  refine sx_bipush (v := 9) k31_4 (by decide) ?_
  by_cases hb3 : r1.2 = (9 : Int32)
  · rw [if_pos hb3] at h
    refine sx_icmp_ne (tgt := 17) k31_6 (by decide) (fun q => absurd hb3 q) (fun _ => ?_)
    refine sx_aload_n (i := 0) k31_9 rfl rfl ?_
    refine sx_iconst (v := 2) k31_10 (by decide) ?_
    obtain ⟨r6, e7, h⟩ := Option.bind_eq_some_iff.mp h
    refine cx_V (sk := []) (vs := [.int (2 : Int32)]) st_31_21 k31_11 ow_31 cl_1_262 (by decide) rfl (Nat.le_of_ble_eq_true rfl) sk_101 (ok21 (2 : Int32) _ _ e7) (sk3 := [.int r6.2]) rfl rfl ?_
    refine sx_goto (tgt := 22) k31_14 (by decide) ?_
    refine sx_pick (lo2 := [(0, .ref 101)]) [0] rfl ?_
    exact c31_22_ok r6.2 _ _ h
  · rw [if_neg hb3] at h
    refine sx_icmp_ne (tgt := 17) k31_6 (by decide) (fun _ => ?_) (fun q => absurd q hb3)
    refine sx_aload_n (i := 0) k31_17 rfl rfl ?_
    refine sx_iconst (v := 2) k31_18 (by decide) ?_
    obtain ⟨r4, e5, h⟩ := Option.bind_eq_some_iff.mp h
    refine cx_V (sk := []) (vs := [.int (2 : Int32)]) st_31_20 k31_19 ow_31 cl_1_193 (by decide) rfl (Nat.le_of_ble_eq_true rfl) sk_101 (ok20 (2 : Int32) _ _ e5) (sk3 := [.int r4.2]) rfl rfl ?_
    refine sx_pick (lo2 := [(0, .ref 101)]) [0] rfl ?_
    exact c31_22_ok r4.2 _ _ h
theorem k22_0 : decode (gb 22) 0 = .ok (.aload_n 0, 1) := by decide +kernel
theorem k22_1 : decode (gb 22) 1 = .ok (.getfield 35, 3) := by decide +kernel
theorem k22_4 : decode (gb 22) 4 = .ok (.bipush 11, 2) := by decide +kernel
theorem k22_6 : decode (gb 22) 6 = .ok (.iload_n 1, 1) := by decide +kernel
theorem k22_7 : decode (gb 22) 7 = .ok (.iadd, 1) := by decide +kernel
theorem k22_8 : decode (gb 22) 8 = .ok (.invokevirtual 196, 3) := by decide +kernel
theorem k22_11 : decode (gb 22) 11 = .ok (.ireturn, 1) := by decide +kernel
/-- Board.argFour(I)I -/
def f22 (p1 : Int32) (μ : Mem) : Option (Mem × Int32) :=
  (f77 122 ((11 : Int32) + p1) μ).bind fun r1 =>
  some (r1.1, r1.2)
theorem ok22 {L : Nat} (p1 : Int32) (μ : Mem) (res : Mem × Int32) (h : f22 p1 μ = some res) : Mx 22 [.ref 101, .int p1] (mk L μ) (mk L res.1, some (.int res.2)) := by
  refine Mx_of ml_22 (by rw [mx_22]; exact Nat.le_of_ble_eq_true rfl) ?_
  show Sx 22 0 [(0, .ref 101), (1, .int p1)] [] 0 0 (mk L μ) _
  unfold f22 at h
  refine sx_aload_n (i := 0) k22_0 rfl rfl ?_
  refine cx_getR (k := 6) k22_1 ow_22 fl_1_35 (by decide) sk_101 ft_0_6 sr_101_6 ?_
  refine sx_bipush (v := 11) k22_4 (by decide) ?_
  refine sx_iload_n (i := 1) k22_6 rfl rfl ?_
  refine sx_iadd k22_7 ?_
  obtain ⟨r1, e2, h⟩ := Option.bind_eq_some_iff.mp h
  refine cx_V (sk := []) (vs := [.int ((11 : Int32) + p1)]) st_22_77 k22_8 ow_22 cl_1_196 (by decide) rfl (Nat.le_of_ble_eq_true rfl) sk_122 (ok77 122 ((11 : Int32) + p1) sk_122 _ _ e2) (sk3 := [.int r1.2]) rfl rfl ?_
  exact cx_reti k22_11 rt_22 h
theorem k54_0 : decode (gb 54) 0 = .ok (.lload_n 1, 1) := by decide +kernel
theorem k54_1 : decode (gb 54) 1 = .ok (.aload_n 0, 1) := by decide +kernel
theorem k54_2 : decode (gb 54) 2 = .ok (.getfield 51, 3) := by decide +kernel
theorem k54_5 : decode (gb 54) 5 = .ok (.getfield 78, 3) := by decide +kernel
theorem k54_8 : decode (gb 54) 8 = .ok (.i2l, 1) := by decide +kernel
theorem k54_9 : decode (gb 54) 9 = .ok (.lconst 1, 1) := by decide +kernel
theorem k54_10 : decode (gb 54) 10 = .ok (.ladd, 1) := by decide +kernel
theorem k54_11 : decode (gb 54) 11 = .ok (.lcmp, 1) := by decide +kernel
theorem k54_12 : decode (gb 54) 12 = .ok (.ifCond .le 15, 3) := by decide +kernel
theorem k54_15 : decode (gb 54) 15 = .ok (.lload_n 1, 1) := by decide +kernel
theorem k54_16 : decode (gb 54) 16 = .ok (.ldc2_w 334, 3) := by decide +kernel
theorem k54_19 : decode (gb 54) 19 = .ok (.lcmp, 1) := by decide +kernel
theorem k54_20 : decode (gb 54) 20 = .ok (.ifCond .gt 7, 3) := by decide +kernel
theorem k54_23 : decode (gb 54) 23 = .ok (.iconst 1, 1) := by decide +kernel
theorem k54_24 : decode (gb 54) 24 = .ok (.goto 4, 3) := by decide +kernel
theorem k54_27 : decode (gb 54) 27 = .ok (.iconst 0, 1) := by decide +kernel
theorem k54_28 : decode (gb 54) 28 = .ok (.ireturn, 1) := by decide +kernel
/-- Board.isLater(J)Z -/
def f54 (p1 : Int64) (μ : Mem) : Option (Mem × Int32) :=
  if (lg_cmp p1 ((Int32.toInt64 (μ.1 57 12)) + (1 : Int64))) ≤ 0 then
    rtZ (0 : Int32) μ
  else
    if 0 < (lg_cmp p1 (2147483647 : Int64)) then
      rtZ (0 : Int32) μ
    else
      rtZ (1 : Int32) μ
theorem ok54 {L : Nat} (p1 : Int64) (μ : Mem) (res : Mem × Int32) (h : f54 p1 μ = some res) : Mx 54 [.ref 101, .long p1] (mk L μ) (mk L res.1, some (.int res.2)) := by
  refine Mx_of ml_54 (by rw [mx_54]; exact Nat.le_of_ble_eq_true rfl) ?_
  show Sx 54 0 [(0, .ref 101), (1, .long p1)] [] 0 0 (mk L μ) _
  unfold f54 at h
  refine sx_lload_n (i := 1) k54_0 rfl rfl ?_
  refine sx_aload_n (i := 0) k54_1 rfl rfl ?_
  refine cx_getR (k := 0) k54_2 ow_54 fl_1_51 (by decide) sk_101 ft_0_0 sr_101_0 ?_
  refine cx_getI (k := 12) k54_5 ow_54 fl_1_78 (by decide) sk_57 ft_5_12 ?_
  refine sx_i2l k54_8 ?_
  refine sx_lconst (v := 1) k54_9 (by decide) ?_
  refine sx_ladd k54_10 ?_
  refine sx_lcmp k54_11 ?_
  by_cases hb1 : (lg_cmp p1 ((Int32.toInt64 (μ.1 57 12)) + (1 : Int64))) ≤ 0
  · rw [if_pos hb1] at h
    refine sx_if_le (tgt := 27) k54_12 (by decide) (fun _ => ?_) (fun q => absurd hb1 q)
    refine sx_iconst (v := 0) k54_27 (by decide) ?_
    exact cx_retz k54_28 rt_54 h
  · rw [if_neg hb1] at h
    refine sx_if_le (tgt := 27) k54_12 (by decide) (fun q => absurd q hb1) (fun _ => ?_)
    refine sx_lload_n (i := 1) k54_15 rfl rfl ?_
    refine cx_ldc2 (v := 2147483647) k54_16 ow_54 kl_1_334 (by decide) ?_
    refine sx_lcmp k54_19 ?_
    by_cases hb2 : 0 < (lg_cmp p1 (2147483647 : Int64))
    · rw [if_pos hb2] at h
      refine sx_if_gt (tgt := 27) k54_20 (by decide) (fun _ => ?_) (fun q => absurd hb2 q)
      refine sx_iconst (v := 0) k54_27 (by decide) ?_
      exact cx_retz k54_28 rt_54 h
    · rw [if_neg hb2] at h
      refine sx_if_gt (tgt := 27) k54_20 (by decide) (fun q => absurd q hb2) (fun _ => ?_)
      refine sx_iconst (v := 1) k54_23 (by decide) ?_
      refine sx_goto (tgt := 28) k54_24 (by decide) ?_
      exact cx_retz k54_28 rt_54 h
theorem k53_0 : decode (gb 53) 0 = .ok (.aload_n 0, 1) := by decide +kernel
theorem k53_1 : decode (gb 53) 1 = .ok (.iconst 0, 1) := by decide +kernel
theorem k53_2 : decode (gb 53) 2 = .ok (.invokevirtual 193, 3) := by decide +kernel
theorem k53_5 : decode (gb 53) 5 = .ok (.iconst 4, 1) := by decide +kernel
theorem k53_6 : decode (gb 53) 6 = .ok (.if_icmp .lt 6, 3) := by decide +kernel
theorem k53_9 : decode (gb 53) 9 = .ok (.bipush 20, 2) := by decide +kernel
theorem k53_11 : decode (gb 53) 11 = .ok (.ireturn, 1) := by decide +kernel
theorem k53_12 : decode (gb 53) 12 = .ok (.aload_n 0, 1) := by decide +kernel
theorem k53_13 : decode (gb 53) 13 = .ok (.aload_n 0, 1) := by decide +kernel
theorem k53_14 : decode (gb 53) 14 = .ok (.iconst 1, 1) := by decide +kernel
theorem k53_15 : decode (gb 53) 15 = .ok (.invokevirtual 180, 3) := by decide +kernel
theorem k53_18 : decode (gb 53) 18 = .ok (.i2l, 1) := by decide +kernel
theorem k53_19 : decode (gb 53) 19 = .ok (.invokevirtual 330, 3) := by decide +kernel
theorem k53_22 : decode (gb 53) 22 = .ok (.ifCond .ne 6, 3) := by decide +kernel
theorem k53_25 : decode (gb 53) 25 = .ok (.bipush 21, 2) := by decide +kernel
theorem k53_27 : decode (gb 53) 27 = .ok (.ireturn, 1) := by decide +kernel
theorem k53_28 : decode (gb 53) 28 = .ok (.aload_n 0, 1) := by decide +kernel
theorem k53_29 : decode (gb 53) 29 = .ok (.getfield 20, 3) := by decide +kernel
theorem k53_32 : decode (gb 53) 32 = .ok (.invokevirtual 62, 3) := by decide +kernel
theorem k53_35 : decode (gb 53) 35 = .ok (.ifCond .eq 7, 3) := by decide +kernel
theorem k53_38 : decode (gb 53) 38 = .ok (.iconst 0, 1) := by decide +kernel
theorem k53_39 : decode (gb 53) 39 = .ok (.goto 5, 3) := by decide +kernel
theorem k53_42 : decode (gb 53) 42 = .ok (.bipush 22, 2) := by decide +kernel
theorem k53_44 : decode (gb 53) 44 = .ok (.ireturn, 1) := by decide +kernel
/-- Board.whyNotEntry()I -/
def f53 (μ : Mem) : Option (Mem × Int32) :=
  (f20 (0 : Int32) μ).bind fun r1 =>
  if r1.2 < (4 : Int32) then
    (f22 (1 : Int32) r1.1).bind fun r4 =>
    (f54 (Int32.toInt64 r4.2) r4.1).bind fun r6 =>
    if r6.2 = 0 then
      some (r6.1, (21 : Int32))
    else
      (f159 108 r6.1).bind fun r9 =>
      if r9.2 = 0 then
        some (r9.1, (22 : Int32))
      else
        some (r9.1, (0 : Int32))
  else
    some (r1.1, (20 : Int32))
theorem ok53 {L : Nat} (μ : Mem) (res : Mem × Int32) (h : f53 μ = some res) : Mx 53 [.ref 101] (mk L μ) (mk L res.1, some (.int res.2)) := by
  refine Mx_of ml_53 (by rw [mx_53]; exact Nat.le_of_ble_eq_true rfl) ?_
  show Sx 53 0 [(0, .ref 101)] [] 0 0 (mk L μ) _
  unfold f53 at h
  refine sx_aload_n (i := 0) k53_0 rfl rfl ?_
  refine sx_iconst (v := 0) k53_1 (by decide) ?_
  obtain ⟨r1, e2, h⟩ := Option.bind_eq_some_iff.mp h
  refine cx_V (sk := []) (vs := [.int (0 : Int32)]) st_53_20 k53_2 ow_53 cl_1_193 (by decide) rfl (Nat.le_of_ble_eq_true rfl) sk_101 (ok20 (0 : Int32) _ _ e2) (sk3 := [.int r1.2]) rfl rfl ?_
  refine sx_iconst (v := 4) k53_5 (by decide) ?_
  by_cases hb3 : r1.2 < (4 : Int32)
  · rw [if_pos hb3] at h
    refine sx_icmp_lt (tgt := 12) k53_6 (by decide) (fun _ => ?_) (fun q => absurd hb3 q)
    refine sx_aload_n (i := 0) k53_12 rfl rfl ?_
    refine sx_aload_n (i := 0) k53_13 rfl rfl ?_
    refine sx_iconst (v := 1) k53_14 (by decide) ?_
    obtain ⟨r4, e5, h⟩ := Option.bind_eq_some_iff.mp h
    refine cx_V (sk := [.ref 101]) (vs := [.int (1 : Int32)]) st_53_22 k53_15 ow_53 cl_1_180 (by decide) rfl (Nat.le_of_ble_eq_true rfl) sk_101 (ok22 (1 : Int32) _ _ e5) (sk3 := [.int r4.2, .ref 101]) rfl rfl ?_
    refine sx_i2l k53_18 ?_
    obtain ⟨r6, e7, h⟩ := Option.bind_eq_some_iff.mp h
    refine cx_V (sk := []) (vs := [.long (Int32.toInt64 r4.2)]) st_53_54 k53_19 ow_53 cl_1_330 (by decide) rfl (Nat.le_of_ble_eq_true rfl) sk_101 (ok54 (Int32.toInt64 r4.2) _ _ e7) (sk3 := [.int r6.2]) rfl rfl ?_
    by_cases hb8 : r6.2 = 0
    · rw [if_pos hb8] at h
      refine sx_if_ne (tgt := 28) k53_22 (by decide) (fun q => absurd hb8 q) (fun _ => ?_)
      refine sx_bipush (v := 21) k53_25 (by decide) ?_
      exact cx_reti k53_27 rt_53 h
    · rw [if_neg hb8] at h
      refine sx_if_ne (tgt := 28) k53_22 (by decide) (fun _ => ?_) (fun q => absurd q hb8)
      refine sx_aload_n (i := 0) k53_28 rfl rfl ?_
      refine cx_getR (k := 3) k53_29 ow_53 fl_1_20 (by decide) sk_101 ft_0_3 sr_101_3 ?_
      obtain ⟨r9, e10, h⟩ := Option.bind_eq_some_iff.mp h
      refine cx_V (sk := []) (vs := []) st_53_159 k53_32 ow_53 cl_1_62 (by decide) rfl (Nat.le_of_ble_eq_true rfl) sk_108 (ok159 108 sk_108 _ _ e10) (sk3 := [.int r9.2]) rfl rfl ?_
      by_cases hb11 : r9.2 = 0
      · rw [if_pos hb11] at h
        refine sx_if_eq (tgt := 42) k53_35 (by decide) (fun _ => ?_) (fun q => absurd hb11 q)
        refine sx_bipush (v := 22) k53_42 (by decide) ?_
        exact cx_reti k53_44 rt_53 h
      · rw [if_neg hb11] at h
        refine sx_if_eq (tgt := 42) k53_35 (by decide) (fun q => absurd q hb11) (fun _ => ?_)
        refine sx_iconst (v := 0) k53_38 (by decide) ?_
        refine sx_goto (tgt := 44) k53_39 (by decide) ?_
        exact cx_reti k53_44 rt_53 h
  · rw [if_neg hb3] at h
    refine sx_icmp_lt (tgt := 12) k53_6 (by decide) (fun q => absurd q hb3) (fun _ => ?_)
    refine sx_bipush (v := 20) k53_9 (by decide) ?_
    exact cx_reti k53_11 rt_53 h
theorem k50_0 : decode (gb 50) 0 = .ok (.iconst 0, 1) := by decide +kernel
theorem k50_1 : decode (gb 50) 1 = .ok (.istore_n 2, 1) := by decide +kernel
theorem k50_2 : decode (gb 50) 2 = .ok (.iload_n 2, 1) := by decide +kernel
theorem k50_3 : decode (gb 50) 3 = .ok (.aload_n 0, 1) := by decide +kernel
theorem k50_4 : decode (gb 50) 4 = .ok (.getfield 20, 3) := by decide +kernel
theorem k50_7 : decode (gb 50) 7 = .ok (.getfield 75, 3) := by decide +kernel
theorem k50_10 : decode (gb 50) 10 = .ok (.if_icmp .ge 80, 3) := by decide +kernel
theorem k50_13 : decode (gb 50) 13 = .ok (.iconst 0, 1) := by decide +kernel
theorem k50_14 : decode (gb 50) 14 = .ok (.istore_n 3, 1) := by decide +kernel
theorem k50_15 : decode (gb 50) 15 = .ok (.iconst 0, 1) := by decide +kernel
theorem k50_16 : decode (gb 50) 16 = .ok (.istore 4, 2) := by decide +kernel
theorem k50_18 : decode (gb 50) 18 = .ok (.iload 4, 2) := by decide +kernel
theorem k50_20 : decode (gb 50) 20 = .ok (.aload_n 0, 1) := by decide +kernel
theorem k50_21 : decode (gb 50) 21 = .ok (.getfield 20, 3) := by decide +kernel
theorem k50_24 : decode (gb 50) 24 = .ok (.getfield 75, 3) := by decide +kernel
theorem k50_27 : decode (gb 50) 27 = .ok (.if_icmp .ge 50, 3) := by decide +kernel
theorem k50_30 : decode (gb 50) 30 = .ok (.aload_n 0, 1) := by decide +kernel
theorem k50_31 : decode (gb 50) 31 = .ok (.getfield 20, 3) := by decide +kernel
theorem k50_34 : decode (gb 50) 34 = .ok (.iload 4, 2) := by decide +kernel
theorem k50_36 : decode (gb 50) 36 = .ok (.invokevirtual 152, 3) := by decide +kernel
theorem k50_39 : decode (gb 50) 39 = .ok (.aload_n 0, 1) := by decide +kernel
theorem k50_40 : decode (gb 50) 40 = .ok (.getfield 20, 3) := by decide +kernel
theorem k50_43 : decode (gb 50) 43 = .ok (.iload_n 2, 1) := by decide +kernel
theorem k50_44 : decode (gb 50) 44 = .ok (.invokevirtual 152, 3) := by decide +kernel
theorem k50_47 : decode (gb 50) 47 = .ok (.invokestatic 313, 3) := by decide +kernel
theorem k50_50 : decode (gb 50) 50 = .ok (.istore 5, 2) := by decide +kernel
theorem k50_52 : decode (gb 50) 52 = .ok (.iload 5, 2) := by decide +kernel
theorem k50_54 : decode (gb 50) 54 = .ok (.ifCond .lt 14, 3) := by decide +kernel
theorem k50_57 : decode (gb 50) 57 = .ok (.iload 5, 2) := by decide +kernel
theorem k50_59 : decode (gb 50) 59 = .ok (.ifCond .ne 12, 3) := by decide +kernel
theorem k50_62 : decode (gb 50) 62 = .ok (.iload 4, 2) := by decide +kernel
theorem k50_64 : decode (gb 50) 64 = .ok (.iload_n 2, 1) := by decide +kernel
theorem k50_65 : decode (gb 50) 65 = .ok (.if_icmp .ge 6, 3) := by decide +kernel
theorem k50_68 : decode (gb 50) 68 = .ok (.iinc 3 1, 3) := by decide +kernel
theorem k50_71 : decode (gb 50) 71 = .ok (.iinc 4 1, 3) := by decide +kernel
theorem k50_74 : decode (gb 50) 74 = .ok (.goto (-56), 3) := by decide +kernel
theorem k50_77 : decode (gb 50) 77 = .ok (.iload_n 3, 1) := by decide +kernel
theorem k50_78 : decode (gb 50) 78 = .ok (.iload_n 1, 1) := by decide +kernel
theorem k50_79 : decode (gb 50) 79 = .ok (.if_icmp .ne 5, 3) := by decide +kernel
theorem k50_82 : decode (gb 50) 82 = .ok (.iload_n 2, 1) := by decide +kernel
theorem k50_83 : decode (gb 50) 83 = .ok (.ireturn, 1) := by decide +kernel
theorem k50_84 : decode (gb 50) 84 = .ok (.iinc 2 1, 3) := by decide +kernel
theorem k50_87 : decode (gb 50) 87 = .ok (.goto (-85), 3) := by decide +kernel
theorem k50_90 : decode (gb 50) 90 = .ok (.iconst (-1), 1) := by decide +kernel
theorem k50_91 : decode (gb 50) 91 = .ok (.ireturn, 1) := by decide +kernel
def c50_71 (kl2 : Int32 → Int32 → Mem → Option (Mem × Int32)) (kl18 : Int32 → Int32 → Int32 → Int32 → Mem → Option (Mem × Int32)) (v1 : Int32) (v2 : Int32) (v3 : Int32) (v4 : Int32) (μ : Mem) : Option (Mem × Int32) :=
  nm (v4 + (1 : Int32)) fun x1 =>
  kl18 v1 v2 v3 x1 μ
theorem c50_71_ok {L : Nat} (kl2 : Int32 → Int32 → Mem → Option (Mem × Int32)) (kl18 : Int32 → Int32 → Int32 → Int32 → Mem → Option (Mem × Int32)) (hk2 : (∀ (v1 : Int32) (v2 : Int32) (μ : Mem) (res : Mem × Int32), kl2 v1 v2 μ = some res → Sx 50 2 [(0, .ref 101), (1, .int v1), (2, .int v2)] [] 0 0 (mk L μ) (mk L res.1, some (.int res.2)))) (hk18 : (∀ (v1 : Int32) (v2 : Int32) (v3 : Int32) (v4 : Int32) (μ : Mem) (res : Mem × Int32), kl18 v1 v2 v3 v4 μ = some res → Sx 50 18 [(0, .ref 101), (1, .int v1), (2, .int v2), (3, .int v3), (4, .int v4)] [] 0 0 (mk L μ) (mk L res.1, some (.int res.2)))) (v1 : Int32) (v2 : Int32) (v3 : Int32) (v4 : Int32) (μ : Mem) (res : Mem × Int32) (h : c50_71 kl2 kl18 v1 v2 v3 v4 μ = some res) : Sx 50 71 [(0, .ref 101), (1, .int v1), (2, .int v2), (3, .int v3), (4, .int v4)] [] 0 0 (mk L μ) (mk L res.1, some (.int res.2)) := by
  unfold c50_71 at h
  refine cx_iinc (c := 1) (lo2 := fun x1 => [(4, .int x1), (0, .ref 101), (1, .int v1), (2, .int v2), (3, .int v3)]) k50_71 rfl (by decide) (by rw [mx_50]; decide) (fun _ => rfl) h (fun x1 h => ?_)
  refine sx_goto (tgt := 18) k50_74 (by decide) ?_
  refine sx_pick (lo2 := [(0, .ref 101), (1, .int v1), (2, .int v2), (3, .int v3), (4, .int x1)]) [1, 2, 3, 4, 0] rfl ?_
  exact hk18 v1 v2 v3 x1 _ _ h
def c50_68 (kl2 : Int32 → Int32 → Mem → Option (Mem × Int32)) (kl18 : Int32 → Int32 → Int32 → Int32 → Mem → Option (Mem × Int32)) (v1 : Int32) (v2 : Int32) (v3 : Int32) (v4 : Int32) (μ : Mem) : Option (Mem × Int32) :=
  nm (v3 + (1 : Int32)) fun x1 =>
  c50_71 kl2 kl18 v1 v2 x1 v4 μ
theorem c50_68_ok {L : Nat} (kl2 : Int32 → Int32 → Mem → Option (Mem × Int32)) (kl18 : Int32 → Int32 → Int32 → Int32 → Mem → Option (Mem × Int32)) (hk2 : (∀ (v1 : Int32) (v2 : Int32) (μ : Mem) (res : Mem × Int32), kl2 v1 v2 μ = some res → Sx 50 2 [(0, .ref 101), (1, .int v1), (2, .int v2)] [] 0 0 (mk L μ) (mk L res.1, some (.int res.2)))) (hk18 : (∀ (v1 : Int32) (v2 : Int32) (v3 : Int32) (v4 : Int32) (μ : Mem) (res : Mem × Int32), kl18 v1 v2 v3 v4 μ = some res → Sx 50 18 [(0, .ref 101), (1, .int v1), (2, .int v2), (3, .int v3), (4, .int v4)] [] 0 0 (mk L μ) (mk L res.1, some (.int res.2)))) (v1 : Int32) (v2 : Int32) (v3 : Int32) (v4 : Int32) (μ : Mem) (res : Mem × Int32) (h : c50_68 kl2 kl18 v1 v2 v3 v4 μ = some res) : Sx 50 68 [(0, .ref 101), (1, .int v1), (2, .int v2), (3, .int v3), (4, .int v4)] [] 0 0 (mk L μ) (mk L res.1, some (.int res.2)) := by
  unfold c50_68 at h
  refine cx_iinc (c := 1) (lo2 := fun x1 => [(3, .int x1), (0, .ref 101), (1, .int v1), (2, .int v2), (4, .int v4)]) k50_68 rfl (by decide) (by rw [mx_50]; decide) (fun _ => rfl) h (fun x1 h => ?_)
  refine sx_pick (lo2 := [(0, .ref 101), (1, .int v1), (2, .int v2), (3, .int x1), (4, .int v4)]) [1, 2, 3, 0, 4] rfl ?_
  exact c50_71_ok kl2 kl18 hk2 hk18 v1 v2 x1 v4 _ _ h
def b50_18 (kl2 : Int32 → Int32 → Mem → Option (Mem × Int32)) (kl18 : Int32 → Int32 → Int32 → Int32 → Mem → Option (Mem × Int32)) (v1 : Int32) (v2 : Int32) (v3 : Int32) (v4 : Int32) (μ : Mem) : Option (Mem × Int32) :=
  if (μ.1 108 5) ≤ v4 then
    if v3 = v1 then
      some (μ, v2)
    else
      nm (v2 + (1 : Int32)) fun x3 =>
      kl2 v1 x3 μ
  else
    (f167 108 v4 μ).bind fun r4 =>
    (f167 108 v2 r4.1).bind fun r6 =>
    (f363 r4.2 r6.2 r6.1).bind fun r8 =>
    if r8.2 < 0 then
      c50_68 kl2 kl18 v1 v2 v3 v4 r8.1
    else
      if r8.2 = 0 then
        if v2 ≤ v4 then
          c50_71 kl2 kl18 v1 v2 v3 v4 r8.1
        else
          c50_68 kl2 kl18 v1 v2 v3 v4 r8.1
      else
        c50_71 kl2 kl18 v1 v2 v3 v4 r8.1
theorem b50_18_ok {L : Nat} (kl2 : Int32 → Int32 → Mem → Option (Mem × Int32)) (kl18 : Int32 → Int32 → Int32 → Int32 → Mem → Option (Mem × Int32)) (hk2 : (∀ (v1 : Int32) (v2 : Int32) (μ : Mem) (res : Mem × Int32), kl2 v1 v2 μ = some res → Sx 50 2 [(0, .ref 101), (1, .int v1), (2, .int v2)] [] 0 0 (mk L μ) (mk L res.1, some (.int res.2)))) (hk18 : (∀ (v1 : Int32) (v2 : Int32) (v3 : Int32) (v4 : Int32) (μ : Mem) (res : Mem × Int32), kl18 v1 v2 v3 v4 μ = some res → Sx 50 18 [(0, .ref 101), (1, .int v1), (2, .int v2), (3, .int v3), (4, .int v4)] [] 0 0 (mk L μ) (mk L res.1, some (.int res.2)))) (v1 : Int32) (v2 : Int32) (v3 : Int32) (v4 : Int32) (μ : Mem) (res : Mem × Int32) (h : b50_18 kl2 kl18 v1 v2 v3 v4 μ = some res) : Sx 50 18 [(0, .ref 101), (1, .int v1), (2, .int v2), (3, .int v3), (4, .int v4)] [] 0 0 (mk L μ) (mk L res.1, some (.int res.2)) := by
  unfold b50_18 at h
  refine sx_iload k50_18 rfl ?_
  refine sx_aload_n (i := 0) k50_20 rfl rfl ?_
  refine cx_getR (k := 3) k50_21 ow_50 fl_1_20 (by decide) sk_101 ft_0_3 sr_101_3 ?_
  refine cx_getI (k := 5) k50_24 ow_50 fl_1_75 (by decide) sk_108 ft_7_5 ?_
  by_cases hb1 : (μ.1 108 5) ≤ v4
  · rw [if_pos hb1] at h
    refine sx_icmp_ge (tgt := 77) k50_27 (by decide) (fun _ => ?_) (fun q => absurd hb1 q)
    refine sx_iload_n (i := 3) k50_77 rfl rfl ?_
    refine sx_iload_n (i := 1) k50_78 rfl rfl ?_
    by_cases hb2 : v3 = v1
    · rw [if_pos hb2] at h
      refine sx_icmp_ne (tgt := 84) k50_79 (by decide) (fun q => absurd hb2 q) (fun _ => ?_)
      refine sx_iload_n (i := 2) k50_82 rfl rfl ?_
      exact cx_reti k50_83 rt_50 h
    · rw [if_neg hb2] at h
      refine sx_icmp_ne (tgt := 84) k50_79 (by decide) (fun _ => ?_) (fun q => absurd q hb2)
      refine cx_iinc (c := 1) (lo2 := fun x3 => [(2, .int x3), (0, .ref 101), (1, .int v1), (3, .int v3), (4, .int v4)]) k50_84 rfl (by decide) (by rw [mx_50]; decide) (fun _ => rfl) h (fun x3 h => ?_)
      refine sx_goto (tgt := 2) k50_87 (by decide) ?_
      refine sx_pick (lo2 := [(0, .ref 101), (1, .int v1), (2, .int x3)]) [1, 2, 0] rfl ?_
      exact hk2 v1 x3 _ _ h
  · rw [if_neg hb1] at h
    refine sx_icmp_ge (tgt := 77) k50_27 (by decide) (fun q => absurd q hb1) (fun _ => ?_)
    refine sx_aload_n (i := 0) k50_30 rfl rfl ?_
    refine cx_getR (k := 3) k50_31 ow_50 fl_1_20 (by decide) sk_101 ft_0_3 sr_101_3 ?_
    refine sx_iload k50_34 rfl ?_
    obtain ⟨r4, e5, h⟩ := Option.bind_eq_some_iff.mp h
    refine cx_V (sk := []) (vs := [.int v4]) st_50_167 k50_36 ow_50 cl_1_152 (by decide) rfl (Nat.le_of_ble_eq_true rfl) sk_108 (ok167 108 v4 sk_108 _ _ e5) (sk3 := [.int r4.2]) rfl rfl ?_
    refine sx_aload_n (i := 0) k50_39 rfl rfl ?_
    refine cx_getR (k := 3) k50_40 ow_50 fl_1_20 (by decide) sk_101 ft_0_3 sr_101_3 ?_
    refine sx_iload_n (i := 2) k50_43 rfl rfl ?_
    obtain ⟨r6, e7, h⟩ := Option.bind_eq_some_iff.mp h
    refine cx_V (sk := [.int r4.2]) (vs := [.int v2]) st_50_167 k50_44 ow_50 cl_1_152 (by decide) rfl (Nat.le_of_ble_eq_true rfl) sk_108 (ok167 108 v2 sk_108 _ _ e7) (sk3 := [.int r6.2, .int r4.2]) rfl rfl ?_
    obtain ⟨r8, e9, h⟩ := Option.bind_eq_some_iff.mp h
    refine cx_S (sk := []) (vs := [.int r4.2, .int r6.2]) st_50_363 k50_47 ow_50 cl_1_313 (by decide) rfl (Nat.le_of_ble_eq_true rfl) (ok363 r4.2 r6.2 _ _ e9) (sk3 := [.int r8.2]) rfl rfl ?_
    refine cx_istore (lo2 := [(5, .int r8.2), (0, .ref 101), (1, .int v1), (2, .int v2), (3, .int v3), (4, .int v4)]) k50_50 (by rw [mx_50]; decide) rfl ?_
    refine sx_iload k50_52 rfl ?_
    by_cases hb10 : r8.2 < 0
    · rw [if_pos hb10] at h
      refine sx_if_lt (tgt := 68) k50_54 (by decide) (fun _ => ?_) (fun q => absurd hb10 q)
      refine sx_pick (lo2 := [(0, .ref 101), (1, .int v1), (2, .int v2), (3, .int v3), (4, .int v4)]) [1, 2, 3, 4, 5] rfl ?_
      exact c50_68_ok kl2 kl18 hk2 hk18 v1 v2 v3 v4 _ _ h
    · rw [if_neg hb10] at h
      refine sx_if_lt (tgt := 68) k50_54 (by decide) (fun q => absurd q hb10) (fun _ => ?_)
      refine sx_iload k50_57 rfl ?_
      by_cases hb11 : r8.2 = 0
      · rw [if_pos hb11] at h
        refine sx_if_ne (tgt := 71) k50_59 (by decide) (fun q => absurd hb11 q) (fun _ => ?_)
        refine sx_iload k50_62 rfl ?_
        refine sx_iload_n (i := 2) k50_64 rfl rfl ?_
        by_cases hb12 : v2 ≤ v4
        · rw [if_pos hb12] at h
          refine sx_icmp_ge (tgt := 71) k50_65 (by decide) (fun _ => ?_) (fun q => absurd hb12 q)
          refine sx_pick (lo2 := [(0, .ref 101), (1, .int v1), (2, .int v2), (3, .int v3), (4, .int v4)]) [1, 2, 3, 4, 5] rfl ?_
          exact c50_71_ok kl2 kl18 hk2 hk18 v1 v2 v3 v4 _ _ h
        · rw [if_neg hb12] at h
          refine sx_icmp_ge (tgt := 71) k50_65 (by decide) (fun q => absurd q hb12) (fun _ => ?_)
          refine sx_pick (lo2 := [(0, .ref 101), (1, .int v1), (2, .int v2), (3, .int v3), (4, .int v4)]) [1, 2, 3, 4, 5] rfl ?_
          exact c50_68_ok kl2 kl18 hk2 hk18 v1 v2 v3 v4 _ _ h
      · rw [if_neg hb11] at h
        refine sx_if_ne (tgt := 71) k50_59 (by decide) (fun _ => ?_) (fun q => absurd q hb11)
        refine sx_pick (lo2 := [(0, .ref 101), (1, .int v1), (2, .int v2), (3, .int v3), (4, .int v4)]) [1, 2, 3, 4, 5] rfl ?_
        exact c50_71_ok kl2 kl18 hk2 hk18 v1 v2 v3 v4 _ _ h
def l50_18 (kl2 : Int32 → Int32 → Mem → Option (Mem × Int32)) : Nat → Int32 × Int32 × Int32 × Int32 × Mem → Option (Mem × Int32) :=
  fixN (fun self x => b50_18 kl2 (fun v1 v2 v3 v4 μ => self (v1, v2, v3, v4, μ)) (x.1) (x.2.1) (x.2.2.1) (x.2.2.2.1) (x.2.2.2.2))
theorem l50_18_ok {L : Nat} (kl2 : Int32 → Int32 → Mem → Option (Mem × Int32)) (hk2 : (∀ (v1 : Int32) (v2 : Int32) (μ : Mem) (res : Mem × Int32), kl2 v1 v2 μ = some res → Sx 50 2 [(0, .ref 101), (1, .int v1), (2, .int v2)] [] 0 0 (mk L μ) (mk L res.1, some (.int res.2)))) (n : Nat) (v1 : Int32) (v2 : Int32) (v3 : Int32) (v4 : Int32) (μ : Mem) (res : Mem × Int32) (h : l50_18 kl2 n (v1, v2, v3, v4, μ) = some res) : Sx 50 18 [(0, .ref 101), (1, .int v1), (2, .int v2), (3, .int v3), (4, .int v4)] [] 0 0 (mk L μ) (mk L res.1, some (.int res.2)) := by
  have key := fixN_ind (P := fun x res => Sx 50 18 [(0, .ref 101), (1, .int (x.1)), (2, .int (x.2.1)), (3, .int (x.2.2.1)), (4, .int (x.2.2.2.1))] [] 0 0 (mk L (x.2.2.2.2)) (mk L res.1, some (.int res.2))) (F := fun self x => b50_18 kl2 (fun v1 v2 v3 v4 μ => self (v1, v2, v3, v4, μ)) (x.1) (x.2.1) (x.2.2.1) (x.2.2.2.1) (x.2.2.2.2)) (fun self hself x res h => b50_18_ok kl2 (fun v1 v2 v3 v4 μ => self (v1, v2, v3, v4, μ)) hk2 (fun v1 v2 v3 v4 μ res hh => hself (v1, v2, v3, v4, μ) res hh) (x.1) (x.2.1) (x.2.2.1) (x.2.2.2.1) (x.2.2.2.2) res h) n (v1, v2, v3, v4, μ) res h
  exact key
def b50_2 (kl2 : Int32 → Int32 → Mem → Option (Mem × Int32)) (v1 : Int32) (v2 : Int32) (μ : Mem) : Option (Mem × Int32) :=
  if (μ.1 108 5) ≤ v2 then
    some (μ, (-1 : Int32))
  else
    l50_18 kl2 gF (v1, v2, (0 : Int32), (0 : Int32), μ)
theorem b50_2_ok {L : Nat} (kl2 : Int32 → Int32 → Mem → Option (Mem × Int32)) (hk2 : (∀ (v1 : Int32) (v2 : Int32) (μ : Mem) (res : Mem × Int32), kl2 v1 v2 μ = some res → Sx 50 2 [(0, .ref 101), (1, .int v1), (2, .int v2)] [] 0 0 (mk L μ) (mk L res.1, some (.int res.2)))) (v1 : Int32) (v2 : Int32) (μ : Mem) (res : Mem × Int32) (h : b50_2 kl2 v1 v2 μ = some res) : Sx 50 2 [(0, .ref 101), (1, .int v1), (2, .int v2)] [] 0 0 (mk L μ) (mk L res.1, some (.int res.2)) := by
  unfold b50_2 at h
  refine sx_iload_n (i := 2) k50_2 rfl rfl ?_
  refine sx_aload_n (i := 0) k50_3 rfl rfl ?_
  refine cx_getR (k := 3) k50_4 ow_50 fl_1_20 (by decide) sk_101 ft_0_3 sr_101_3 ?_
  refine cx_getI (k := 5) k50_7 ow_50 fl_1_75 (by decide) sk_108 ft_7_5 ?_
  by_cases hb1 : (μ.1 108 5) ≤ v2
  · rw [if_pos hb1] at h
    refine sx_icmp_ge (tgt := 90) k50_10 (by decide) (fun _ => ?_) (fun q => absurd hb1 q)
    refine sx_iconst (v := -1) k50_90 (by decide) ?_
    exact cx_reti k50_91 rt_50 h
  · rw [if_neg hb1] at h
    refine sx_icmp_ge (tgt := 90) k50_10 (by decide) (fun q => absurd q hb1) (fun _ => ?_)
    refine sx_iconst (v := 0) k50_13 (by decide) ?_
    refine cx_istore_n (lo2 := [(3, .int (0 : Int32)), (0, .ref 101), (1, .int v1), (2, .int v2)]) k50_14 rfl (by rw [mx_50]; decide) rfl ?_
    refine sx_iconst (v := 0) k50_15 (by decide) ?_
    refine cx_istore (lo2 := [(4, .int (0 : Int32)), (3, .int (0 : Int32)), (0, .ref 101), (1, .int v1), (2, .int v2)]) k50_16 (by rw [mx_50]; decide) rfl ?_
    refine sx_pick (lo2 := [(0, .ref 101), (1, .int v1), (2, .int v2), (3, .int (0 : Int32)), (4, .int (0 : Int32))]) [2, 3, 4, 1, 0] rfl ?_
    exact l50_18_ok kl2 hk2 gF v1 v2 (0 : Int32) (0 : Int32) _ _ h
def l50_2 : Nat → Int32 × Int32 × Mem → Option (Mem × Int32) :=
  fixN (fun self x => b50_2 (fun v1 v2 μ => self (v1, v2, μ)) (x.1) (x.2.1) (x.2.2))
theorem l50_2_ok {L : Nat} (n : Nat) (v1 : Int32) (v2 : Int32) (μ : Mem) (res : Mem × Int32) (h : l50_2 n (v1, v2, μ) = some res) : Sx 50 2 [(0, .ref 101), (1, .int v1), (2, .int v2)] [] 0 0 (mk L μ) (mk L res.1, some (.int res.2)) := by
  have key := fixN_ind (P := fun x res => Sx 50 2 [(0, .ref 101), (1, .int (x.1)), (2, .int (x.2.1))] [] 0 0 (mk L (x.2.2)) (mk L res.1, some (.int res.2))) (F := fun self x => b50_2 (fun v1 v2 μ => self (v1, v2, μ)) (x.1) (x.2.1) (x.2.2)) (fun self hself x res h => b50_2_ok (fun v1 v2 μ => self (v1, v2, μ)) (fun v1 v2 μ res hh => hself (v1, v2, μ) res hh) (x.1) (x.2.1) (x.2.2) res h) n (v1, v2, μ) res h
  exact key
/-- Board.nthEntry(I)I -/
def f50 (p1 : Int32) (μ : Mem) : Option (Mem × Int32) :=
  l50_2 gF (p1, (0 : Int32), μ)
theorem ok50 {L : Nat} (p1 : Int32) (μ : Mem) (res : Mem × Int32) (h : f50 p1 μ = some res) : Mx 50 [.ref 101, .int p1] (mk L μ) (mk L res.1, some (.int res.2)) := by
  refine Mx_of ml_50 (by rw [mx_50]; exact Nat.le_of_ble_eq_true rfl) ?_
  show Sx 50 0 [(0, .ref 101), (1, .int p1)] [] 0 0 (mk L μ) _
  unfold f50 at h
  refine sx_iconst (v := 0) k50_0 (by decide) ?_
  refine cx_istore_n (lo2 := [(2, .int (0 : Int32)), (0, .ref 101), (1, .int p1)]) k50_1 rfl (by rw [mx_50]; decide) rfl ?_
  refine sx_pick (lo2 := [(0, .ref 101), (1, .int p1), (2, .int (0 : Int32))]) [1, 2, 0] rfl ?_
  exact l50_2_ok gF p1 (0 : Int32) _ _ h
theorem k56_0 : decode (gb 56) 0 = .ok (.aload_n 0, 1) := by decide +kernel
theorem k56_1 : decode (gb 56) 1 = .ok (.getfield 20, 3) := by decide +kernel
theorem k56_4 : decode (gb 56) 4 = .ok (.iload_n 1, 1) := by decide +kernel
theorem k56_5 : decode (gb 56) 5 = .ok (.iconst 2, 1) := by decide +kernel
theorem k56_6 : decode (gb 56) 6 = .ok (.invokevirtual 336, 3) := by decide +kernel
theorem k56_9 : decode (gb 56) 9 = .ok (.sipush 16383, 3) := by decide +kernel
theorem k56_12 : decode (gb 56) 12 = .ok (.iand, 1) := by decide +kernel
theorem k56_13 : decode (gb 56) 13 = .ok (.ireturn, 1) := by decide +kernel
/-- Board.countOf(I)I -/
def f56 (p1 : Int32) (μ : Mem) : Option (Mem × Int32) :=
  (f172 108 p1 (2 : Int32) μ).bind fun r1 =>
  some (r1.1, (r1.2 &&& (16383 : Int32)))
theorem ok56 {L : Nat} (p1 : Int32) (μ : Mem) (res : Mem × Int32) (h : f56 p1 μ = some res) : Mx 56 [.ref 101, .int p1] (mk L μ) (mk L res.1, some (.int res.2)) := by
  refine Mx_of ml_56 (by rw [mx_56]; exact Nat.le_of_ble_eq_true rfl) ?_
  show Sx 56 0 [(0, .ref 101), (1, .int p1)] [] 0 0 (mk L μ) _
  unfold f56 at h
  refine sx_aload_n (i := 0) k56_0 rfl rfl ?_
  refine cx_getR (k := 3) k56_1 ow_56 fl_1_20 (by decide) sk_101 ft_0_3 sr_101_3 ?_
  refine sx_iload_n (i := 1) k56_4 rfl rfl ?_
  refine sx_iconst (v := 2) k56_5 (by decide) ?_
  obtain ⟨r1, e2, h⟩ := Option.bind_eq_some_iff.mp h
  refine cx_V (sk := []) (vs := [.int p1, .int (2 : Int32)]) st_56_172 k56_6 ow_56 cl_1_336 (by decide) rfl (Nat.le_of_ble_eq_true rfl) sk_108 (ok172 108 p1 (2 : Int32) sk_108 _ _ e2) (sk3 := [.int r1.2]) rfl rfl ?_
  refine sx_sipush (v := 16383) k56_9 (by decide) ?_
  refine sx_iand k56_12 ?_
  exact cx_reti k56_13 rt_56 h
theorem k57_0 : decode (gb 57) 0 = .ok (.iconst 0, 1) := by decide +kernel
theorem k57_1 : decode (gb 57) 1 = .ok (.istore_n 2, 1) := by decide +kernel
theorem k57_2 : decode (gb 57) 2 = .ok (.iload_n 2, 1) := by decide +kernel
theorem k57_3 : decode (gb 57) 3 = .ok (.aload_n 0, 1) := by decide +kernel
theorem k57_4 : decode (gb 57) 4 = .ok (.getfield 20, 3) := by decide +kernel
theorem k57_7 : decode (gb 57) 7 = .ok (.getfield 75, 3) := by decide +kernel
theorem k57_10 : decode (gb 57) 10 = .ok (.if_icmp .ge 26, 3) := by decide +kernel
theorem k57_13 : decode (gb 57) 13 = .ok (.aload_n 0, 1) := by decide +kernel
theorem k57_14 : decode (gb 57) 14 = .ok (.iload_n 2, 1) := by decide +kernel
theorem k57_15 : decode (gb 57) 15 = .ok (.invokevirtual 318, 3) := by decide +kernel
theorem k57_18 : decode (gb 57) 18 = .ok (.istore_n 3, 1) := by decide +kernel
theorem k57_19 : decode (gb 57) 19 = .ok (.aload_n 0, 1) := by decide +kernel
theorem k57_20 : decode (gb 57) 20 = .ok (.iload_n 3, 1) := by decide +kernel
theorem k57_21 : decode (gb 57) 21 = .ok (.invokevirtual 341, 3) := by decide +kernel
theorem k57_24 : decode (gb 57) 24 = .ok (.iload_n 1, 1) := by decide +kernel
theorem k57_25 : decode (gb 57) 25 = .ok (.if_icmp .ne 5, 3) := by decide +kernel
theorem k57_28 : decode (gb 57) 28 = .ok (.iload_n 3, 1) := by decide +kernel
theorem k57_29 : decode (gb 57) 29 = .ok (.ireturn, 1) := by decide +kernel
theorem k57_30 : decode (gb 57) 30 = .ok (.iinc 2 1, 3) := by decide +kernel
theorem k57_33 : decode (gb 57) 33 = .ok (.goto (-31), 3) := by decide +kernel
theorem k57_36 : decode (gb 57) 36 = .ok (.iconst (-1), 1) := by decide +kernel
theorem k57_37 : decode (gb 57) 37 = .ok (.ireturn, 1) := by decide +kernel
def b57_2 (kl2 : Int32 → Int32 → Mem → Option (Mem × Int32)) (v1 : Int32) (v2 : Int32) (μ : Mem) : Option (Mem × Int32) :=
  if (μ.1 108 5) ≤ v2 then
    some (μ, (-1 : Int32))
  else
    (f50 v2 μ).bind fun r2 =>
    (f56 r2.2 r2.1).bind fun r4 =>
    if r4.2 = v1 then
      some (r4.1, r2.2)
    else
      nm (v2 + (1 : Int32)) fun x7 =>
      kl2 v1 x7 r4.1
theorem b57_2_ok {L : Nat} (kl2 : Int32 → Int32 → Mem → Option (Mem × Int32)) (hk2 : (∀ (v1 : Int32) (v2 : Int32) (μ : Mem) (res : Mem × Int32), kl2 v1 v2 μ = some res → Sx 57 2 [(0, .ref 101), (1, .int v1), (2, .int v2)] [] 0 0 (mk L μ) (mk L res.1, some (.int res.2)))) (v1 : Int32) (v2 : Int32) (μ : Mem) (res : Mem × Int32) (h : b57_2 kl2 v1 v2 μ = some res) : Sx 57 2 [(0, .ref 101), (1, .int v1), (2, .int v2)] [] 0 0 (mk L μ) (mk L res.1, some (.int res.2)) := by
  unfold b57_2 at h
  refine sx_iload_n (i := 2) k57_2 rfl rfl ?_
  refine sx_aload_n (i := 0) k57_3 rfl rfl ?_
  refine cx_getR (k := 3) k57_4 ow_57 fl_1_20 (by decide) sk_101 ft_0_3 sr_101_3 ?_
  refine cx_getI (k := 5) k57_7 ow_57 fl_1_75 (by decide) sk_108 ft_7_5 ?_
  by_cases hb1 : (μ.1 108 5) ≤ v2
  · rw [if_pos hb1] at h
    refine sx_icmp_ge (tgt := 36) k57_10 (by decide) (fun _ => ?_) (fun q => absurd hb1 q)
    refine sx_iconst (v := -1) k57_36 (by decide) ?_
    exact cx_reti k57_37 rt_57 h
  · rw [if_neg hb1] at h
    refine sx_icmp_ge (tgt := 36) k57_10 (by decide) (fun q => absurd q hb1) (fun _ => ?_)
    refine sx_aload_n (i := 0) k57_13 rfl rfl ?_
    refine sx_iload_n (i := 2) k57_14 rfl rfl ?_
    obtain ⟨r2, e3, h⟩ := Option.bind_eq_some_iff.mp h
    refine cx_V (sk := []) (vs := [.int v2]) st_57_50 k57_15 ow_57 cl_1_318 (by decide) rfl (Nat.le_of_ble_eq_true rfl) sk_101 (ok50 v2 _ _ e3) (sk3 := [.int r2.2]) rfl rfl ?_
    refine cx_istore_n (lo2 := [(3, .int r2.2), (0, .ref 101), (1, .int v1), (2, .int v2)]) k57_18 rfl (by rw [mx_57]; decide) rfl ?_
    refine sx_aload_n (i := 0) k57_19 rfl rfl ?_
    refine sx_iload_n (i := 3) k57_20 rfl rfl ?_
    obtain ⟨r4, e5, h⟩ := Option.bind_eq_some_iff.mp h
    refine cx_V (sk := []) (vs := [.int r2.2]) st_57_56 k57_21 ow_57 cl_1_341 (by decide) rfl (Nat.le_of_ble_eq_true rfl) sk_101 (ok56 r2.2 _ _ e5) (sk3 := [.int r4.2]) rfl rfl ?_
    refine sx_iload_n (i := 1) k57_24 rfl rfl ?_
    by_cases hb6 : r4.2 = v1
    · rw [if_pos hb6] at h
      refine sx_icmp_ne (tgt := 30) k57_25 (by decide) (fun q => absurd hb6 q) (fun _ => ?_)
      refine sx_iload_n (i := 3) k57_28 rfl rfl ?_
      exact cx_reti k57_29 rt_57 h
    · rw [if_neg hb6] at h
      refine sx_icmp_ne (tgt := 30) k57_25 (by decide) (fun _ => ?_) (fun q => absurd q hb6)
      refine cx_iinc (c := 1) (lo2 := fun x7 => [(2, .int x7), (3, .int r2.2), (0, .ref 101), (1, .int v1)]) k57_30 rfl (by decide) (by rw [mx_57]; decide) (fun _ => rfl) h (fun x7 h => ?_)
      refine sx_goto (tgt := 2) k57_33 (by decide) ?_
      refine sx_pick (lo2 := [(0, .ref 101), (1, .int v1), (2, .int x7)]) [2, 3, 0] rfl ?_
      exact hk2 v1 x7 _ _ h
def l57_2 : Nat → Int32 × Int32 × Mem → Option (Mem × Int32) :=
  fixN (fun self x => b57_2 (fun v1 v2 μ => self (v1, v2, μ)) (x.1) (x.2.1) (x.2.2))
theorem l57_2_ok {L : Nat} (n : Nat) (v1 : Int32) (v2 : Int32) (μ : Mem) (res : Mem × Int32) (h : l57_2 n (v1, v2, μ) = some res) : Sx 57 2 [(0, .ref 101), (1, .int v1), (2, .int v2)] [] 0 0 (mk L μ) (mk L res.1, some (.int res.2)) := by
  have key := fixN_ind (P := fun x res => Sx 57 2 [(0, .ref 101), (1, .int (x.1)), (2, .int (x.2.1))] [] 0 0 (mk L (x.2.2)) (mk L res.1, some (.int res.2))) (F := fun self x => b57_2 (fun v1 v2 μ => self (v1, v2, μ)) (x.1) (x.2.1) (x.2.2)) (fun self hself x res h => b57_2_ok (fun v1 v2 μ => self (v1, v2, μ)) (fun v1 v2 μ res hh => hself (v1, v2, μ) res hh) (x.1) (x.2.1) (x.2.2) res h) n (v1, v2, μ) res h
  exact key
/-- Board.findCount(I)I -/
def f57 (p1 : Int32) (μ : Mem) : Option (Mem × Int32) :=
  l57_2 gF (p1, (0 : Int32), μ)
theorem ok57 {L : Nat} (p1 : Int32) (μ : Mem) (res : Mem × Int32) (h : f57 p1 μ = some res) : Mx 57 [.ref 101, .int p1] (mk L μ) (mk L res.1, some (.int res.2)) := by
  refine Mx_of ml_57 (by rw [mx_57]; exact Nat.le_of_ble_eq_true rfl) ?_
  show Sx 57 0 [(0, .ref 101), (1, .int p1)] [] 0 0 (mk L μ) _
  unfold f57 at h
  refine sx_iconst (v := 0) k57_0 (by decide) ?_
  refine cx_istore_n (lo2 := [(2, .int (0 : Int32)), (0, .ref 101), (1, .int p1)]) k57_1 rfl (by rw [mx_57]; decide) rfl ?_
  refine sx_pick (lo2 := [(0, .ref 101), (1, .int p1), (2, .int (0 : Int32))]) [1, 2, 0] rfl ?_
  exact l57_2_ok gF p1 (0 : Int32) _ _ h
theorem k55_0 : decode (gb 55) 0 = .ok (.iconst 0, 1) := by decide +kernel
theorem k55_1 : decode (gb 55) 1 = .ok (.istore_n 2, 1) := by decide +kernel
theorem k55_2 : decode (gb 55) 2 = .ok (.iload_n 2, 1) := by decide +kernel
theorem k55_3 : decode (gb 55) 3 = .ok (.aload_n 0, 1) := by decide +kernel
theorem k55_4 : decode (gb 55) 4 = .ok (.getfield 20, 3) := by decide +kernel
theorem k55_7 : decode (gb 55) 7 = .ok (.getfield 75, 3) := by decide +kernel
theorem k55_10 : decode (gb 55) 10 = .ok (.if_icmp .ge 30, 3) := by decide +kernel
theorem k55_13 : decode (gb 55) 13 = .ok (.aload_n 0, 1) := by decide +kernel
theorem k55_14 : decode (gb 55) 14 = .ok (.aload_n 0, 1) := by decide +kernel
theorem k55_15 : decode (gb 55) 15 = .ok (.getfield 20, 3) := by decide +kernel
theorem k55_18 : decode (gb 55) 18 = .ok (.iload_n 2, 1) := by decide +kernel
theorem k55_19 : decode (gb 55) 19 = .ok (.invokevirtual 152, 3) := by decide +kernel
theorem k55_22 : decode (gb 55) 22 = .ok (.i2l, 1) := by decide +kernel
theorem k55_23 : decode (gb 55) 23 = .ok (.iload_n 1, 1) := by decide +kernel
theorem k55_24 : decode (gb 55) 24 = .ok (.i2l, 1) := by decide +kernel
theorem k55_25 : decode (gb 55) 25 = .ok (.ladd, 1) := by decide +kernel
theorem k55_26 : decode (gb 55) 26 = .ok (.invokevirtual 330, 3) := by decide +kernel
theorem k55_29 : decode (gb 55) 29 = .ok (.ifCond .ne 5, 3) := by decide +kernel
theorem k55_32 : decode (gb 55) 32 = .ok (.iconst 0, 1) := by decide +kernel
theorem k55_33 : decode (gb 55) 33 = .ok (.ireturn, 1) := by decide +kernel
theorem k55_34 : decode (gb 55) 34 = .ok (.iinc 2 1, 3) := by decide +kernel
theorem k55_37 : decode (gb 55) 37 = .ok (.goto (-35), 3) := by decide +kernel
theorem k55_40 : decode (gb 55) 40 = .ok (.iconst 1, 1) := by decide +kernel
theorem k55_41 : decode (gb 55) 41 = .ok (.ireturn, 1) := by decide +kernel
def b55_2 (kl2 : Int32 → Int32 → Mem → Option (Mem × Int32)) (v1 : Int32) (v2 : Int32) (μ : Mem) : Option (Mem × Int32) :=
  if (μ.1 108 5) ≤ v2 then
    rtZ (1 : Int32) μ
  else
    (f167 108 v2 μ).bind fun r2 =>
    (f54 ((Int32.toInt64 r2.2) + (Int32.toInt64 v1)) r2.1).bind fun r4 =>
    if r4.2 = 0 then
      rtZ (0 : Int32) r4.1
    else
      nm (v2 + (1 : Int32)) fun x7 =>
      kl2 v1 x7 r4.1
theorem b55_2_ok {L : Nat} (kl2 : Int32 → Int32 → Mem → Option (Mem × Int32)) (hk2 : (∀ (v1 : Int32) (v2 : Int32) (μ : Mem) (res : Mem × Int32), kl2 v1 v2 μ = some res → Sx 55 2 [(0, .ref 101), (1, .int v1), (2, .int v2)] [] 0 0 (mk L μ) (mk L res.1, some (.int res.2)))) (v1 : Int32) (v2 : Int32) (μ : Mem) (res : Mem × Int32) (h : b55_2 kl2 v1 v2 μ = some res) : Sx 55 2 [(0, .ref 101), (1, .int v1), (2, .int v2)] [] 0 0 (mk L μ) (mk L res.1, some (.int res.2)) := by
  unfold b55_2 at h
  refine sx_iload_n (i := 2) k55_2 rfl rfl ?_
  refine sx_aload_n (i := 0) k55_3 rfl rfl ?_
  refine cx_getR (k := 3) k55_4 ow_55 fl_1_20 (by decide) sk_101 ft_0_3 sr_101_3 ?_
  refine cx_getI (k := 5) k55_7 ow_55 fl_1_75 (by decide) sk_108 ft_7_5 ?_
  by_cases hb1 : (μ.1 108 5) ≤ v2
  · rw [if_pos hb1] at h
    refine sx_icmp_ge (tgt := 40) k55_10 (by decide) (fun _ => ?_) (fun q => absurd hb1 q)
    refine sx_iconst (v := 1) k55_40 (by decide) ?_
    exact cx_retz k55_41 rt_55 h
  · rw [if_neg hb1] at h
    refine sx_icmp_ge (tgt := 40) k55_10 (by decide) (fun q => absurd q hb1) (fun _ => ?_)
    refine sx_aload_n (i := 0) k55_13 rfl rfl ?_
    refine sx_aload_n (i := 0) k55_14 rfl rfl ?_
    refine cx_getR (k := 3) k55_15 ow_55 fl_1_20 (by decide) sk_101 ft_0_3 sr_101_3 ?_
    refine sx_iload_n (i := 2) k55_18 rfl rfl ?_
    obtain ⟨r2, e3, h⟩ := Option.bind_eq_some_iff.mp h
    refine cx_V (sk := [.ref 101]) (vs := [.int v2]) st_55_167 k55_19 ow_55 cl_1_152 (by decide) rfl (Nat.le_of_ble_eq_true rfl) sk_108 (ok167 108 v2 sk_108 _ _ e3) (sk3 := [.int r2.2, .ref 101]) rfl rfl ?_
    refine sx_i2l k55_22 ?_
    refine sx_iload_n (i := 1) k55_23 rfl rfl ?_
    refine sx_i2l k55_24 ?_
    refine sx_ladd k55_25 ?_
    obtain ⟨r4, e5, h⟩ := Option.bind_eq_some_iff.mp h
    refine cx_V (sk := []) (vs := [.long ((Int32.toInt64 r2.2) + (Int32.toInt64 v1))]) st_55_54 k55_26 ow_55 cl_1_330 (by decide) rfl (Nat.le_of_ble_eq_true rfl) sk_101 (ok54 ((Int32.toInt64 r2.2) + (Int32.toInt64 v1)) _ _ e5) (sk3 := [.int r4.2]) rfl rfl ?_
    by_cases hb6 : r4.2 = 0
    · rw [if_pos hb6] at h
      refine sx_if_ne (tgt := 34) k55_29 (by decide) (fun q => absurd hb6 q) (fun _ => ?_)
      refine sx_iconst (v := 0) k55_32 (by decide) ?_
      exact cx_retz k55_33 rt_55 h
    · rw [if_neg hb6] at h
      refine sx_if_ne (tgt := 34) k55_29 (by decide) (fun _ => ?_) (fun q => absurd q hb6)
      refine cx_iinc (c := 1) (lo2 := fun x7 => [(2, .int x7), (0, .ref 101), (1, .int v1)]) k55_34 rfl (by decide) (by rw [mx_55]; decide) (fun _ => rfl) h (fun x7 h => ?_)
      refine sx_goto (tgt := 2) k55_37 (by decide) ?_
      refine sx_pick (lo2 := [(0, .ref 101), (1, .int v1), (2, .int x7)]) [1, 2, 0] rfl ?_
      exact hk2 v1 x7 _ _ h
def l55_2 : Nat → Int32 × Int32 × Mem → Option (Mem × Int32) :=
  fixN (fun self x => b55_2 (fun v1 v2 μ => self (v1, v2, μ)) (x.1) (x.2.1) (x.2.2))
theorem l55_2_ok {L : Nat} (n : Nat) (v1 : Int32) (v2 : Int32) (μ : Mem) (res : Mem × Int32) (h : l55_2 n (v1, v2, μ) = some res) : Sx 55 2 [(0, .ref 101), (1, .int v1), (2, .int v2)] [] 0 0 (mk L μ) (mk L res.1, some (.int res.2)) := by
  have key := fixN_ind (P := fun x res => Sx 55 2 [(0, .ref 101), (1, .int (x.1)), (2, .int (x.2.1))] [] 0 0 (mk L (x.2.2)) (mk L res.1, some (.int res.2))) (F := fun self x => b55_2 (fun v1 v2 μ => self (v1, v2, μ)) (x.1) (x.2.1) (x.2.2)) (fun self hself x res h => b55_2_ok (fun v1 v2 μ => self (v1, v2, μ)) (fun v1 v2 μ res hh => hself (v1, v2, μ) res hh) (x.1) (x.2.1) (x.2.2) res h) n (v1, v2, μ) res h
  exact key
/-- Board.mayShift(I)Z -/
def f55 (p1 : Int32) (μ : Mem) : Option (Mem × Int32) :=
  l55_2 gF (p1, (0 : Int32), μ)
theorem ok55 {L : Nat} (p1 : Int32) (μ : Mem) (res : Mem × Int32) (h : f55 p1 μ = some res) : Mx 55 [.ref 101, .int p1] (mk L μ) (mk L res.1, some (.int res.2)) := by
  refine Mx_of ml_55 (by rw [mx_55]; exact Nat.le_of_ble_eq_true rfl) ?_
  show Sx 55 0 [(0, .ref 101), (1, .int p1)] [] 0 0 (mk L μ) _
  unfold f55 at h
  refine sx_iconst (v := 0) k55_0 (by decide) ?_
  refine cx_istore_n (lo2 := [(2, .int (0 : Int32)), (0, .ref 101), (1, .int p1)]) k55_1 rfl (by rw [mx_55]; decide) rfl ?_
  refine sx_pick (lo2 := [(0, .ref 101), (1, .int p1), (2, .int (0 : Int32))]) [1, 2, 0] rfl ?_
  exact l55_2_ok gF p1 (0 : Int32) _ _ h
theorem k52_0 : decode (gb 52) 0 = .ok (.aload_n 0, 1) := by decide +kernel
theorem k52_1 : decode (gb 52) 1 = .ok (.invokevirtual 247, 3) := by decide +kernel
theorem k52_4 : decode (gb 52) 4 = .ok (.lookupswitch 111 #[(4, 52), (5, 57), (15, 76), (20, 95), (21, 95)], 52) := by decide +kernel
theorem k52_56 : decode (gb 52) 56 = .ok (.aload_n 0, 1) := by decide +kernel
theorem k52_57 : decode (gb 52) 57 = .ok (.invokevirtual 321, 3) := by decide +kernel
theorem k52_60 : decode (gb 52) 60 = .ok (.ireturn, 1) := by decide +kernel
theorem k52_61 : decode (gb 52) 61 = .ok (.aload_n 0, 1) := by decide +kernel
theorem k52_62 : decode (gb 52) 62 = .ok (.aload_n 0, 1) := by decide +kernel
theorem k52_63 : decode (gb 52) 63 = .ok (.iconst 0, 1) := by decide +kernel
theorem k52_64 : decode (gb 52) 64 = .ok (.invokevirtual 262, 3) := by decide +kernel
theorem k52_67 : decode (gb 52) 67 = .ok (.invokevirtual 324, 3) := by decide +kernel
theorem k52_70 : decode (gb 52) 70 = .ok (.ifCond .ge 8, 3) := by decide +kernel
theorem k52_73 : decode (gb 52) 73 = .ok (.bipush 23, 2) := by decide +kernel
theorem k52_75 : decode (gb 52) 75 = .ok (.goto 4, 3) := by decide +kernel
theorem k52_78 : decode (gb 52) 78 = .ok (.iconst 0, 1) := by decide +kernel
theorem k52_79 : decode (gb 52) 79 = .ok (.ireturn, 1) := by decide +kernel
theorem k52_80 : decode (gb 52) 80 = .ok (.aload_n 0, 1) := by decide +kernel
theorem k52_81 : decode (gb 52) 81 = .ok (.aload_n 0, 1) := by decide +kernel
theorem k52_82 : decode (gb 52) 82 = .ok (.iconst 0, 1) := by decide +kernel
theorem k52_83 : decode (gb 52) 83 = .ok (.invokevirtual 180, 3) := by decide +kernel
theorem k52_86 : decode (gb 52) 86 = .ok (.invokevirtual 327, 3) := by decide +kernel
theorem k52_89 : decode (gb 52) 89 = .ok (.ifCond .eq 7, 3) := by decide +kernel
theorem k52_92 : decode (gb 52) 92 = .ok (.iconst 0, 1) := by decide +kernel
theorem k52_93 : decode (gb 52) 93 = .ok (.goto 5, 3) := by decide +kernel
theorem k52_96 : decode (gb 52) 96 = .ok (.bipush 21, 2) := by decide +kernel
theorem k52_98 : decode (gb 52) 98 = .ok (.ireturn, 1) := by decide +kernel
theorem k52_99 : decode (gb 52) 99 = .ok (.aload_n 0, 1) := by decide +kernel
theorem k52_100 : decode (gb 52) 100 = .ok (.iconst 0, 1) := by decide +kernel
theorem k52_101 : decode (gb 52) 101 = .ok (.invokevirtual 193, 3) := by decide +kernel
theorem k52_104 : decode (gb 52) 104 = .ok (.iconst 4, 1) := by decide +kernel
theorem k52_105 : decode (gb 52) 105 = .ok (.if_icmp .lt 8, 3) := by decide +kernel
theorem k52_108 : decode (gb 52) 108 = .ok (.bipush 20, 2) := by decide +kernel
theorem k52_110 : decode (gb 52) 110 = .ok (.goto 4, 3) := by decide +kernel
theorem k52_113 : decode (gb 52) 113 = .ok (.iconst 0, 1) := by decide +kernel
theorem k52_114 : decode (gb 52) 114 = .ok (.ireturn, 1) := by decide +kernel
theorem k52_115 : decode (gb 52) 115 = .ok (.iconst 0, 1) := by decide +kernel
theorem k52_116 : decode (gb 52) 116 = .ok (.ireturn, 1) := by decide +kernel
/-- Board.whyNotSchedule()I -/
def f52 (μ : Mem) : Option (Mem × Int32) :=
  (f23 μ).bind fun r1 =>
  if r1.2 = (4 : Int32) then
    (f53 r1.1).bind fun r3 =>
    some (r3.1, r3.2)
  else if r1.2 = (5 : Int32) then
    (f21 (0 : Int32) r1.1).bind fun r6 =>
    (f57 r6.2 r6.1).bind fun r8 =>
    if 0 ≤ r8.2 then
      some (r8.1, (0 : Int32))
    else
      some (r8.1, (23 : Int32))
  else if r1.2 = (15 : Int32) then
    (f22 (0 : Int32) r1.1).bind fun r12 =>
    (f55 r12.2 r12.1).bind fun r14 =>
    if r14.2 = 0 then
      some (r14.1, (21 : Int32))
    else
      some (r14.1, (0 : Int32))
  else if r1.2 = (20 : Int32) then
    (f20 (0 : Int32) r1.1).bind fun r18 =>
    if r18.2 < (4 : Int32) then
      some (r18.1, (0 : Int32))
    else
      some (r18.1, (20 : Int32))
  else if r1.2 = (21 : Int32) then
    (f20 (0 : Int32) r1.1).bind fun r22 =>
    if r22.2 < (4 : Int32) then
      some (r22.1, (0 : Int32))
    else
      some (r22.1, (20 : Int32))
  else 
    some (r1.1, (0 : Int32))
theorem ok52 {L : Nat} (μ : Mem) (res : Mem × Int32) (h : f52 μ = some res) : Mx 52 [.ref 101] (mk L μ) (mk L res.1, some (.int res.2)) := by
  refine Mx_of ml_52 (by rw [mx_52]; exact Nat.le_of_ble_eq_true rfl) ?_
  show Sx 52 0 [(0, .ref 101)] [] 0 0 (mk L μ) _
  unfold f52 at h
  refine sx_aload_n (i := 0) k52_0 rfl rfl ?_
  obtain ⟨r1, e2, h⟩ := Option.bind_eq_some_iff.mp h
  refine cx_V (sk := []) (vs := []) st_52_23 k52_1 ow_52 cl_1_247 (by decide) rfl (Nat.le_of_ble_eq_true rfl) sk_101 (ok23 _ _ e2) (sk3 := [.int r1.2]) rfl rfl ?_
  by_cases hb5 : r1.2 = (4 : Int32)
  · rw [if_pos hb5] at h
    refine sx_lookup (off := 52) (tgt := 56) k52_4 (by decide) (by rw [hb5]; rfl) (by decide) ?_
    refine sx_aload_n (i := 0) k52_56 rfl rfl ?_
    obtain ⟨r3, e4, h⟩ := Option.bind_eq_some_iff.mp h
    refine cx_V (sk := []) (vs := []) st_52_53 k52_57 ow_52 cl_1_321 (by decide) rfl (Nat.le_of_ble_eq_true rfl) sk_101 (ok53 _ _ e4) (sk3 := [.int r3.2]) rfl rfl ?_
    exact cx_reti k52_60 rt_52 h
  · rw [if_neg hb5] at h
    by_cases hb11 : r1.2 = (5 : Int32)
    · rw [if_pos hb11] at h
      refine sx_lookup (off := 57) (tgt := 61) k52_4 (by decide) (by rw [hb11]; rfl) (by decide) ?_
      refine sx_aload_n (i := 0) k52_61 rfl rfl ?_
      refine sx_aload_n (i := 0) k52_62 rfl rfl ?_
      refine sx_iconst (v := 0) k52_63 (by decide) ?_
      obtain ⟨r6, e7, h⟩ := Option.bind_eq_some_iff.mp h
      refine cx_V (sk := [.ref 101]) (vs := [.int (0 : Int32)]) st_52_21 k52_64 ow_52 cl_1_262 (by decide) rfl (Nat.le_of_ble_eq_true rfl) sk_101 (ok21 (0 : Int32) _ _ e7) (sk3 := [.int r6.2, .ref 101]) rfl rfl ?_
      obtain ⟨r8, e9, h⟩ := Option.bind_eq_some_iff.mp h
      refine cx_V (sk := []) (vs := [.int r6.2]) st_52_57 k52_67 ow_52 cl_1_324 (by decide) rfl (Nat.le_of_ble_eq_true rfl) sk_101 (ok57 r6.2 _ _ e9) (sk3 := [.int r8.2]) rfl rfl ?_
      by_cases hb10 : 0 ≤ r8.2
      · rw [if_pos hb10] at h
        refine sx_if_ge (tgt := 78) k52_70 (by decide) (fun _ => ?_) (fun q => absurd hb10 q)
        refine sx_iconst (v := 0) k52_78 (by decide) ?_
        exact cx_reti k52_79 rt_52 h
      · rw [if_neg hb10] at h
        refine sx_if_ge (tgt := 78) k52_70 (by decide) (fun q => absurd q hb10) (fun _ => ?_)
        refine sx_bipush (v := 23) k52_73 (by decide) ?_
        refine sx_goto (tgt := 79) k52_75 (by decide) ?_
        exact cx_reti k52_79 rt_52 h
    · rw [if_neg hb11] at h
      by_cases hb17 : r1.2 = (15 : Int32)
      · rw [if_pos hb17] at h
        refine sx_lookup (off := 76) (tgt := 80) k52_4 (by decide) (by rw [hb17]; rfl) (by decide) ?_
        refine sx_aload_n (i := 0) k52_80 rfl rfl ?_
        refine sx_aload_n (i := 0) k52_81 rfl rfl ?_
        refine sx_iconst (v := 0) k52_82 (by decide) ?_
        obtain ⟨r12, e13, h⟩ := Option.bind_eq_some_iff.mp h
        refine cx_V (sk := [.ref 101]) (vs := [.int (0 : Int32)]) st_52_22 k52_83 ow_52 cl_1_180 (by decide) rfl (Nat.le_of_ble_eq_true rfl) sk_101 (ok22 (0 : Int32) _ _ e13) (sk3 := [.int r12.2, .ref 101]) rfl rfl ?_
        obtain ⟨r14, e15, h⟩ := Option.bind_eq_some_iff.mp h
        refine cx_V (sk := []) (vs := [.int r12.2]) st_52_55 k52_86 ow_52 cl_1_327 (by decide) rfl (Nat.le_of_ble_eq_true rfl) sk_101 (ok55 r12.2 _ _ e15) (sk3 := [.int r14.2]) rfl rfl ?_
        by_cases hb16 : r14.2 = 0
        · rw [if_pos hb16] at h
          refine sx_if_eq (tgt := 96) k52_89 (by decide) (fun _ => ?_) (fun q => absurd hb16 q)
          refine sx_bipush (v := 21) k52_96 (by decide) ?_
          exact cx_reti k52_98 rt_52 h
        · rw [if_neg hb16] at h
          refine sx_if_eq (tgt := 96) k52_89 (by decide) (fun q => absurd q hb16) (fun _ => ?_)
          refine sx_iconst (v := 0) k52_92 (by decide) ?_
          refine sx_goto (tgt := 98) k52_93 (by decide) ?_
          exact cx_reti k52_98 rt_52 h
      · rw [if_neg hb17] at h
        by_cases hb21 : r1.2 = (20 : Int32)
        · rw [if_pos hb21] at h
          refine sx_lookup (off := 95) (tgt := 99) k52_4 (by decide) (by rw [hb21]; rfl) (by decide) ?_
          refine sx_aload_n (i := 0) k52_99 rfl rfl ?_
          refine sx_iconst (v := 0) k52_100 (by decide) ?_
          obtain ⟨r18, e19, h⟩ := Option.bind_eq_some_iff.mp h
          refine cx_V (sk := []) (vs := [.int (0 : Int32)]) st_52_20 k52_101 ow_52 cl_1_193 (by decide) rfl (Nat.le_of_ble_eq_true rfl) sk_101 (ok20 (0 : Int32) _ _ e19) (sk3 := [.int r18.2]) rfl rfl ?_
          refine sx_iconst (v := 4) k52_104 (by decide) ?_
          by_cases hb20 : r18.2 < (4 : Int32)
          · rw [if_pos hb20] at h
            refine sx_icmp_lt (tgt := 113) k52_105 (by decide) (fun _ => ?_) (fun q => absurd hb20 q)
            refine sx_iconst (v := 0) k52_113 (by decide) ?_
            exact cx_reti k52_114 rt_52 h
          · rw [if_neg hb20] at h
            refine sx_icmp_lt (tgt := 113) k52_105 (by decide) (fun q => absurd q hb20) (fun _ => ?_)
            refine sx_bipush (v := 20) k52_108 (by decide) ?_
            refine sx_goto (tgt := 114) k52_110 (by decide) ?_
            exact cx_reti k52_114 rt_52 h
        · rw [if_neg hb21] at h
          by_cases hb25 : r1.2 = (21 : Int32)
          · rw [if_pos hb25] at h
            refine sx_lookup (off := 95) (tgt := 99) k52_4 (by decide) (by rw [hb25]; rfl) (by decide) ?_
            refine sx_aload_n (i := 0) k52_99 rfl rfl ?_
            refine sx_iconst (v := 0) k52_100 (by decide) ?_
            obtain ⟨r22, e23, h⟩ := Option.bind_eq_some_iff.mp h
            refine cx_V (sk := []) (vs := [.int (0 : Int32)]) st_52_20 k52_101 ow_52 cl_1_193 (by decide) rfl (Nat.le_of_ble_eq_true rfl) sk_101 (ok20 (0 : Int32) _ _ e23) (sk3 := [.int r22.2]) rfl rfl ?_
            refine sx_iconst (v := 4) k52_104 (by decide) ?_
            by_cases hb24 : r22.2 < (4 : Int32)
            · rw [if_pos hb24] at h
              refine sx_icmp_lt (tgt := 113) k52_105 (by decide) (fun _ => ?_) (fun q => absurd hb24 q)
              refine sx_iconst (v := 0) k52_113 (by decide) ?_
              exact cx_reti k52_114 rt_52 h
            · rw [if_neg hb24] at h
              refine sx_icmp_lt (tgt := 113) k52_105 (by decide) (fun q => absurd q hb24) (fun _ => ?_)
              refine sx_bipush (v := 20) k52_108 (by decide) ?_
              refine sx_goto (tgt := 114) k52_110 (by decide) ?_
              exact cx_reti k52_114 rt_52 h
          · rw [if_neg hb25] at h
            refine sx_lookup (off := 111) (tgt := 115) k52_4 (by decide) (lsw_out (cs := [(4 : Int32), (5 : Int32), (15 : Int32), (20 : Int32), (21 : Int32)]) (by decide) ⟨hb5, hb11, hb17, hb21, hb25, trivial⟩) (by decide) ?_
            refine sx_iconst (v := 0) k52_115 (by decide) ?_
            exact cx_reti k52_116 rt_52 h
theorem k44_0 : decode (gb 44) 0 = .ok (.aload_n 0, 1) := by decide +kernel
theorem k44_1 : decode (gb 44) 1 = .ok (.iconst 1, 1) := by decide +kernel
theorem k44_2 : decode (gb 44) 2 = .ok (.invokevirtual 193, 3) := by decide +kernel
theorem k44_5 : decode (gb 44) 5 = .ok (.bipush 24, 2) := by decide +kernel
theorem k44_7 : decode (gb 44) 7 = .ok (.if_icmp .lt 6, 3) := by decide +kernel
theorem k44_10 : decode (gb 44) 10 = .ok (.bipush 10, 2) := by decide +kernel
theorem k44_12 : decode (gb 44) 12 = .ok (.ireturn, 1) := by decide +kernel
theorem k44_13 : decode (gb 44) 13 = .ok (.aload_n 0, 1) := by decide +kernel
theorem k44_14 : decode (gb 44) 14 = .ok (.bipush 11, 2) := by decide +kernel
theorem k44_16 : decode (gb 44) 16 = .ok (.invokevirtual 193, 3) := by decide +kernel
theorem k44_19 : decode (gb 44) 19 = .ok (.bipush 32, 2) := by decide +kernel
theorem k44_21 : decode (gb 44) 21 = .ok (.if_icmp .lt 6, 3) := by decide +kernel
theorem k44_24 : decode (gb 44) 24 = .ok (.bipush 14, 2) := by decide +kernel
theorem k44_26 : decode (gb 44) 26 = .ok (.ireturn, 1) := by decide +kernel
theorem k44_27 : decode (gb 44) 27 = .ok (.iload_n 1, 1) := by decide +kernel
theorem k44_28 : decode (gb 44) 28 = .ok (.bipush 6, 2) := by decide +kernel
theorem k44_30 : decode (gb 44) 30 = .ok (.if_icmp .ge 7, 3) := by decide +kernel
theorem k44_33 : decode (gb 44) 33 = .ok (.iload_n 2, 1) := by decide +kernel
theorem k44_34 : decode (gb 44) 34 = .ok (.ifCond .eq 6, 3) := by decide +kernel
theorem k44_37 : decode (gb 44) 37 = .ok (.bipush 17, 2) := by decide +kernel
theorem k44_39 : decode (gb 44) 39 = .ok (.ireturn, 1) := by decide +kernel
theorem k44_40 : decode (gb 44) 40 = .ok (.aload_n 0, 1) := by decide +kernel
theorem k44_41 : decode (gb 44) 41 = .ok (.iconst 2, 1) := by decide +kernel
theorem k44_42 : decode (gb 44) 42 = .ok (.invokevirtual 180, 3) := by decide +kernel
theorem k44_45 : decode (gb 44) 45 = .ok (.aload_n 0, 1) := by decide +kernel
theorem k44_46 : decode (gb 44) 46 = .ok (.bipush 6, 2) := by decide +kernel
theorem k44_48 : decode (gb 44) 48 = .ok (.invokevirtual 180, 3) := by decide +kernel
theorem k44_51 : decode (gb 44) 51 = .ok (.if_icmp .gt 12, 3) := by decide +kernel
theorem k44_54 : decode (gb 44) 54 = .ok (.aload_n 0, 1) := by decide +kernel
theorem k44_55 : decode (gb 44) 55 = .ok (.bipush 10, 2) := by decide +kernel
theorem k44_57 : decode (gb 44) 57 = .ok (.invokevirtual 193, 3) := by decide +kernel
theorem k44_60 : decode (gb 44) 60 = .ok (.ifCond .ne 8, 3) := by decide +kernel
theorem k44_63 : decode (gb 44) 63 = .ok (.bipush 18, 2) := by decide +kernel
theorem k44_65 : decode (gb 44) 65 = .ok (.goto 4, 3) := by decide +kernel
theorem k44_68 : decode (gb 44) 68 = .ok (.iconst 0, 1) := by decide +kernel
theorem k44_69 : decode (gb 44) 69 = .ok (.ireturn, 1) := by decide +kernel
def c44_63 (μ : Mem) : Option (Mem × Int32) :=
  some (μ, (18 : Int32))
theorem c44_63_ok {L : Nat} (μ : Mem) (res : Mem × Int32) (h : c44_63 μ = some res) : Sx 44 63 [] [] 0 0 (mk L μ) (mk L res.1, some (.int res.2)) := by
  unfold c44_63 at h
  refine sx_bipush (v := 18) k44_63 (by decide) ?_
  refine sx_goto (tgt := 69) k44_65 (by decide) ?_
  exact cx_reti k44_69 rt_44 h
/-- Board.whyNotWatch(II)I -/
def f44 (p1 : Int32) (p2 : Int32) (μ : Mem) : Option (Mem × Int32) :=
  (f20 (1 : Int32) μ).bind fun r1 =>
  if r1.2 < (24 : Int32) then
    (f20 (11 : Int32) r1.1).bind fun r4 =>
    if r4.2 < (32 : Int32) then
      if (6 : Int32) ≤ p1 then
        some (r4.1, (17 : Int32))
      else
        if p2 = 0 then
          (f22 (2 : Int32) r4.1).bind fun r9 =>
          (f22 (6 : Int32) r9.1).bind fun r11 =>
          if r11.2 < r9.2 then
            c44_63 r11.1
          else
            (f20 (10 : Int32) r11.1).bind fun r14 =>
            if r14.2 = 0 then
              c44_63 r14.1
            else
              some (r14.1, (0 : Int32))
        else
          some (r4.1, (17 : Int32))
    else
      some (r4.1, (14 : Int32))
  else
    some (r1.1, (10 : Int32))
theorem ok44 {L : Nat} (p1 : Int32) (p2 : Int32) (μ : Mem) (res : Mem × Int32) (h : f44 p1 p2 μ = some res) : Mx 44 [.ref 101, .int p1, .int p2] (mk L μ) (mk L res.1, some (.int res.2)) := by
  refine Mx_of ml_44 (by rw [mx_44]; exact Nat.le_of_ble_eq_true rfl) ?_
  show Sx 44 0 [(0, .ref 101), (1, .int p1), (2, .int p2)] [] 0 0 (mk L μ) _
  unfold f44 at h
  refine sx_aload_n (i := 0) k44_0 rfl rfl ?_
  refine sx_iconst (v := 1) k44_1 (by decide) ?_
  obtain ⟨r1, e2, h⟩ := Option.bind_eq_some_iff.mp h
  refine cx_V (sk := []) (vs := [.int (1 : Int32)]) st_44_20 k44_2 ow_44 cl_1_193 (by decide) rfl (Nat.le_of_ble_eq_true rfl) sk_101 (ok20 (1 : Int32) _ _ e2) (sk3 := [.int r1.2]) rfl rfl ?_
  refine sx_bipush (v := 24) k44_5 (by decide) ?_
  by_cases hb3 : r1.2 < (24 : Int32)
  · rw [if_pos hb3] at h
    refine sx_icmp_lt (tgt := 13) k44_7 (by decide) (fun _ => ?_) (fun q => absurd hb3 q)
    refine sx_aload_n (i := 0) k44_13 rfl rfl ?_
    refine sx_bipush (v := 11) k44_14 (by decide) ?_
    obtain ⟨r4, e5, h⟩ := Option.bind_eq_some_iff.mp h
    refine cx_V (sk := []) (vs := [.int (11 : Int32)]) st_44_20 k44_16 ow_44 cl_1_193 (by decide) rfl (Nat.le_of_ble_eq_true rfl) sk_101 (ok20 (11 : Int32) _ _ e5) (sk3 := [.int r4.2]) rfl rfl ?_
    refine sx_bipush (v := 32) k44_19 (by decide) ?_
    by_cases hb6 : r4.2 < (32 : Int32)
    · rw [if_pos hb6] at h
      refine sx_icmp_lt (tgt := 27) k44_21 (by decide) (fun _ => ?_) (fun q => absurd hb6 q)
      refine sx_iload_n (i := 1) k44_27 rfl rfl ?_
      refine sx_bipush (v := 6) k44_28 (by decide) ?_
      by_cases hb7 : (6 : Int32) ≤ p1
      · rw [if_pos hb7] at h
        refine sx_icmp_ge (tgt := 37) k44_30 (by decide) (fun _ => ?_) (fun q => absurd hb7 q)
        refine sx_bipush (v := 17) k44_37 (by decide) ?_
        exact cx_reti k44_39 rt_44 h
      · rw [if_neg hb7] at h
        refine sx_icmp_ge (tgt := 37) k44_30 (by decide) (fun q => absurd q hb7) (fun _ => ?_)
        refine sx_iload_n (i := 2) k44_33 rfl rfl ?_
        by_cases hb8 : p2 = 0
        · rw [if_pos hb8] at h
          refine sx_if_eq (tgt := 40) k44_34 (by decide) (fun _ => ?_) (fun q => absurd hb8 q)
          refine sx_aload_n (i := 0) k44_40 rfl rfl ?_
          refine sx_iconst (v := 2) k44_41 (by decide) ?_
          obtain ⟨r9, e10, h⟩ := Option.bind_eq_some_iff.mp h
          refine cx_V (sk := []) (vs := [.int (2 : Int32)]) st_44_22 k44_42 ow_44 cl_1_180 (by decide) rfl (Nat.le_of_ble_eq_true rfl) sk_101 (ok22 (2 : Int32) _ _ e10) (sk3 := [.int r9.2]) rfl rfl ?_
          refine sx_aload_n (i := 0) k44_45 rfl rfl ?_
          refine sx_bipush (v := 6) k44_46 (by decide) ?_
          obtain ⟨r11, e12, h⟩ := Option.bind_eq_some_iff.mp h
          refine cx_V (sk := [.int r9.2]) (vs := [.int (6 : Int32)]) st_44_22 k44_48 ow_44 cl_1_180 (by decide) rfl (Nat.le_of_ble_eq_true rfl) sk_101 (ok22 (6 : Int32) _ _ e12) (sk3 := [.int r11.2, .int r9.2]) rfl rfl ?_
          by_cases hb13 : r11.2 < r9.2
          · rw [if_pos hb13] at h
            refine sx_icmp_gt (tgt := 63) k44_51 (by decide) (fun _ => ?_) (fun q => absurd hb13 q)
            refine sx_pick (lo2 := []) [] rfl ?_
            exact c44_63_ok _ _ h
          · rw [if_neg hb13] at h
            refine sx_icmp_gt (tgt := 63) k44_51 (by decide) (fun q => absurd q hb13) (fun _ => ?_)
            refine sx_aload_n (i := 0) k44_54 rfl rfl ?_
            refine sx_bipush (v := 10) k44_55 (by decide) ?_
            obtain ⟨r14, e15, h⟩ := Option.bind_eq_some_iff.mp h
            refine cx_V (sk := []) (vs := [.int (10 : Int32)]) st_44_20 k44_57 ow_44 cl_1_193 (by decide) rfl (Nat.le_of_ble_eq_true rfl) sk_101 (ok20 (10 : Int32) _ _ e15) (sk3 := [.int r14.2]) rfl rfl ?_
            by_cases hb16 : r14.2 = 0
            · rw [if_pos hb16] at h
              refine sx_if_ne (tgt := 68) k44_60 (by decide) (fun q => absurd hb16 q) (fun _ => ?_)
              refine sx_pick (lo2 := []) [] rfl ?_
              exact c44_63_ok _ _ h
            · rw [if_neg hb16] at h
              refine sx_if_ne (tgt := 68) k44_60 (by decide) (fun _ => ?_) (fun q => absurd q hb16)
              refine sx_iconst (v := 0) k44_68 (by decide) ?_
              exact cx_reti k44_69 rt_44 h
        · rw [if_neg hb8] at h
          refine sx_if_eq (tgt := 40) k44_34 (by decide) (fun q => absurd q hb8) (fun _ => ?_)
          refine sx_bipush (v := 17) k44_37 (by decide) ?_
          exact cx_reti k44_39 rt_44 h
    · rw [if_neg hb6] at h
      refine sx_icmp_lt (tgt := 27) k44_21 (by decide) (fun q => absurd q hb6) (fun _ => ?_)
      refine sx_bipush (v := 14) k44_24 (by decide) ?_
      exact cx_reti k44_26 rt_44 h
  · rw [if_neg hb3] at h
    refine sx_icmp_lt (tgt := 13) k44_7 (by decide) (fun q => absurd q hb3) (fun _ => ?_)
    refine sx_bipush (v := 10) k44_10 (by decide) ?_
    exact cx_reti k44_12 rt_44 h
theorem k43_0 : decode (gb 43) 0 = .ok (.aload_n 0, 1) := by decide +kernel
theorem k43_1 : decode (gb 43) 1 = .ok (.invokevirtual 247, 3) := by decide +kernel
theorem k43_4 : decode (gb 43) 4 = .ok (.bipush 13, 2) := by decide +kernel
theorem k43_6 : decode (gb 43) 6 = .ok (.if_icmp .ne 5, 3) := by decide +kernel
theorem k43_9 : decode (gb 43) 9 = .ok (.iconst 0, 1) := by decide +kernel
theorem k43_10 : decode (gb 43) 10 = .ok (.ireturn, 1) := by decide +kernel
theorem k43_11 : decode (gb 43) 11 = .ok (.aload_n 0, 1) := by decide +kernel
theorem k43_12 : decode (gb 43) 12 = .ok (.iconst 0, 1) := by decide +kernel
theorem k43_13 : decode (gb 43) 13 = .ok (.invokevirtual 193, 3) := by decide +kernel
theorem k43_16 : decode (gb 43) 16 = .ok (.istore_n 1, 1) := by decide +kernel
theorem k43_17 : decode (gb 43) 17 = .ok (.iload_n 1, 1) := by decide +kernel
theorem k43_18 : decode (gb 43) 18 = .ok (.bipush 6, 2) := by decide +kernel
theorem k43_20 : decode (gb 43) 20 = .ok (.if_icmp .ge 17, 3) := by decide +kernel
theorem k43_23 : decode (gb 43) 23 = .ok (.aload_n 0, 1) := by decide +kernel
theorem k43_24 : decode (gb 43) 24 = .ok (.getfield 45, 3) := by decide +kernel
theorem k43_27 : decode (gb 43) 27 = .ok (.iload_n 1, 1) := by decide +kernel
theorem k43_28 : decode (gb 43) 28 = .ok (.bipush 8, 2) := by decide +kernel
theorem k43_30 : decode (gb 43) 30 = .ok (.imul, 1) := by decide +kernel
theorem k43_31 : decode (gb 43) 31 = .ok (.iconst 0, 1) := by decide +kernel
theorem k43_32 : decode (gb 43) 32 = .ok (.iadd, 1) := by decide +kernel
theorem k43_33 : decode (gb 43) 33 = .ok (.iaload, 1) := by decide +kernel
theorem k43_34 : decode (gb 43) 34 = .ok (.goto 4, 3) := by decide +kernel
theorem k43_37 : decode (gb 43) 37 = .ok (.iconst 0, 1) := by decide +kernel
theorem k43_38 : decode (gb 43) 38 = .ok (.istore_n 2, 1) := by decide +kernel
theorem k43_39 : decode (gb 43) 39 = .ok (.aload_n 0, 1) := by decide +kernel
theorem k43_40 : decode (gb 43) 40 = .ok (.invokevirtual 247, 3) := by decide +kernel
theorem k43_43 : decode (gb 43) 43 = .ok (.iconst 5, 1) := by decide +kernel
theorem k43_44 : decode (gb 43) 44 = .ok (.if_icmp .ne 10, 3) := by decide +kernel
theorem k43_47 : decode (gb 43) 47 = .ok (.aload_n 0, 1) := by decide +kernel
theorem k43_48 : decode (gb 43) 48 = .ok (.iload_n 1, 1) := by decide +kernel
theorem k43_49 : decode (gb 43) 49 = .ok (.iload_n 2, 1) := by decide +kernel
theorem k43_50 : decode (gb 43) 50 = .ok (.invokevirtual 300, 3) := by decide +kernel
theorem k43_53 : decode (gb 43) 53 = .ok (.ireturn, 1) := by decide +kernel
theorem k43_54 : decode (gb 43) 54 = .ok (.iload_n 2, 1) := by decide +kernel
theorem k43_55 : decode (gb 43) 55 = .ok (.ifCond .ne 6, 3) := by decide +kernel
theorem k43_58 : decode (gb 43) 58 = .ok (.bipush 17, 2) := by decide +kernel
theorem k43_60 : decode (gb 43) 60 = .ok (.ireturn, 1) := by decide +kernel
theorem k43_61 : decode (gb 43) 61 = .ok (.aload_n 0, 1) := by decide +kernel
theorem k43_62 : decode (gb 43) 62 = .ok (.invokevirtual 247, 3) := by decide +kernel
theorem k43_65 : decode (gb 43) 65 = .ok (.bipush 6, 2) := by decide +kernel
theorem k43_67 : decode (gb 43) 67 = .ok (.if_icmp .ne 13, 3) := by decide +kernel
theorem k43_70 : decode (gb 43) 70 = .ok (.iload_n 2, 1) := by decide +kernel
theorem k43_71 : decode (gb 43) 71 = .ok (.iconst 1, 1) := by decide +kernel
theorem k43_72 : decode (gb 43) 72 = .ok (.if_icmp .eq 8, 3) := by decide +kernel
theorem k43_75 : decode (gb 43) 75 = .ok (.bipush 17, 2) := by decide +kernel
theorem k43_77 : decode (gb 43) 77 = .ok (.goto 4, 3) := by decide +kernel
theorem k43_80 : decode (gb 43) 80 = .ok (.iconst 0, 1) := by decide +kernel
theorem k43_81 : decode (gb 43) 81 = .ok (.ireturn, 1) := by decide +kernel
def c43_38 (v1 : Int32) (s0 : Int32) (μ : Mem) : Option (Mem × Int32) :=
  (f23 μ).bind fun r1 =>
  if r1.2 = (5 : Int32) then
    (f44 v1 s0 r1.1).bind fun r9 =>
    some (r9.1, r9.2)
  else
    if s0 = 0 then
      some (r1.1, (17 : Int32))
    else
      (f23 r1.1).bind fun r5 =>
      if r5.2 = (6 : Int32) then
        if s0 = (1 : Int32) then
          some (r5.1, (0 : Int32))
        else
          some (r5.1, (17 : Int32))
      else
        some (r5.1, (0 : Int32))
theorem c43_38_ok {L : Nat} (v1 : Int32) (s0 : Int32) (μ : Mem) (res : Mem × Int32) (h : c43_38 v1 s0 μ = some res) : Sx 43 38 [(0, .ref 101), (1, .int v1)] [.int s0] 0 0 (mk L μ) (mk L res.1, some (.int res.2)) := by
  unfold c43_38 at h
  refine cx_istore_n (lo2 := [(2, .int s0), (0, .ref 101), (1, .int v1)]) k43_38 rfl (by rw [mx_43]; decide) rfl ?_
  refine sx_aload_n (i := 0) k43_39 rfl rfl ?_
  obtain ⟨r1, e2, h⟩ := Option.bind_eq_some_iff.mp h
  refine cx_V (sk := []) (vs := []) st_43_23 k43_40 ow_43 cl_1_247 (by decide) rfl (Nat.le_of_ble_eq_true rfl) sk_101 (ok23 _ _ e2) (sk3 := [.int r1.2]) rfl rfl ?_
  refine sx_iconst (v := 5) k43_43 (by decide) ?_
  by_cases hb3 : r1.2 = (5 : Int32)
  · rw [if_pos hb3] at h
    refine sx_icmp_ne (tgt := 54) k43_44 (by decide) (fun q => absurd hb3 q) (fun _ => ?_)
    refine sx_aload_n (i := 0) k43_47 rfl rfl ?_
    refine sx_iload_n (i := 1) k43_48 rfl rfl ?_
    refine sx_iload_n (i := 2) k43_49 rfl rfl ?_
    obtain ⟨r9, e10, h⟩ := Option.bind_eq_some_iff.mp h
    refine cx_V (sk := []) (vs := [.int v1, .int s0]) st_43_44 k43_50 ow_43 cl_1_300 (by decide) rfl (Nat.le_of_ble_eq_true rfl) sk_101 (ok44 v1 s0 _ _ e10) (sk3 := [.int r9.2]) rfl rfl ?_
    exact cx_reti k43_53 rt_43 h
  · rw [if_neg hb3] at h
    refine sx_icmp_ne (tgt := 54) k43_44 (by decide) (fun _ => ?_) (fun q => absurd q hb3)
    refine sx_iload_n (i := 2) k43_54 rfl rfl ?_
    by_cases hb4 : s0 = 0
    · rw [if_pos hb4] at h
      refine sx_if_ne (tgt := 61) k43_55 (by decide) (fun q => absurd hb4 q) (fun _ => ?_)
      refine sx_bipush (v := 17) k43_58 (by decide) ?_
      exact cx_reti k43_60 rt_43 h
    · rw [if_neg hb4] at h
      refine sx_if_ne (tgt := 61) k43_55 (by decide) (fun _ => ?_) (fun q => absurd q hb4)
      refine sx_aload_n (i := 0) k43_61 rfl rfl ?_
      obtain ⟨r5, e6, h⟩ := Option.bind_eq_some_iff.mp h
      refine cx_V (sk := []) (vs := []) st_43_23 k43_62 ow_43 cl_1_247 (by decide) rfl (Nat.le_of_ble_eq_true rfl) sk_101 (ok23 _ _ e6) (sk3 := [.int r5.2]) rfl rfl ?_
      refine sx_bipush (v := 6) k43_65 (by decide) ?_
      by_cases hb7 : r5.2 = (6 : Int32)
      · rw [if_pos hb7] at h
        refine sx_icmp_ne (tgt := 80) k43_67 (by decide) (fun q => absurd hb7 q) (fun _ => ?_)
        refine sx_iload_n (i := 2) k43_70 rfl rfl ?_
        refine sx_iconst (v := 1) k43_71 (by decide) ?_
        by_cases hb8 : s0 = (1 : Int32)
        · rw [if_pos hb8] at h
          refine sx_icmp_eq (tgt := 80) k43_72 (by decide) (fun _ => ?_) (fun q => absurd hb8 q)
          refine sx_iconst (v := 0) k43_80 (by decide) ?_
          exact cx_reti k43_81 rt_43 h
        · rw [if_neg hb8] at h
          refine sx_icmp_eq (tgt := 80) k43_72 (by decide) (fun q => absurd q hb8) (fun _ => ?_)
          refine sx_bipush (v := 17) k43_75 (by decide) ?_
          refine sx_goto (tgt := 81) k43_77 (by decide) ?_
          exact cx_reti k43_81 rt_43 h
      · rw [if_neg hb7] at h
        refine sx_icmp_ne (tgt := 80) k43_67 (by decide) (fun _ => ?_) (fun q => absurd q hb7)
        refine sx_iconst (v := 0) k43_80 (by decide) ?_
        exact cx_reti k43_81 rt_43 h
/-- Board.whyNotWatches()I -/
def f43 (μ : Mem) : Option (Mem × Int32) :=
  (f23 μ).bind fun r1 =>
  if r1.2 = (13 : Int32) then
    some (r1.1, (0 : Int32))
  else
    (f20 (0 : Int32) r1.1).bind fun r4 =>
    if (6 : Int32) ≤ r4.2 then
      c43_38 r4.2 (0 : Int32) r4.1
    else
      (ldA 126 ((r4.2 * (8 : Int32)) + (0 : Int32)) r4.1).bind fun x7 =>
      c43_38 r4.2 x7 r4.1
theorem ok43 {L : Nat} (μ : Mem) (res : Mem × Int32) (h : f43 μ = some res) : Mx 43 [.ref 101] (mk L μ) (mk L res.1, some (.int res.2)) := by
  refine Mx_of ml_43 (by rw [mx_43]; exact Nat.le_of_ble_eq_true rfl) ?_
  show Sx 43 0 [(0, .ref 101)] [] 0 0 (mk L μ) _
  unfold f43 at h
  refine sx_aload_n (i := 0) k43_0 rfl rfl ?_
  obtain ⟨r1, e2, h⟩ := Option.bind_eq_some_iff.mp h
  refine cx_V (sk := []) (vs := []) st_43_23 k43_1 ow_43 cl_1_247 (by decide) rfl (Nat.le_of_ble_eq_true rfl) sk_101 (ok23 _ _ e2) (sk3 := [.int r1.2]) rfl rfl ?_
  refine sx_bipush (v := 13) k43_4 (by decide) ?_
  by_cases hb3 : r1.2 = (13 : Int32)
  · rw [if_pos hb3] at h
    refine sx_icmp_ne (tgt := 11) k43_6 (by decide) (fun q => absurd hb3 q) (fun _ => ?_)
    refine sx_iconst (v := 0) k43_9 (by decide) ?_
    exact cx_reti k43_10 rt_43 h
  · rw [if_neg hb3] at h
    refine sx_icmp_ne (tgt := 11) k43_6 (by decide) (fun _ => ?_) (fun q => absurd q hb3)
    refine sx_aload_n (i := 0) k43_11 rfl rfl ?_
    refine sx_iconst (v := 0) k43_12 (by decide) ?_
    obtain ⟨r4, e5, h⟩ := Option.bind_eq_some_iff.mp h
    refine cx_V (sk := []) (vs := [.int (0 : Int32)]) st_43_20 k43_13 ow_43 cl_1_193 (by decide) rfl (Nat.le_of_ble_eq_true rfl) sk_101 (ok20 (0 : Int32) _ _ e5) (sk3 := [.int r4.2]) rfl rfl ?_
    refine cx_istore_n (lo2 := [(1, .int r4.2), (0, .ref 101)]) k43_16 rfl (by rw [mx_43]; decide) rfl ?_
    refine sx_iload_n (i := 1) k43_17 rfl rfl ?_
    refine sx_bipush (v := 6) k43_18 (by decide) ?_
    by_cases hb6 : (6 : Int32) ≤ r4.2
    · rw [if_pos hb6] at h
      refine sx_icmp_ge (tgt := 37) k43_20 (by decide) (fun _ => ?_) (fun q => absurd hb6 q)
      refine sx_iconst (v := 0) k43_37 (by decide) ?_
      refine sx_pick (lo2 := [(0, .ref 101), (1, .int r4.2)]) [1, 0] rfl ?_
      exact c43_38_ok r4.2 (0 : Int32) _ _ h
    · rw [if_neg hb6] at h
      refine sx_icmp_ge (tgt := 37) k43_20 (by decide) (fun q => absurd q hb6) (fun _ => ?_)
      refine sx_aload_n (i := 0) k43_23 rfl rfl ?_
      refine cx_getR (k := 9) k43_24 ow_43 fl_1_45 (by decide) sk_101 ft_0_9 sr_101_9 ?_
      refine sx_iload_n (i := 1) k43_27 rfl rfl ?_
      refine sx_bipush (v := 8) k43_28 (by decide) ?_
      refine sx_imul k43_30 ?_
      refine sx_iconst (v := 0) k43_31 (by decide) ?_
      refine sx_iadd k43_32 ?_
      obtain ⟨x7, e8, h⟩ := Option.bind_eq_some_iff.mp h
      refine cx_iald k43_33 sk_126 e8 ?_
      refine sx_goto (tgt := 38) k43_34 (by decide) ?_
      refine sx_pick (lo2 := [(0, .ref 101), (1, .int r4.2)]) [1, 0] rfl ?_
      exact c43_38_ok r4.2 x7 _ _ h
theorem k61_0 : decode (gb 61) 0 = .ok (.aload_n 0, 1) := by decide +kernel
theorem k61_1 : decode (gb 61) 1 = .ok (.iconst 0, 1) := by decide +kernel
theorem k61_2 : decode (gb 61) 2 = .ok (.invokevirtual 193, 3) := by decide +kernel
theorem k61_5 : decode (gb 61) 5 = .ok (.iconst 2, 1) := by decide +kernel
theorem k61_6 : decode (gb 61) 6 = .ok (.if_icmp .lt 6, 3) := by decide +kernel
theorem k61_9 : decode (gb 61) 9 = .ok (.bipush 24, 2) := by decide +kernel
theorem k61_11 : decode (gb 61) 11 = .ok (.ireturn, 1) := by decide +kernel
theorem k61_12 : decode (gb 61) 12 = .ok (.aload_n 0, 1) := by decide +kernel
theorem k61_13 : decode (gb 61) 13 = .ok (.invokevirtual 247, 3) := by decide +kernel
theorem k61_16 : decode (gb 61) 16 = .ok (.lookupswitch 79 #[(3, 28), (9, 59)], 28) := by decide +kernel
theorem k61_44 : decode (gb 61) 44 = .ok (.aload_n 0, 1) := by decide +kernel
theorem k61_45 : decode (gb 61) 45 = .ok (.getfield 51, 3) := by decide +kernel
theorem k61_48 : decode (gb 61) 48 = .ok (.getfield 356, 3) := by decide +kernel
theorem k61_51 : decode (gb 61) 51 = .ok (.aload_n 0, 1) := by decide +kernel
theorem k61_52 : decode (gb 61) 52 = .ok (.iconst 0, 1) := by decide +kernel
theorem k61_53 : decode (gb 61) 53 = .ok (.invokevirtual 193, 3) := by decide +kernel
theorem k61_56 : decode (gb 61) 56 = .ok (.aaload, 1) := by decide +kernel
theorem k61_57 : decode (gb 61) 57 = .ok (.aload_n 0, 1) := by decide +kernel
theorem k61_58 : decode (gb 61) 58 = .ok (.iconst 1, 1) := by decide +kernel
theorem k61_59 : decode (gb 61) 59 = .ok (.invokevirtual 262, 3) := by decide +kernel
theorem k61_62 : decode (gb 61) 62 = .ok (.invokevirtual 360, 3) := by decide +kernel
theorem k61_65 : decode (gb 61) 65 = .ok (.ifCond .eq 7, 3) := by decide +kernel
theorem k61_68 : decode (gb 61) 68 = .ok (.iconst 0, 1) := by decide +kernel
theorem k61_69 : decode (gb 61) 69 = .ok (.goto 5, 3) := by decide +kernel
theorem k61_72 : decode (gb 61) 72 = .ok (.bipush 25, 2) := by decide +kernel
theorem k61_74 : decode (gb 61) 74 = .ok (.ireturn, 1) := by decide +kernel
theorem k61_75 : decode (gb 61) 75 = .ok (.aload_n 0, 1) := by decide +kernel
theorem k61_76 : decode (gb 61) 76 = .ok (.getfield 51, 3) := by decide +kernel
theorem k61_79 : decode (gb 61) 79 = .ok (.getfield 365, 3) := by decide +kernel
theorem k61_82 : decode (gb 61) 82 = .ok (.getfield 75, 3) := by decide +kernel
theorem k61_85 : decode (gb 61) 85 = .ok (.ifCond .le 8, 3) := by decide +kernel
theorem k61_88 : decode (gb 61) 88 = .ok (.bipush 26, 2) := by decide +kernel
theorem k61_90 : decode (gb 61) 90 = .ok (.goto 4, 3) := by decide +kernel
theorem k61_93 : decode (gb 61) 93 = .ok (.iconst 0, 1) := by decide +kernel
theorem k61_94 : decode (gb 61) 94 = .ok (.ireturn, 1) := by decide +kernel
theorem k61_95 : decode (gb 61) 95 = .ok (.iconst 0, 1) := by decide +kernel
theorem k61_96 : decode (gb 61) 96 = .ok (.ireturn, 1) := by decide +kernel
/-- Board.whyNotStores()I -/
def f61 (μ : Mem) : Option (Mem × Int32) :=
  (f20 (0 : Int32) μ).bind fun r1 =>
  if r1.2 < (2 : Int32) then
    (f23 r1.1).bind fun r4 =>
    if r4.2 = (3 : Int32) then
      (f20 (0 : Int32) r4.1).bind fun r6 =>
      (ldR 58 r6.2).bind fun o8 =>
      (f21 (1 : Int32) r6.1).bind fun r10 =>
      (f176 o8 r10.2 r10.1).bind fun r12 =>
      if r12.2 = 0 then
        some (r12.1, (25 : Int32))
      else
        some (r12.1, (0 : Int32))
    else if r4.2 = (9 : Int32) then
      if (r4.1.1 81 5) ≤ 0 then
        some (r4.1, (0 : Int32))
      else
        some (r4.1, (26 : Int32))
    else 
      some (r4.1, (0 : Int32))
  else
    some (r1.1, (24 : Int32))
theorem ok61 {L : Nat} (μ : Mem) (res : Mem × Int32) (h : f61 μ = some res) : Mx 61 [.ref 101] (mk L μ) (mk L res.1, some (.int res.2)) := by
  refine Mx_of ml_61 (by rw [mx_61]; exact Nat.le_of_ble_eq_true rfl) ?_
  show Sx 61 0 [(0, .ref 101)] [] 0 0 (mk L μ) _
  unfold f61 at h
  refine sx_aload_n (i := 0) k61_0 rfl rfl ?_
  refine sx_iconst (v := 0) k61_1 (by decide) ?_
  obtain ⟨r1, e2, h⟩ := Option.bind_eq_some_iff.mp h
  refine cx_V (sk := []) (vs := [.int (0 : Int32)]) st_61_20 k61_2 ow_61 cl_1_193 (by decide) rfl (Nat.le_of_ble_eq_true rfl) sk_101 (ok20 (0 : Int32) _ _ e2) (sk3 := [.int r1.2]) rfl rfl ?_
  refine sx_iconst (v := 2) k61_5 (by decide) ?_
  by_cases hb3 : r1.2 < (2 : Int32)
  · rw [if_pos hb3] at h
    refine sx_icmp_lt (tgt := 12) k61_6 (by decide) (fun _ => ?_) (fun q => absurd hb3 q)
    refine sx_aload_n (i := 0) k61_12 rfl rfl ?_
    obtain ⟨r4, e5, h⟩ := Option.bind_eq_some_iff.mp h
    refine cx_V (sk := []) (vs := []) st_61_23 k61_13 ow_61 cl_1_247 (by decide) rfl (Nat.le_of_ble_eq_true rfl) sk_101 (ok23 _ _ e5) (sk3 := [.int r4.2]) rfl rfl ?_
    by_cases hb15 : r4.2 = (3 : Int32)
    · rw [if_pos hb15] at h
      refine sx_lookup (off := 28) (tgt := 44) k61_16 (by decide) (by rw [hb15]; rfl) (by decide) ?_
      refine sx_aload_n (i := 0) k61_44 rfl rfl ?_
      refine cx_getR (k := 0) k61_45 ow_61 fl_1_51 (by decide) sk_101 ft_0_0 sr_101_0 ?_
      refine cx_getR (k := 2) k61_48 ow_61 fl_1_356 (by decide) sk_57 ft_5_2 sr_57_2 ?_
      refine sx_aload_n (i := 0) k61_51 rfl rfl ?_
      refine sx_iconst (v := 0) k61_52 (by decide) ?_
      obtain ⟨r6, e7, h⟩ := Option.bind_eq_some_iff.mp h
      refine cx_V (sk := [.ref 58]) (vs := [.int (0 : Int32)]) st_61_20 k61_53 ow_61 cl_1_193 (by decide) rfl (Nat.le_of_ble_eq_true rfl) sk_101 (ok20 (0 : Int32) _ _ e7) (sk3 := [.int r6.2, .ref 58]) rfl rfl ?_
      obtain ⟨o8, e9, h⟩ := Option.bind_eq_some_iff.mp h
      refine cx_aald (t := 1) k61_56 (by decide) sk_58 e9 ?_
      refine sx_aload_n (i := 0) k61_57 rfl rfl ?_
      refine sx_iconst (v := 1) k61_58 (by decide) ?_
      obtain ⟨r10, e11, h⟩ := Option.bind_eq_some_iff.mp h
      refine cx_V (sk := [.ref o8]) (vs := [.int (1 : Int32)]) st_61_21 k61_59 ow_61 cl_1_262 (by decide) rfl (Nat.le_of_ble_eq_true rfl) sk_101 (ok21 (1 : Int32) _ _ e11) (sk3 := [.int r10.2, .ref o8]) rfl rfl ?_
      obtain ⟨r12, e13, h⟩ := Option.bind_eq_some_iff.mp h
      refine cx_V (sk := []) (vs := [.int r10.2]) st_61_176 k61_62 ow_61 cl_1_360 (by decide) rfl (Nat.le_of_ble_eq_true rfl) (lk_58 e9) (ok176 o8 r10.2 (lk_58 e9) _ _ e13) (sk3 := [.int r12.2]) rfl rfl ?_
      by_cases hb14 : r12.2 = 0
      · rw [if_pos hb14] at h
        refine sx_if_eq (tgt := 72) k61_65 (by decide) (fun _ => ?_) (fun q => absurd hb14 q)
        refine sx_bipush (v := 25) k61_72 (by decide) ?_
        exact cx_reti k61_74 rt_61 h
      · rw [if_neg hb14] at h
        refine sx_if_eq (tgt := 72) k61_65 (by decide) (fun q => absurd q hb14) (fun _ => ?_)
        refine sx_iconst (v := 0) k61_68 (by decide) ?_
        refine sx_goto (tgt := 74) k61_69 (by decide) ?_
        exact cx_reti k61_74 rt_61 h
    · rw [if_neg hb15] at h
      by_cases hb17 : r4.2 = (9 : Int32)
      · rw [if_pos hb17] at h
        refine sx_lookup (off := 59) (tgt := 75) k61_16 (by decide) (by rw [hb17]; rfl) (by decide) ?_
        refine sx_aload_n (i := 0) k61_75 rfl rfl ?_
        refine cx_getR (k := 0) k61_76 ow_61 fl_1_51 (by decide) sk_101 ft_0_0 sr_101_0 ?_
        refine cx_getR (k := 4) k61_79 ow_61 fl_1_365 (by decide) sk_57 ft_5_4 sr_57_4 ?_
        refine cx_getI (k := 5) k61_82 ow_61 fl_1_75 (by decide) sk_81 ft_7_5 ?_
        by_cases hb16 : (r4.1.1 81 5) ≤ 0
        · rw [if_pos hb16] at h
          refine sx_if_le (tgt := 93) k61_85 (by decide) (fun _ => ?_) (fun q => absurd hb16 q)
          refine sx_iconst (v := 0) k61_93 (by decide) ?_
          exact cx_reti k61_94 rt_61 h
        · rw [if_neg hb16] at h
          refine sx_if_le (tgt := 93) k61_85 (by decide) (fun q => absurd q hb16) (fun _ => ?_)
          refine sx_bipush (v := 26) k61_88 (by decide) ?_
          refine sx_goto (tgt := 94) k61_90 (by decide) ?_
          exact cx_reti k61_94 rt_61 h
      · rw [if_neg hb17] at h
        refine sx_lookup (off := 79) (tgt := 95) k61_16 (by decide) (lsw_out (cs := [(3 : Int32), (9 : Int32)]) (by decide) ⟨hb15, hb17, trivial⟩) (by decide) ?_
        refine sx_iconst (v := 0) k61_95 (by decide) ?_
        exact cx_reti k61_96 rt_61 h
  · rw [if_neg hb3] at h
    refine sx_icmp_lt (tgt := 12) k61_6 (by decide) (fun q => absurd q hb3) (fun _ => ?_)
    refine sx_bipush (v := 24) k61_9 (by decide) ?_
    exact cx_reti k61_11 rt_61 h
theorem k41_0 : decode (gb 41) 0 = .ok (.aload_n 0, 1) := by decide +kernel
theorem k41_1 : decode (gb 41) 1 = .ok (.iconst 0, 1) := by decide +kernel
theorem k41_2 : decode (gb 41) 2 = .ok (.invokevirtual 193, 3) := by decide +kernel
theorem k41_5 : decode (gb 41) 5 = .ok (.bipush 32, 2) := by decide +kernel
theorem k41_7 : decode (gb 41) 7 = .ok (.if_icmp .lt 6, 3) := by decide +kernel
theorem k41_10 : decode (gb 41) 10 = .ok (.bipush 14, 2) := by decide +kernel
theorem k41_12 : decode (gb 41) 12 = .ok (.ireturn, 1) := by decide +kernel
theorem k41_13 : decode (gb 41) 13 = .ok (.aload_n 0, 1) := by decide +kernel
theorem k41_14 : decode (gb 41) 14 = .ok (.getfield 23, 3) := by decide +kernel
theorem k41_17 : decode (gb 41) 17 = .ok (.aload_n 0, 1) := by decide +kernel
theorem k41_18 : decode (gb 41) 18 = .ok (.iconst 0, 1) := by decide +kernel
theorem k41_19 : decode (gb 41) 19 = .ok (.invokevirtual 193, 3) := by decide +kernel
theorem k41_22 : decode (gb 41) 22 = .ok (.invokevirtual 291, 3) := by decide +kernel
theorem k41_25 : decode (gb 41) 25 = .ok (.ifCond .lt 7, 3) := by decide +kernel
theorem k41_28 : decode (gb 41) 28 = .ok (.iconst 1, 1) := by decide +kernel
theorem k41_29 : decode (gb 41) 29 = .ok (.goto 4, 3) := by decide +kernel
theorem k41_32 : decode (gb 41) 32 = .ok (.iconst 0, 1) := by decide +kernel
theorem k41_33 : decode (gb 41) 33 = .ok (.istore_n 1, 1) := by decide +kernel
theorem k41_34 : decode (gb 41) 34 = .ok (.iload_n 1, 1) := by decide +kernel
theorem k41_35 : decode (gb 41) 35 = .ok (.aload_n 0, 1) := by decide +kernel
theorem k41_36 : decode (gb 41) 36 = .ok (.invokevirtual 247, 3) := by decide +kernel
theorem k41_39 : decode (gb 41) 39 = .ok (.iconst 1, 1) := by decide +kernel
theorem k41_40 : decode (gb 41) 40 = .ok (.if_icmp .ne 7, 3) := by decide +kernel
theorem k41_43 : decode (gb 41) 43 = .ok (.iconst 1, 1) := by decide +kernel
theorem k41_44 : decode (gb 41) 44 = .ok (.goto 4, 3) := by decide +kernel
theorem k41_47 : decode (gb 41) 47 = .ok (.iconst 0, 1) := by decide +kernel
theorem k41_48 : decode (gb 41) 48 = .ok (.if_icmp .ne 8, 3) := by decide +kernel
theorem k41_51 : decode (gb 41) 51 = .ok (.bipush 19, 2) := by decide +kernel
theorem k41_53 : decode (gb 41) 53 = .ok (.goto 4, 3) := by decide +kernel
theorem k41_56 : decode (gb 41) 56 = .ok (.iconst 0, 1) := by decide +kernel
theorem k41_57 : decode (gb 41) 57 = .ok (.ireturn, 1) := by decide +kernel
def c41_48 (s0 : Int32) (s1 : Int32) (μ : Mem) : Option (Mem × Int32) :=
  if s0 = s1 then
    some (μ, (19 : Int32))
  else
    some (μ, (0 : Int32))
theorem c41_48_ok {L : Nat} (s0 : Int32) (s1 : Int32) (μ : Mem) (res : Mem × Int32) (h : c41_48 s0 s1 μ = some res) : Sx 41 48 [] [.int s1, .int s0] 0 0 (mk L μ) (mk L res.1, some (.int res.2)) := by
  unfold c41_48 at h
  by_cases hb1 : s0 = s1
  · rw [if_pos hb1] at h
    refine sx_icmp_ne (tgt := 56) k41_48 (by decide) (fun q => absurd hb1 q) (fun _ => ?_)
    refine sx_bipush (v := 19) k41_51 (by decide) ?_
    refine sx_goto (tgt := 57) k41_53 (by decide) ?_
    exact cx_reti k41_57 rt_41 h
  · rw [if_neg hb1] at h
    refine sx_icmp_ne (tgt := 56) k41_48 (by decide) (fun _ => ?_) (fun q => absurd q hb1)
    refine sx_iconst (v := 0) k41_56 (by decide) ?_
    exact cx_reti k41_57 rt_41 h
def c41_33 (s0 : Int32) (μ : Mem) : Option (Mem × Int32) :=
  (f23 μ).bind fun r1 =>
  if r1.2 = (1 : Int32) then
    c41_48 s0 (1 : Int32) r1.1
  else
    c41_48 s0 (0 : Int32) r1.1
theorem c41_33_ok {L : Nat} (s0 : Int32) (μ : Mem) (res : Mem × Int32) (h : c41_33 s0 μ = some res) : Sx 41 33 [(0, .ref 101)] [.int s0] 0 0 (mk L μ) (mk L res.1, some (.int res.2)) := by
  unfold c41_33 at h
  refine cx_istore_n (lo2 := [(1, .int s0), (0, .ref 101)]) k41_33 rfl (by rw [mx_41]; decide) rfl ?_
  refine sx_iload_n (i := 1) k41_34 rfl rfl ?_
  refine sx_aload_n (i := 0) k41_35 rfl rfl ?_
  obtain ⟨r1, e2, h⟩ := Option.bind_eq_some_iff.mp h
  refine cx_V (sk := [.int s0]) (vs := []) st_41_23 k41_36 ow_41 cl_1_247 (by decide) rfl (Nat.le_of_ble_eq_true rfl) sk_101 (ok23 _ _ e2) (sk3 := [.int r1.2, .int s0]) rfl rfl ?_
  refine sx_iconst (v := 1) k41_39 (by decide) ?_
  by_cases hb3 : r1.2 = (1 : Int32)
  · rw [if_pos hb3] at h
    refine sx_icmp_ne (tgt := 47) k41_40 (by decide) (fun q => absurd hb3 q) (fun _ => ?_)
    refine sx_iconst (v := 1) k41_43 (by decide) ?_
    refine sx_goto (tgt := 48) k41_44 (by decide) ?_
    refine sx_pick (lo2 := []) [] rfl ?_
    exact c41_48_ok s0 (1 : Int32) _ _ h
  · rw [if_neg hb3] at h
    refine sx_icmp_ne (tgt := 47) k41_40 (by decide) (fun _ => ?_) (fun q => absurd q hb3)
    refine sx_iconst (v := 0) k41_47 (by decide) ?_
    refine sx_pick (lo2 := []) [] rfl ?_
    exact c41_48_ok s0 (0 : Int32) _ _ h
/-- Board.whyNotActions()I -/
def f41 (μ : Mem) : Option (Mem × Int32) :=
  (f20 (0 : Int32) μ).bind fun r1 =>
  if r1.2 < (32 : Int32) then
    (f20 (0 : Int32) r1.1).bind fun r4 =>
    (f165 114 r4.2 r4.1).bind fun r6 =>
    if r6.2 < 0 then
      c41_33 (0 : Int32) r6.1
    else
      c41_33 (1 : Int32) r6.1
  else
    some (r1.1, (14 : Int32))
theorem ok41 {L : Nat} (μ : Mem) (res : Mem × Int32) (h : f41 μ = some res) : Mx 41 [.ref 101] (mk L μ) (mk L res.1, some (.int res.2)) := by
  refine Mx_of ml_41 (by rw [mx_41]; exact Nat.le_of_ble_eq_true rfl) ?_
  show Sx 41 0 [(0, .ref 101)] [] 0 0 (mk L μ) _
  unfold f41 at h
  refine sx_aload_n (i := 0) k41_0 rfl rfl ?_
  refine sx_iconst (v := 0) k41_1 (by decide) ?_
  obtain ⟨r1, e2, h⟩ := Option.bind_eq_some_iff.mp h
  refine cx_V (sk := []) (vs := [.int (0 : Int32)]) st_41_20 k41_2 ow_41 cl_1_193 (by decide) rfl (Nat.le_of_ble_eq_true rfl) sk_101 (ok20 (0 : Int32) _ _ e2) (sk3 := [.int r1.2]) rfl rfl ?_
  refine sx_bipush (v := 32) k41_5 (by decide) ?_
  by_cases hb3 : r1.2 < (32 : Int32)
  · rw [if_pos hb3] at h
    refine sx_icmp_lt (tgt := 13) k41_7 (by decide) (fun _ => ?_) (fun q => absurd hb3 q)
    refine sx_aload_n (i := 0) k41_13 rfl rfl ?_
    refine cx_getR (k := 4) k41_14 ow_41 fl_1_23 (by decide) sk_101 ft_0_4 sr_101_4 ?_
    refine sx_aload_n (i := 0) k41_17 rfl rfl ?_
    refine sx_iconst (v := 0) k41_18 (by decide) ?_
    obtain ⟨r4, e5, h⟩ := Option.bind_eq_some_iff.mp h
    refine cx_V (sk := [.ref 114]) (vs := [.int (0 : Int32)]) st_41_20 k41_19 ow_41 cl_1_193 (by decide) rfl (Nat.le_of_ble_eq_true rfl) sk_101 (ok20 (0 : Int32) _ _ e5) (sk3 := [.int r4.2, .ref 114]) rfl rfl ?_
    obtain ⟨r6, e7, h⟩ := Option.bind_eq_some_iff.mp h
    refine cx_V (sk := []) (vs := [.int r4.2]) st_41_165 k41_22 ow_41 cl_1_291 (by decide) rfl (Nat.le_of_ble_eq_true rfl) sk_114 (ok165 114 r4.2 sk_114 _ _ e7) (sk3 := [.int r6.2]) rfl rfl ?_
    by_cases hb8 : r6.2 < 0
    · rw [if_pos hb8] at h
      refine sx_if_lt (tgt := 32) k41_25 (by decide) (fun _ => ?_) (fun q => absurd hb8 q)
      refine sx_iconst (v := 0) k41_32 (by decide) ?_
      refine sx_pick (lo2 := [(0, .ref 101)]) [0] rfl ?_
      exact c41_33_ok (0 : Int32) _ _ h
    · rw [if_neg hb8] at h
      refine sx_if_lt (tgt := 32) k41_25 (by decide) (fun q => absurd q hb8) (fun _ => ?_)
      refine sx_iconst (v := 1) k41_28 (by decide) ?_
      refine sx_goto (tgt := 33) k41_29 (by decide) ?_
      refine sx_pick (lo2 := [(0, .ref 101)]) [0] rfl ?_
      exact c41_33_ok (1 : Int32) _ _ h
  · rw [if_neg hb3] at h
    refine sx_icmp_lt (tgt := 13) k41_7 (by decide) (fun q => absurd q hb3) (fun _ => ?_)
    refine sx_bipush (v := 14) k41_10 (by decide) ?_
    exact cx_reti k41_12 rt_41 h
theorem k26_0 : decode (gb 26) 0 = .ok (.aload_n 0, 1) := by decide +kernel
theorem k26_1 : decode (gb 26) 1 = .ok (.invokevirtual 247, 3) := by decide +kernel
theorem k26_4 : decode (gb 26) 4 = .ok (.iconst 3, 1) := by decide +kernel
theorem k26_5 : decode (gb 26) 5 = .ok (.if_icmp .ne 7, 3) := by decide +kernel
theorem k26_8 : decode (gb 26) 8 = .ok (.iconst 1, 1) := by decide +kernel
theorem k26_9 : decode (gb 26) 9 = .ok (.goto 4, 3) := by decide +kernel
theorem k26_12 : decode (gb 26) 12 = .ok (.iconst 0, 1) := by decide +kernel
theorem k26_13 : decode (gb 26) 13 = .ok (.istore_n 1, 1) := by decide +kernel
theorem k26_14 : decode (gb 26) 14 = .ok (.iload_n 1, 1) := by decide +kernel
theorem k26_15 : decode (gb 26) 15 = .ok (.ifCond .eq 7, 3) := by decide +kernel
theorem k26_18 : decode (gb 26) 18 = .ok (.iconst 5, 1) := by decide +kernel
theorem k26_19 : decode (gb 26) 19 = .ok (.goto 4, 3) := by decide +kernel
theorem k26_22 : decode (gb 26) 22 = .ok (.iconst 1, 1) := by decide +kernel
theorem k26_23 : decode (gb 26) 23 = .ok (.istore_n 2, 1) := by decide +kernel
theorem k26_24 : decode (gb 26) 24 = .ok (.iload_n 1, 1) := by decide +kernel
theorem k26_25 : decode (gb 26) 25 = .ok (.ifCond .eq 8, 3) := by decide +kernel
theorem k26_28 : decode (gb 26) 28 = .ok (.bipush 15, 2) := by decide +kernel
theorem k26_30 : decode (gb 26) 30 = .ok (.goto 5, 3) := by decide +kernel
theorem k26_33 : decode (gb 26) 33 = .ok (.bipush 23, 2) := by decide +kernel
theorem k26_35 : decode (gb 26) 35 = .ok (.istore_n 3, 1) := by decide +kernel
theorem k26_36 : decode (gb 26) 36 = .ok (.aload_n 0, 1) := by decide +kernel
theorem k26_37 : decode (gb 26) 37 = .ok (.iconst 0, 1) := by decide +kernel
theorem k26_38 : decode (gb 26) 38 = .ok (.invokevirtual 193, 3) := by decide +kernel
theorem k26_41 : decode (gb 26) 41 = .ok (.istore 4, 2) := by decide +kernel
theorem k26_43 : decode (gb 26) 43 = .ok (.iconst 0, 1) := by decide +kernel
theorem k26_44 : decode (gb 26) 44 = .ok (.istore 5, 2) := by decide +kernel
theorem k26_46 : decode (gb 26) 46 = .ok (.iload 5, 2) := by decide +kernel
theorem k26_48 : decode (gb 26) 48 = .ok (.iload 4, 2) := by decide +kernel
theorem k26_50 : decode (gb 26) 50 = .ok (.if_icmp .ge 26, 3) := by decide +kernel
theorem k26_53 : decode (gb 26) 53 = .ok (.aload_n 0, 1) := by decide +kernel
theorem k26_54 : decode (gb 26) 54 = .ok (.iconst 1, 1) := by decide +kernel
theorem k26_55 : decode (gb 26) 55 = .ok (.iload_n 2, 1) := by decide +kernel
theorem k26_56 : decode (gb 26) 56 = .ok (.iload 5, 2) := by decide +kernel
theorem k26_58 : decode (gb 26) 58 = .ok (.imul, 1) := by decide +kernel
theorem k26_59 : decode (gb 26) 59 = .ok (.iadd, 1) := by decide +kernel
theorem k26_60 : decode (gb 26) 60 = .ok (.invokevirtual 193, 3) := by decide +kernel
theorem k26_63 : decode (gb 26) 63 = .ok (.iload_n 3, 1) := by decide +kernel
theorem k26_64 : decode (gb 26) 64 = .ok (.if_icmp .le 6, 3) := by decide +kernel
theorem k26_67 : decode (gb 26) 67 = .ok (.bipush 10, 2) := by decide +kernel
theorem k26_69 : decode (gb 26) 69 = .ok (.ireturn, 1) := by decide +kernel
theorem k26_70 : decode (gb 26) 70 = .ok (.iinc 5 1, 3) := by decide +kernel
theorem k26_73 : decode (gb 26) 73 = .ok (.goto (-27), 3) := by decide +kernel
theorem k26_76 : decode (gb 26) 76 = .ok (.iconst 0, 1) := by decide +kernel
theorem k26_77 : decode (gb 26) 77 = .ok (.ireturn, 1) := by decide +kernel
def b26_46 (kl46 : Int32 → Int32 → Int32 → Int32 → Mem → Option (Mem × Int32)) (v2 : Int32) (v3 : Int32) (v4 : Int32) (v5 : Int32) (μ : Mem) : Option (Mem × Int32) :=
  if v4 ≤ v5 then
    some (μ, (0 : Int32))
  else
    (f20 ((1 : Int32) + (v2 * v5)) μ).bind fun r2 =>
    if r2.2 ≤ v3 then
      nm (v5 + (1 : Int32)) fun x5 =>
      kl46 v2 v3 v4 x5 r2.1
    else
      some (r2.1, (10 : Int32))
theorem b26_46_ok {L : Nat} (kl46 : Int32 → Int32 → Int32 → Int32 → Mem → Option (Mem × Int32)) (hk46 : (∀ (v2 : Int32) (v3 : Int32) (v4 : Int32) (v5 : Int32) (μ : Mem) (res : Mem × Int32), kl46 v2 v3 v4 v5 μ = some res → Sx 26 46 [(0, .ref 101), (2, .int v2), (3, .int v3), (4, .int v4), (5, .int v5)] [] 0 0 (mk L μ) (mk L res.1, some (.int res.2)))) (v2 : Int32) (v3 : Int32) (v4 : Int32) (v5 : Int32) (μ : Mem) (res : Mem × Int32) (h : b26_46 kl46 v2 v3 v4 v5 μ = some res) : Sx 26 46 [(0, .ref 101), (2, .int v2), (3, .int v3), (4, .int v4), (5, .int v5)] [] 0 0 (mk L μ) (mk L res.1, some (.int res.2)) := by
  unfold b26_46 at h
  refine sx_iload k26_46 rfl ?_
  refine sx_iload k26_48 rfl ?_
  by_cases hb1 : v4 ≤ v5
  · rw [if_pos hb1] at h
    refine sx_icmp_ge (tgt := 76) k26_50 (by decide) (fun _ => ?_) (fun q => absurd hb1 q)
    refine sx_iconst (v := 0) k26_76 (by decide) ?_
    exact cx_reti k26_77 rt_26 h
  · rw [if_neg hb1] at h
    refine sx_icmp_ge (tgt := 76) k26_50 (by decide) (fun q => absurd q hb1) (fun _ => ?_)
    refine sx_aload_n (i := 0) k26_53 rfl rfl ?_
    refine sx_iconst (v := 1) k26_54 (by decide) ?_
    refine sx_iload_n (i := 2) k26_55 rfl rfl ?_
    refine sx_iload k26_56 rfl ?_
    refine sx_imul k26_58 ?_
    refine sx_iadd k26_59 ?_
    obtain ⟨r2, e3, h⟩ := Option.bind_eq_some_iff.mp h
    refine cx_V (sk := []) (vs := [.int ((1 : Int32) + (v2 * v5))]) st_26_20 k26_60 ow_26 cl_1_193 (by decide) rfl (Nat.le_of_ble_eq_true rfl) sk_101 (ok20 ((1 : Int32) + (v2 * v5)) _ _ e3) (sk3 := [.int r2.2]) rfl rfl ?_
    refine sx_iload_n (i := 3) k26_63 rfl rfl ?_
    by_cases hb4 : r2.2 ≤ v3
    · rw [if_pos hb4] at h
      refine sx_icmp_le (tgt := 70) k26_64 (by decide) (fun _ => ?_) (fun q => absurd hb4 q)
      refine cx_iinc (c := 1) (lo2 := fun x5 => [(5, .int x5), (0, .ref 101), (2, .int v2), (3, .int v3), (4, .int v4)]) k26_70 rfl (by decide) (by rw [mx_26]; decide) (fun _ => rfl) h (fun x5 h => ?_)
      refine sx_goto (tgt := 46) k26_73 (by decide) ?_
      refine sx_pick (lo2 := [(0, .ref 101), (2, .int v2), (3, .int v3), (4, .int v4), (5, .int x5)]) [1, 2, 3, 4, 0] rfl ?_
      exact hk46 v2 v3 v4 x5 _ _ h
    · rw [if_neg hb4] at h
      refine sx_icmp_le (tgt := 70) k26_64 (by decide) (fun q => absurd q hb4) (fun _ => ?_)
      refine sx_bipush (v := 10) k26_67 (by decide) ?_
      exact cx_reti k26_69 rt_26 h
def l26_46 : Nat → Int32 × Int32 × Int32 × Int32 × Mem → Option (Mem × Int32) :=
  fixN (fun self x => b26_46 (fun v2 v3 v4 v5 μ => self (v2, v3, v4, v5, μ)) (x.1) (x.2.1) (x.2.2.1) (x.2.2.2.1) (x.2.2.2.2))
theorem l26_46_ok {L : Nat} (n : Nat) (v2 : Int32) (v3 : Int32) (v4 : Int32) (v5 : Int32) (μ : Mem) (res : Mem × Int32) (h : l26_46 n (v2, v3, v4, v5, μ) = some res) : Sx 26 46 [(0, .ref 101), (2, .int v2), (3, .int v3), (4, .int v4), (5, .int v5)] [] 0 0 (mk L μ) (mk L res.1, some (.int res.2)) := by
  have key := fixN_ind (P := fun x res => Sx 26 46 [(0, .ref 101), (2, .int (x.1)), (3, .int (x.2.1)), (4, .int (x.2.2.1)), (5, .int (x.2.2.2.1))] [] 0 0 (mk L (x.2.2.2.2)) (mk L res.1, some (.int res.2))) (F := fun self x => b26_46 (fun v2 v3 v4 v5 μ => self (v2, v3, v4, v5, μ)) (x.1) (x.2.1) (x.2.2.1) (x.2.2.2.1) (x.2.2.2.2)) (fun self hself x res h => b26_46_ok (fun v2 v3 v4 v5 μ => self (v2, v3, v4, v5, μ)) (fun v2 v3 v4 v5 μ res hh => hself (v2, v3, v4, v5, μ) res hh) (x.1) (x.2.1) (x.2.2.1) (x.2.2.2.1) (x.2.2.2.2) res h) n (v2, v3, v4, v5, μ) res h
  exact key
def c26_35 (v2 : Int32) (s0 : Int32) (μ : Mem) : Option (Mem × Int32) :=
  (f20 (0 : Int32) μ).bind fun r1 =>
  l26_46 gF (v2, s0, r1.2, (0 : Int32), r1.1)
theorem c26_35_ok {L : Nat} (v2 : Int32) (s0 : Int32) (μ : Mem) (res : Mem × Int32) (h : c26_35 v2 s0 μ = some res) : Sx 26 35 [(0, .ref 101), (2, .int v2)] [.int s0] 0 0 (mk L μ) (mk L res.1, some (.int res.2)) := by
  unfold c26_35 at h
  refine cx_istore_n (lo2 := [(3, .int s0), (0, .ref 101), (2, .int v2)]) k26_35 rfl (by rw [mx_26]; decide) rfl ?_
  refine sx_aload_n (i := 0) k26_36 rfl rfl ?_
  refine sx_iconst (v := 0) k26_37 (by decide) ?_
  obtain ⟨r1, e2, h⟩ := Option.bind_eq_some_iff.mp h
  refine cx_V (sk := []) (vs := [.int (0 : Int32)]) st_26_20 k26_38 ow_26 cl_1_193 (by decide) rfl (Nat.le_of_ble_eq_true rfl) sk_101 (ok20 (0 : Int32) _ _ e2) (sk3 := [.int r1.2]) rfl rfl ?_
  refine cx_istore (lo2 := [(4, .int r1.2), (3, .int s0), (0, .ref 101), (2, .int v2)]) k26_41 (by rw [mx_26]; decide) rfl ?_
  refine sx_iconst (v := 0) k26_43 (by decide) ?_
  refine cx_istore (lo2 := [(5, .int (0 : Int32)), (4, .int r1.2), (3, .int s0), (0, .ref 101), (2, .int v2)]) k26_44 (by rw [mx_26]; decide) rfl ?_
  refine sx_pick (lo2 := [(0, .ref 101), (2, .int v2), (3, .int s0), (4, .int r1.2), (5, .int (0 : Int32))]) [3, 4, 2, 1, 0] rfl ?_
  exact l26_46_ok gF v2 s0 r1.2 (0 : Int32) _ _ h
def c26_23 (v1 : Int32) (s0 : Int32) (μ : Mem) : Option (Mem × Int32) :=
  if v1 = 0 then
    c26_35 s0 (23 : Int32) μ
  else
    c26_35 s0 (15 : Int32) μ
theorem c26_23_ok {L : Nat} (v1 : Int32) (s0 : Int32) (μ : Mem) (res : Mem × Int32) (h : c26_23 v1 s0 μ = some res) : Sx 26 23 [(0, .ref 101), (1, .int v1)] [.int s0] 0 0 (mk L μ) (mk L res.1, some (.int res.2)) := by
  unfold c26_23 at h
  refine cx_istore_n (lo2 := [(2, .int s0), (0, .ref 101), (1, .int v1)]) k26_23 rfl (by rw [mx_26]; decide) rfl ?_
  refine sx_iload_n (i := 1) k26_24 rfl rfl ?_
  by_cases hb1 : v1 = 0
  · rw [if_pos hb1] at h
    refine sx_if_eq (tgt := 33) k26_25 (by decide) (fun _ => ?_) (fun q => absurd hb1 q)
    refine sx_bipush (v := 23) k26_33 (by decide) ?_
    refine sx_pick (lo2 := [(0, .ref 101), (2, .int s0)]) [1, 0] rfl ?_
    exact c26_35_ok s0 (23 : Int32) _ _ h
  · rw [if_neg hb1] at h
    refine sx_if_eq (tgt := 33) k26_25 (by decide) (fun q => absurd q hb1) (fun _ => ?_)
    refine sx_bipush (v := 15) k26_28 (by decide) ?_
    refine sx_goto (tgt := 35) k26_30 (by decide) ?_
    refine sx_pick (lo2 := [(0, .ref 101), (2, .int s0)]) [1, 0] rfl ?_
    exact c26_35_ok s0 (15 : Int32) _ _ h
def c26_13 (s0 : Int32) (μ : Mem) : Option (Mem × Int32) :=
  if s0 = 0 then
    c26_23 s0 (1 : Int32) μ
  else
    c26_23 s0 (5 : Int32) μ
theorem c26_13_ok {L : Nat} (s0 : Int32) (μ : Mem) (res : Mem × Int32) (h : c26_13 s0 μ = some res) : Sx 26 13 [(0, .ref 101)] [.int s0] 0 0 (mk L μ) (mk L res.1, some (.int res.2)) := by
  unfold c26_13 at h
  refine cx_istore_n (lo2 := [(1, .int s0), (0, .ref 101)]) k26_13 rfl (by rw [mx_26]; decide) rfl ?_
  refine sx_iload_n (i := 1) k26_14 rfl rfl ?_
  by_cases hb1 : s0 = 0
  · rw [if_pos hb1] at h
    refine sx_if_eq (tgt := 22) k26_15 (by decide) (fun _ => ?_) (fun q => absurd hb1 q)
    refine sx_iconst (v := 1) k26_22 (by decide) ?_
    refine sx_pick (lo2 := [(0, .ref 101), (1, .int s0)]) [1, 0] rfl ?_
    exact c26_23_ok s0 (1 : Int32) _ _ h
  · rw [if_neg hb1] at h
    refine sx_if_eq (tgt := 22) k26_15 (by decide) (fun q => absurd q hb1) (fun _ => ?_)
    refine sx_iconst (v := 5) k26_18 (by decide) ?_
    refine sx_goto (tgt := 23) k26_19 (by decide) ?_
    refine sx_pick (lo2 := [(0, .ref 101), (1, .int s0)]) [1, 0] rfl ?_
    exact c26_23_ok s0 (5 : Int32) _ _ h
/-- Board.whyNotParameters()I -/
def f26 (μ : Mem) : Option (Mem × Int32) :=
  (f23 μ).bind fun r1 =>
  if r1.2 = (3 : Int32) then
    c26_13 (1 : Int32) r1.1
  else
    c26_13 (0 : Int32) r1.1
theorem ok26 {L : Nat} (μ : Mem) (res : Mem × Int32) (h : f26 μ = some res) : Mx 26 [.ref 101] (mk L μ) (mk L res.1, some (.int res.2)) := by
  refine Mx_of ml_26 (by rw [mx_26]; exact Nat.le_of_ble_eq_true rfl) ?_
  show Sx 26 0 [(0, .ref 101)] [] 0 0 (mk L μ) _
  unfold f26 at h
  refine sx_aload_n (i := 0) k26_0 rfl rfl ?_
  obtain ⟨r1, e2, h⟩ := Option.bind_eq_some_iff.mp h
  refine cx_V (sk := []) (vs := []) st_26_23 k26_1 ow_26 cl_1_247 (by decide) rfl (Nat.le_of_ble_eq_true rfl) sk_101 (ok23 _ _ e2) (sk3 := [.int r1.2]) rfl rfl ?_
  refine sx_iconst (v := 3) k26_4 (by decide) ?_
  by_cases hb3 : r1.2 = (3 : Int32)
  · rw [if_pos hb3] at h
    refine sx_icmp_ne (tgt := 12) k26_5 (by decide) (fun q => absurd hb3 q) (fun _ => ?_)
    refine sx_iconst (v := 1) k26_8 (by decide) ?_
    refine sx_goto (tgt := 13) k26_9 (by decide) ?_
    refine sx_pick (lo2 := [(0, .ref 101)]) [0] rfl ?_
    exact c26_13_ok (1 : Int32) _ _ h
  · rw [if_neg hb3] at h
    refine sx_icmp_ne (tgt := 12) k26_5 (by decide) (fun _ => ?_) (fun q => absurd q hb3)
    refine sx_iconst (v := 0) k26_12 (by decide) ?_
    refine sx_pick (lo2 := [(0, .ref 101)]) [0] rfl ?_
    exact c26_13_ok (0 : Int32) _ _ h
theorem k24_0 : decode (gb 24) 0 = .ok (.aload_n 0, 1) := by decide +kernel
theorem k24_1 : decode (gb 24) 1 = .ok (.getfield 35, 3) := by decide +kernel
theorem k24_4 : decode (gb 24) 4 = .ok (.bipush 7, 2) := by decide +kernel
theorem k24_6 : decode (gb 24) 6 = .ok (.invokevirtual 105, 3) := by decide +kernel
theorem k24_9 : decode (gb 24) 9 = .ok (.tableswitch 155 3 20 #[87, 155, 92, 109, 155, 114, 155, 155, 130, 135, 155, 155, 140, 155, 155, 155, 145, 150], 87) := by decide +kernel
theorem k24_96 : decode (gb 24) 96 = .ok (.aload_n 0, 1) := by decide +kernel
theorem k24_97 : decode (gb 24) 97 = .ok (.invokevirtual 199, 3) := by decide +kernel
theorem k24_100 : decode (gb 24) 100 = .ok (.ireturn, 1) := by decide +kernel
theorem k24_101 : decode (gb 24) 101 = .ok (.aload_n 0, 1) := by decide +kernel
theorem k24_102 : decode (gb 24) 102 = .ok (.iconst 0, 1) := by decide +kernel
theorem k24_103 : decode (gb 24) 103 = .ok (.invokevirtual 193, 3) := by decide +kernel
theorem k24_106 : decode (gb 24) 106 = .ok (.bipush 32, 2) := by decide +kernel
theorem k24_108 : decode (gb 24) 108 = .ok (.if_icmp .lt 8, 3) := by decide +kernel
theorem k24_111 : decode (gb 24) 111 = .ok (.bipush 14, 2) := by decide +kernel
theorem k24_113 : decode (gb 24) 113 = .ok (.goto 4, 3) := by decide +kernel
theorem k24_116 : decode (gb 24) 116 = .ok (.iconst 0, 1) := by decide +kernel
theorem k24_117 : decode (gb 24) 117 = .ok (.ireturn, 1) := by decide +kernel
theorem k24_118 : decode (gb 24) 118 = .ok (.aload_n 0, 1) := by decide +kernel
theorem k24_119 : decode (gb 24) 119 = .ok (.invokevirtual 202, 3) := by decide +kernel
theorem k24_122 : decode (gb 24) 122 = .ok (.ireturn, 1) := by decide +kernel
theorem k24_123 : decode (gb 24) 123 = .ok (.aload_n 0, 1) := by decide +kernel
theorem k24_124 : decode (gb 24) 124 = .ok (.iconst 0, 1) := by decide +kernel
theorem k24_125 : decode (gb 24) 125 = .ok (.invokevirtual 193, 3) := by decide +kernel
theorem k24_128 : decode (gb 24) 128 = .ok (.iconst 3, 1) := by decide +kernel
theorem k24_129 : decode (gb 24) 129 = .ok (.if_icmp .le 8, 3) := by decide +kernel
theorem k24_132 : decode (gb 24) 132 = .ok (.bipush 15, 2) := by decide +kernel
theorem k24_134 : decode (gb 24) 134 = .ok (.goto 4, 3) := by decide +kernel
theorem k24_137 : decode (gb 24) 137 = .ok (.iconst 0, 1) := by decide +kernel
theorem k24_138 : decode (gb 24) 138 = .ok (.ireturn, 1) := by decide +kernel
theorem k24_139 : decode (gb 24) 139 = .ok (.aload_n 0, 1) := by decide +kernel
theorem k24_140 : decode (gb 24) 140 = .ok (.invokevirtual 205, 3) := by decide +kernel
theorem k24_143 : decode (gb 24) 143 = .ok (.ireturn, 1) := by decide +kernel
theorem k24_144 : decode (gb 24) 144 = .ok (.aload_n 0, 1) := by decide +kernel
theorem k24_145 : decode (gb 24) 145 = .ok (.invokevirtual 208, 3) := by decide +kernel
theorem k24_148 : decode (gb 24) 148 = .ok (.ireturn, 1) := by decide +kernel
theorem k24_149 : decode (gb 24) 149 = .ok (.aload_n 0, 1) := by decide +kernel
theorem k24_150 : decode (gb 24) 150 = .ok (.invokevirtual 211, 3) := by decide +kernel
theorem k24_153 : decode (gb 24) 153 = .ok (.ireturn, 1) := by decide +kernel
theorem k24_154 : decode (gb 24) 154 = .ok (.aload_n 0, 1) := by decide +kernel
theorem k24_155 : decode (gb 24) 155 = .ok (.invokevirtual 214, 3) := by decide +kernel
theorem k24_158 : decode (gb 24) 158 = .ok (.ireturn, 1) := by decide +kernel
theorem k24_159 : decode (gb 24) 159 = .ok (.aload_n 0, 1) := by decide +kernel
theorem k24_160 : decode (gb 24) 160 = .ok (.invokevirtual 217, 3) := by decide +kernel
theorem k24_163 : decode (gb 24) 163 = .ok (.ireturn, 1) := by decide +kernel
theorem k24_164 : decode (gb 24) 164 = .ok (.iconst 0, 1) := by decide +kernel
theorem k24_165 : decode (gb 24) 165 = .ok (.ireturn, 1) := by decide +kernel
/-- Board.whyNot()I -/
def f24 (μ : Mem) : Option (Mem × Int32) :=
  (f75 122 (7 : Int32) μ).bind fun r1 =>
  if r1.2 = (3 : Int32) then
    (f33 r1.1).bind fun r3 =>
    some (r3.1, r3.2)
  else if r1.2 = (4 : Int32) then
    some (r1.1, (0 : Int32))
  else if r1.2 = (5 : Int32) then
    (f20 (0 : Int32) r1.1).bind fun r7 =>
    if r7.2 < (32 : Int32) then
      some (r7.1, (0 : Int32))
    else
      some (r7.1, (14 : Int32))
  else if r1.2 = (6 : Int32) then
    (f31 r1.1).bind fun r11 =>
    some (r11.1, r11.2)
  else if r1.2 = (7 : Int32) then
    some (r1.1, (0 : Int32))
  else if r1.2 = (8 : Int32) then
    (f20 (0 : Int32) r1.1).bind fun r15 =>
    if r15.2 ≤ (3 : Int32) then
      some (r15.1, (0 : Int32))
    else
      some (r15.1, (15 : Int32))
  else if r1.2 = (9 : Int32) then
    some (r1.1, (0 : Int32))
  else if r1.2 = (10 : Int32) then
    some (r1.1, (0 : Int32))
  else if r1.2 = (11 : Int32) then
    (f52 r1.1).bind fun r21 =>
    some (r21.1, r21.2)
  else if r1.2 = (12 : Int32) then
    (f43 r1.1).bind fun r24 =>
    some (r24.1, r24.2)
  else if r1.2 = (13 : Int32) then
    some (r1.1, (0 : Int32))
  else if r1.2 = (14 : Int32) then
    some (r1.1, (0 : Int32))
  else if r1.2 = (15 : Int32) then
    (f61 r1.1).bind fun r29 =>
    some (r29.1, r29.2)
  else if r1.2 = (16 : Int32) then
    some (r1.1, (0 : Int32))
  else if r1.2 = (17 : Int32) then
    some (r1.1, (0 : Int32))
  else if r1.2 = (18 : Int32) then
    some (r1.1, (0 : Int32))
  else if r1.2 = (19 : Int32) then
    (f41 r1.1).bind fun r35 =>
    some (r35.1, r35.2)
  else if r1.2 = (20 : Int32) then
    (f26 r1.1).bind fun r38 =>
    some (r38.1, r38.2)
  else 
    some (r1.1, (0 : Int32))
theorem ok24 {L : Nat} (μ : Mem) (res : Mem × Int32) (h : f24 μ = some res) : Mx 24 [.ref 101] (mk L μ) (mk L res.1, some (.int res.2)) := by
  refine Mx_of ml_24 (by rw [mx_24]; exact Nat.le_of_ble_eq_true rfl) ?_
  show Sx 24 0 [(0, .ref 101)] [] 0 0 (mk L μ) _
  unfold f24 at h
  refine sx_aload_n (i := 0) k24_0 rfl rfl ?_
  refine cx_getR (k := 6) k24_1 ow_24 fl_1_35 (by decide) sk_101 ft_0_6 sr_101_6 ?_
  refine sx_bipush (v := 7) k24_4 (by decide) ?_
  obtain ⟨r1, e2, h⟩ := Option.bind_eq_some_iff.mp h
  refine cx_V (sk := []) (vs := [.int (7 : Int32)]) st_24_75 k24_6 ow_24 cl_1_105 (by decide) rfl (Nat.le_of_ble_eq_true rfl) sk_122 (ok75 122 (7 : Int32) sk_122 _ _ e2) (sk3 := [.int r1.2]) rfl rfl ?_
  by_cases hb5 : r1.2 = (3 : Int32)
  · rw [if_pos hb5] at h
    refine sx_tableIn (off := 87) (tgt := 96) k24_9 (by rw [hb5]; decide) (by rw [hb5]; decide) (by rw [hb5]; rfl) (by decide) ?_
    refine sx_aload_n (i := 0) k24_96 rfl rfl ?_
    obtain ⟨r3, e4, h⟩ := Option.bind_eq_some_iff.mp h
    refine cx_V (sk := []) (vs := []) st_24_33 k24_97 ow_24 cl_1_199 (by decide) rfl (Nat.le_of_ble_eq_true rfl) sk_101 (ok33 _ _ e4) (sk3 := [.int r3.2]) rfl rfl ?_
    exact cx_reti k24_100 rt_24 h
  · rw [if_neg hb5] at h
    by_cases hb6 : r1.2 = (4 : Int32)
    · rw [if_pos hb6] at h
      refine sx_tableIn (off := 155) (tgt := 164) k24_9 (by rw [hb6]; decide) (by rw [hb6]; decide) (by rw [hb6]; rfl) (by decide) ?_
      refine sx_iconst (v := 0) k24_164 (by decide) ?_
      exact cx_reti k24_165 rt_24 h
    · rw [if_neg hb6] at h
      by_cases hb10 : r1.2 = (5 : Int32)
      · rw [if_pos hb10] at h
        refine sx_tableIn (off := 92) (tgt := 101) k24_9 (by rw [hb10]; decide) (by rw [hb10]; decide) (by rw [hb10]; rfl) (by decide) ?_
        refine sx_aload_n (i := 0) k24_101 rfl rfl ?_
        refine sx_iconst (v := 0) k24_102 (by decide) ?_
        obtain ⟨r7, e8, h⟩ := Option.bind_eq_some_iff.mp h
        refine cx_V (sk := []) (vs := [.int (0 : Int32)]) st_24_20 k24_103 ow_24 cl_1_193 (by decide) rfl (Nat.le_of_ble_eq_true rfl) sk_101 (ok20 (0 : Int32) _ _ e8) (sk3 := [.int r7.2]) rfl rfl ?_
        refine sx_bipush (v := 32) k24_106 (by decide) ?_
        by_cases hb9 : r7.2 < (32 : Int32)
        · rw [if_pos hb9] at h
          refine sx_icmp_lt (tgt := 116) k24_108 (by decide) (fun _ => ?_) (fun q => absurd hb9 q)
          refine sx_iconst (v := 0) k24_116 (by decide) ?_
          exact cx_reti k24_117 rt_24 h
        · rw [if_neg hb9] at h
          refine sx_icmp_lt (tgt := 116) k24_108 (by decide) (fun q => absurd q hb9) (fun _ => ?_)
          refine sx_bipush (v := 14) k24_111 (by decide) ?_
          refine sx_goto (tgt := 117) k24_113 (by decide) ?_
          exact cx_reti k24_117 rt_24 h
      · rw [if_neg hb10] at h
        by_cases hb13 : r1.2 = (6 : Int32)
        · rw [if_pos hb13] at h
          refine sx_tableIn (off := 109) (tgt := 118) k24_9 (by rw [hb13]; decide) (by rw [hb13]; decide) (by rw [hb13]; rfl) (by decide) ?_
          refine sx_aload_n (i := 0) k24_118 rfl rfl ?_
          obtain ⟨r11, e12, h⟩ := Option.bind_eq_some_iff.mp h
          refine cx_V (sk := []) (vs := []) st_24_31 k24_119 ow_24 cl_1_202 (by decide) rfl (Nat.le_of_ble_eq_true rfl) sk_101 (ok31 _ _ e12) (sk3 := [.int r11.2]) rfl rfl ?_
          exact cx_reti k24_122 rt_24 h
        · rw [if_neg hb13] at h
          by_cases hb14 : r1.2 = (7 : Int32)
          · rw [if_pos hb14] at h
            refine sx_tableIn (off := 155) (tgt := 164) k24_9 (by rw [hb14]; decide) (by rw [hb14]; decide) (by rw [hb14]; rfl) (by decide) ?_
            refine sx_iconst (v := 0) k24_164 (by decide) ?_
            exact cx_reti k24_165 rt_24 h
          · rw [if_neg hb14] at h
            by_cases hb18 : r1.2 = (8 : Int32)
            · rw [if_pos hb18] at h
              refine sx_tableIn (off := 114) (tgt := 123) k24_9 (by rw [hb18]; decide) (by rw [hb18]; decide) (by rw [hb18]; rfl) (by decide) ?_
              refine sx_aload_n (i := 0) k24_123 rfl rfl ?_
              refine sx_iconst (v := 0) k24_124 (by decide) ?_
              obtain ⟨r15, e16, h⟩ := Option.bind_eq_some_iff.mp h
              refine cx_V (sk := []) (vs := [.int (0 : Int32)]) st_24_20 k24_125 ow_24 cl_1_193 (by decide) rfl (Nat.le_of_ble_eq_true rfl) sk_101 (ok20 (0 : Int32) _ _ e16) (sk3 := [.int r15.2]) rfl rfl ?_
              refine sx_iconst (v := 3) k24_128 (by decide) ?_
              by_cases hb17 : r15.2 ≤ (3 : Int32)
              · rw [if_pos hb17] at h
                refine sx_icmp_le (tgt := 137) k24_129 (by decide) (fun _ => ?_) (fun q => absurd hb17 q)
                refine sx_iconst (v := 0) k24_137 (by decide) ?_
                exact cx_reti k24_138 rt_24 h
              · rw [if_neg hb17] at h
                refine sx_icmp_le (tgt := 137) k24_129 (by decide) (fun q => absurd q hb17) (fun _ => ?_)
                refine sx_bipush (v := 15) k24_132 (by decide) ?_
                refine sx_goto (tgt := 138) k24_134 (by decide) ?_
                exact cx_reti k24_138 rt_24 h
            · rw [if_neg hb18] at h
              by_cases hb19 : r1.2 = (9 : Int32)
              · rw [if_pos hb19] at h
                refine sx_tableIn (off := 155) (tgt := 164) k24_9 (by rw [hb19]; decide) (by rw [hb19]; decide) (by rw [hb19]; rfl) (by decide) ?_
                refine sx_iconst (v := 0) k24_164 (by decide) ?_
                exact cx_reti k24_165 rt_24 h
              · rw [if_neg hb19] at h
                by_cases hb20 : r1.2 = (10 : Int32)
                · rw [if_pos hb20] at h
                  refine sx_tableIn (off := 155) (tgt := 164) k24_9 (by rw [hb20]; decide) (by rw [hb20]; decide) (by rw [hb20]; rfl) (by decide) ?_
                  refine sx_iconst (v := 0) k24_164 (by decide) ?_
                  exact cx_reti k24_165 rt_24 h
                · rw [if_neg hb20] at h
                  by_cases hb23 : r1.2 = (11 : Int32)
                  · rw [if_pos hb23] at h
                    refine sx_tableIn (off := 130) (tgt := 139) k24_9 (by rw [hb23]; decide) (by rw [hb23]; decide) (by rw [hb23]; rfl) (by decide) ?_
                    refine sx_aload_n (i := 0) k24_139 rfl rfl ?_
                    obtain ⟨r21, e22, h⟩ := Option.bind_eq_some_iff.mp h
                    refine cx_V (sk := []) (vs := []) st_24_52 k24_140 ow_24 cl_1_205 (by decide) rfl (Nat.le_of_ble_eq_true rfl) sk_101 (ok52 _ _ e22) (sk3 := [.int r21.2]) rfl rfl ?_
                    exact cx_reti k24_143 rt_24 h
                  · rw [if_neg hb23] at h
                    by_cases hb26 : r1.2 = (12 : Int32)
                    · rw [if_pos hb26] at h
                      refine sx_tableIn (off := 135) (tgt := 144) k24_9 (by rw [hb26]; decide) (by rw [hb26]; decide) (by rw [hb26]; rfl) (by decide) ?_
                      refine sx_aload_n (i := 0) k24_144 rfl rfl ?_
                      obtain ⟨r24, e25, h⟩ := Option.bind_eq_some_iff.mp h
                      refine cx_V (sk := []) (vs := []) st_24_43 k24_145 ow_24 cl_1_208 (by decide) rfl (Nat.le_of_ble_eq_true rfl) sk_101 (ok43 _ _ e25) (sk3 := [.int r24.2]) rfl rfl ?_
                      exact cx_reti k24_148 rt_24 h
                    · rw [if_neg hb26] at h
                      by_cases hb27 : r1.2 = (13 : Int32)
                      · rw [if_pos hb27] at h
                        refine sx_tableIn (off := 155) (tgt := 164) k24_9 (by rw [hb27]; decide) (by rw [hb27]; decide) (by rw [hb27]; rfl) (by decide) ?_
                        refine sx_iconst (v := 0) k24_164 (by decide) ?_
                        exact cx_reti k24_165 rt_24 h
                      · rw [if_neg hb27] at h
                        by_cases hb28 : r1.2 = (14 : Int32)
                        · rw [if_pos hb28] at h
                          refine sx_tableIn (off := 155) (tgt := 164) k24_9 (by rw [hb28]; decide) (by rw [hb28]; decide) (by rw [hb28]; rfl) (by decide) ?_
                          refine sx_iconst (v := 0) k24_164 (by decide) ?_
                          exact cx_reti k24_165 rt_24 h
                        · rw [if_neg hb28] at h
                          by_cases hb31 : r1.2 = (15 : Int32)
                          · rw [if_pos hb31] at h
                            refine sx_tableIn (off := 140) (tgt := 149) k24_9 (by rw [hb31]; decide) (by rw [hb31]; decide) (by rw [hb31]; rfl) (by decide) ?_
                            refine sx_aload_n (i := 0) k24_149 rfl rfl ?_
                            obtain ⟨r29, e30, h⟩ := Option.bind_eq_some_iff.mp h
                            refine cx_V (sk := []) (vs := []) st_24_61 k24_150 ow_24 cl_1_211 (by decide) rfl (Nat.le_of_ble_eq_true rfl) sk_101 (ok61 _ _ e30) (sk3 := [.int r29.2]) rfl rfl ?_
                            exact cx_reti k24_153 rt_24 h
                          · rw [if_neg hb31] at h
                            by_cases hb32 : r1.2 = (16 : Int32)
                            · rw [if_pos hb32] at h
                              refine sx_tableIn (off := 155) (tgt := 164) k24_9 (by rw [hb32]; decide) (by rw [hb32]; decide) (by rw [hb32]; rfl) (by decide) ?_
                              refine sx_iconst (v := 0) k24_164 (by decide) ?_
                              exact cx_reti k24_165 rt_24 h
                            · rw [if_neg hb32] at h
                              by_cases hb33 : r1.2 = (17 : Int32)
                              · rw [if_pos hb33] at h
                                refine sx_tableIn (off := 155) (tgt := 164) k24_9 (by rw [hb33]; decide) (by rw [hb33]; decide) (by rw [hb33]; rfl) (by decide) ?_
                                refine sx_iconst (v := 0) k24_164 (by decide) ?_
                                exact cx_reti k24_165 rt_24 h
                              · rw [if_neg hb33] at h
                                by_cases hb34 : r1.2 = (18 : Int32)
                                · rw [if_pos hb34] at h
                                  refine sx_tableIn (off := 155) (tgt := 164) k24_9 (by rw [hb34]; decide) (by rw [hb34]; decide) (by rw [hb34]; rfl) (by decide) ?_
                                  refine sx_iconst (v := 0) k24_164 (by decide) ?_
                                  exact cx_reti k24_165 rt_24 h
                                · rw [if_neg hb34] at h
                                  by_cases hb37 : r1.2 = (19 : Int32)
                                  · rw [if_pos hb37] at h
                                    refine sx_tableIn (off := 145) (tgt := 154) k24_9 (by rw [hb37]; decide) (by rw [hb37]; decide) (by rw [hb37]; rfl) (by decide) ?_
                                    refine sx_aload_n (i := 0) k24_154 rfl rfl ?_
                                    obtain ⟨r35, e36, h⟩ := Option.bind_eq_some_iff.mp h
                                    refine cx_V (sk := []) (vs := []) st_24_41 k24_155 ow_24 cl_1_214 (by decide) rfl (Nat.le_of_ble_eq_true rfl) sk_101 (ok41 _ _ e36) (sk3 := [.int r35.2]) rfl rfl ?_
                                    exact cx_reti k24_158 rt_24 h
                                  · rw [if_neg hb37] at h
                                    by_cases hb40 : r1.2 = (20 : Int32)
                                    · rw [if_pos hb40] at h
                                      refine sx_tableIn (off := 150) (tgt := 159) k24_9 (by rw [hb40]; decide) (by rw [hb40]; decide) (by rw [hb40]; rfl) (by decide) ?_
                                      refine sx_aload_n (i := 0) k24_159 rfl rfl ?_
                                      obtain ⟨r38, e39, h⟩ := Option.bind_eq_some_iff.mp h
                                      refine cx_V (sk := []) (vs := []) st_24_26 k24_160 ow_24 cl_1_217 (by decide) rfl (Nat.le_of_ble_eq_true rfl) sk_101 (ok26 _ _ e39) (sk3 := [.int r38.2]) rfl rfl ?_
                                      exact cx_reti k24_163 rt_24 h
                                    · rw [if_neg hb40] at h
                                      refine sx_tableOut (tgt := 164) k24_9 (sw_out (n := 18) (fun j hj => ?_)) (by decide) ?_
                                      · intro hj2
                                        exact sw_no [(3 : Int32), (4 : Int32), (5 : Int32), (6 : Int32), (7 : Int32), (8 : Int32), (9 : Int32), (10 : Int32), (11 : Int32), (12 : Int32), (13 : Int32), (14 : Int32), (15 : Int32), (16 : Int32), (17 : Int32), (18 : Int32), (19 : Int32), (20 : Int32)] (by decide) hj hj2 ⟨hb5, hb6, hb10, hb13, hb14, hb18, hb19, hb20, hb23, hb26, hb27, hb28, hb31, hb32, hb33, hb34, hb37, hb40, trivial⟩
                                      ·
                                        refine sx_iconst (v := 0) k24_164 (by decide) ?_
                                        exact cx_reti k24_165 rt_24 h
theorem k18_0 : decode (gb 18) 0 = .ok (.aload_n 0, 1) := by decide +kernel
theorem k18_1 : decode (gb 18) 1 = .ok (.aload_n 0, 1) := by decide +kernel
theorem k18_2 : decode (gb 18) 2 = .ok (.getfield 35, 3) := by decide +kernel
theorem k18_5 : decode (gb 18) 5 = .ok (.iload_n 1, 1) := by decide +kernel
theorem k18_6 : decode (gb 18) 6 = .ok (.iload_n 2, 1) := by decide +kernel
theorem k18_7 : decode (gb 18) 7 = .ok (.invokevirtual 101, 3) := by decide +kernel
theorem k18_10 : decode (gb 18) 10 = .ok (.aload_n 0, 1) := by decide +kernel
theorem k18_11 : decode (gb 18) 11 = .ok (.getfield 38, 3) := by decide +kernel
theorem k18_14 : decode (gb 18) 14 = .ok (.bipush 19, 2) := by decide +kernel
theorem k18_16 : decode (gb 18) 16 = .ok (.dup2, 1) := by decide +kernel
theorem k18_17 : decode (gb 18) 17 = .ok (.iaload, 1) := by decide +kernel
theorem k18_18 : decode (gb 18) 18 = .ok (.iconst 1, 1) := by decide +kernel
theorem k18_19 : decode (gb 18) 19 = .ok (.iadd, 1) := by decide +kernel
theorem k18_20 : decode (gb 18) 20 = .ok (.iastore, 1) := by decide +kernel
theorem k18_21 : decode (gb 18) 21 = .ok (.return_, 1) := by decide +kernel
/-- Board.fail(II)V -/
def f18 (p1 : Int32) (p2 : Int32) (μ : Mem) : Option (Mem) :=
  (f11 122 p1 p2 μ).bind fun r1 =>
  (ldA 124 (19 : Int32) r1).bind fun x3 =>
  (stA 124 (19 : Int32) (x3 + (1 : Int32)) r1).bind fun m5 =>
  some m5
theorem ok18 {L : Nat} (p1 : Int32) (p2 : Int32) (μ : Mem) (res : Mem) (h : f18 p1 p2 μ = some res) : Mx 18 [.ref 101, .int p1, .int p2] (mk L μ) (mk L res, none) := by
  refine Mx_of ml_18 (by rw [mx_18]; exact Nat.le_of_ble_eq_true rfl) ?_
  show Sx 18 0 [(0, .ref 101), (1, .int p1), (2, .int p2)] [] 0 0 (mk L μ) _
  unfold f18 at h
  refine sx_aload_n (i := 0) k18_0 rfl rfl ?_
  refine sx_aload_n (i := 0) k18_1 rfl rfl ?_
  refine cx_getR (k := 6) k18_2 ow_18 fl_1_35 (by decide) sk_101 ft_0_6 sr_101_6 ?_
  refine sx_iload_n (i := 1) k18_5 rfl rfl ?_
  refine sx_iload_n (i := 2) k18_6 rfl rfl ?_
  obtain ⟨r1, e2, h⟩ := Option.bind_eq_some_iff.mp h
  refine cx_V (sk := []) (vs := [.ref 122, .int p1, .int p2]) st_18_11 k18_7 ow_18 cl_1_101 (by decide) rfl (Nat.le_of_ble_eq_true rfl) sk_101 (ok11 122 p1 p2 sk_122 _ _ e2) (sk3 := []) rfl rfl ?_
  refine sx_aload_n (i := 0) k18_10 rfl rfl ?_
  refine cx_getR (k := 7) k18_11 ow_18 fl_1_38 (by decide) sk_101 ft_0_7 sr_101_7 ?_
  refine sx_bipush (v := 19) k18_14 (by decide) ?_
  refine sx_dup2 k18_16 rfl rfl ?_
  obtain ⟨x3, e4, h⟩ := Option.bind_eq_some_iff.mp h
  refine cx_iald k18_17 sk_124 e4 ?_
  refine sx_iconst (v := 1) k18_18 (by decide) ?_
  refine sx_iadd k18_19 ?_
  obtain ⟨m5, e6, h⟩ := Option.bind_eq_some_iff.mp h
  refine cx_iast k18_20 sk_124 e6 ?_
  exact cx_retv k18_21 rt_18 h
theorem k36_0 : decode (gb 36) 0 = .ok (.aload_n 0, 1) := by decide +kernel
theorem k36_1 : decode (gb 36) 1 = .ok (.iconst 3, 1) := by decide +kernel
theorem k36_2 : decode (gb 36) 2 = .ok (.invokevirtual 193, 3) := by decide +kernel
theorem k36_5 : decode (gb 36) 5 = .ok (.bipush 8, 2) := by decide +kernel
theorem k36_7 : decode (gb 36) 7 = .ok (.invokestatic 147, 3) := by decide +kernel
theorem k36_10 : decode (gb 36) 10 = .ok (.istore_n 2, 1) := by decide +kernel
theorem k36_11 : decode (gb 36) 11 = .ok (.iload_n 1, 1) := by decide +kernel
theorem k36_12 : decode (gb 36) 12 = .ok (.ifCond .lt 15, 3) := by decide +kernel
theorem k36_15 : decode (gb 36) 15 = .ok (.iload_n 1, 1) := by decide +kernel
theorem k36_16 : decode (gb 36) 16 = .ok (.bipush 13, 2) := by decide +kernel
theorem k36_18 : decode (gb 36) 18 = .ok (.iadd, 1) := by decide +kernel
theorem k36_19 : decode (gb 36) 19 = .ok (.aload_n 0, 1) := by decide +kernel
theorem k36_20 : decode (gb 36) 20 = .ok (.getfield 42, 3) := by decide +kernel
theorem k36_23 : decode (gb 36) 23 = .ok (.arraylength, 1) := by decide +kernel
theorem k36_24 : decode (gb 36) 24 = .ok (.if_icmp .le 4, 3) := by decide +kernel
theorem k36_27 : decode (gb 36) 27 = .ok (.return_, 1) := by decide +kernel
theorem k36_28 : decode (gb 36) 28 = .ok (.aload_n 0, 1) := by decide +kernel
theorem k36_29 : decode (gb 36) 29 = .ok (.getfield 42, 3) := by decide +kernel
theorem k36_32 : decode (gb 36) 32 = .ok (.iload_n 1, 1) := by decide +kernel
theorem k36_33 : decode (gb 36) 33 = .ok (.iconst 0, 1) := by decide +kernel
theorem k36_34 : decode (gb 36) 34 = .ok (.iadd, 1) := by decide +kernel
theorem k36_35 : decode (gb 36) 35 = .ok (.iconst 1, 1) := by decide +kernel
theorem k36_36 : decode (gb 36) 36 = .ok (.iastore, 1) := by decide +kernel
theorem k36_37 : decode (gb 36) 37 = .ok (.aload_n 0, 1) := by decide +kernel
theorem k36_38 : decode (gb 36) 38 = .ok (.getfield 42, 3) := by decide +kernel
theorem k36_41 : decode (gb 36) 41 = .ok (.iload_n 1, 1) := by decide +kernel
theorem k36_42 : decode (gb 36) 42 = .ok (.iconst 1, 1) := by decide +kernel
theorem k36_43 : decode (gb 36) 43 = .ok (.iadd, 1) := by decide +kernel
theorem k36_44 : decode (gb 36) 44 = .ok (.iconst 0, 1) := by decide +kernel
theorem k36_45 : decode (gb 36) 45 = .ok (.iastore, 1) := by decide +kernel
theorem k36_46 : decode (gb 36) 46 = .ok (.aload_n 0, 1) := by decide +kernel
theorem k36_47 : decode (gb 36) 47 = .ok (.getfield 42, 3) := by decide +kernel
theorem k36_50 : decode (gb 36) 50 = .ok (.iload_n 1, 1) := by decide +kernel
theorem k36_51 : decode (gb 36) 51 = .ok (.iconst 2, 1) := by decide +kernel
theorem k36_52 : decode (gb 36) 52 = .ok (.iadd, 1) := by decide +kernel
theorem k36_53 : decode (gb 36) 53 = .ok (.aload_n 0, 1) := by decide +kernel
theorem k36_54 : decode (gb 36) 54 = .ok (.iconst 1, 1) := by decide +kernel
theorem k36_55 : decode (gb 36) 55 = .ok (.invokevirtual 262, 3) := by decide +kernel
theorem k36_58 : decode (gb 36) 58 = .ok (.iastore, 1) := by decide +kernel
theorem k36_59 : decode (gb 36) 59 = .ok (.aload_n 0, 1) := by decide +kernel
theorem k36_60 : decode (gb 36) 60 = .ok (.getfield 42, 3) := by decide +kernel
theorem k36_63 : decode (gb 36) 63 = .ok (.iload_n 1, 1) := by decide +kernel
theorem k36_64 : decode (gb 36) 64 = .ok (.iconst 3, 1) := by decide +kernel
theorem k36_65 : decode (gb 36) 65 = .ok (.iadd, 1) := by decide +kernel
theorem k36_66 : decode (gb 36) 66 = .ok (.iconst 0, 1) := by decide +kernel
theorem k36_67 : decode (gb 36) 67 = .ok (.iastore, 1) := by decide +kernel
theorem k36_68 : decode (gb 36) 68 = .ok (.aload_n 0, 1) := by decide +kernel
theorem k36_69 : decode (gb 36) 69 = .ok (.getfield 42, 3) := by decide +kernel
theorem k36_72 : decode (gb 36) 72 = .ok (.iload_n 1, 1) := by decide +kernel
theorem k36_73 : decode (gb 36) 73 = .ok (.iconst 4, 1) := by decide +kernel
theorem k36_74 : decode (gb 36) 74 = .ok (.iadd, 1) := by decide +kernel
theorem k36_75 : decode (gb 36) 75 = .ok (.iload_n 2, 1) := by decide +kernel
theorem k36_76 : decode (gb 36) 76 = .ok (.iastore, 1) := by decide +kernel
theorem k36_77 : decode (gb 36) 77 = .ok (.iconst 0, 1) := by decide +kernel
theorem k36_78 : decode (gb 36) 78 = .ok (.istore_n 3, 1) := by decide +kernel
theorem k36_79 : decode (gb 36) 79 = .ok (.iload_n 3, 1) := by decide +kernel
theorem k36_80 : decode (gb 36) 80 = .ok (.iload_n 2, 1) := by decide +kernel
theorem k36_81 : decode (gb 36) 81 = .ok (.if_icmp .ge 26, 3) := by decide +kernel
theorem k36_84 : decode (gb 36) 84 = .ok (.aload_n 0, 1) := by decide +kernel
theorem k36_85 : decode (gb 36) 85 = .ok (.getfield 42, 3) := by decide +kernel
theorem k36_88 : decode (gb 36) 88 = .ok (.iload_n 1, 1) := by decide +kernel
theorem k36_89 : decode (gb 36) 89 = .ok (.iconst 5, 1) := by decide +kernel
theorem k36_90 : decode (gb 36) 90 = .ok (.iadd, 1) := by decide +kernel
theorem k36_91 : decode (gb 36) 91 = .ok (.iload_n 3, 1) := by decide +kernel
theorem k36_92 : decode (gb 36) 92 = .ok (.iadd, 1) := by decide +kernel
theorem k36_93 : decode (gb 36) 93 = .ok (.aload_n 0, 1) := by decide +kernel
theorem k36_94 : decode (gb 36) 94 = .ok (.iconst 4, 1) := by decide +kernel
theorem k36_95 : decode (gb 36) 95 = .ok (.iload_n 3, 1) := by decide +kernel
theorem k36_96 : decode (gb 36) 96 = .ok (.iadd, 1) := by decide +kernel
theorem k36_97 : decode (gb 36) 97 = .ok (.invokevirtual 193, 3) := by decide +kernel
theorem k36_100 : decode (gb 36) 100 = .ok (.iastore, 1) := by decide +kernel
theorem k36_101 : decode (gb 36) 101 = .ok (.iinc 3 1, 3) := by decide +kernel
theorem k36_104 : decode (gb 36) 104 = .ok (.goto (-25), 3) := by decide +kernel
theorem k36_107 : decode (gb 36) 107 = .ok (.return_, 1) := by decide +kernel
def b36_79 (kl79 : Int32 → Int32 → Int32 → Mem → Option (Mem)) (v1 : Int32) (v2 : Int32) (v3 : Int32) (μ : Mem) : Option (Mem) :=
  if v2 ≤ v3 then
    some μ
  else
    (f20 ((4 : Int32) + v3) μ).bind fun r2 =>
    (stA 125 ((v1 + (5 : Int32)) + v3) r2.2 r2.1).bind fun m4 =>
    nm (v3 + (1 : Int32)) fun x6 =>
    kl79 v1 v2 x6 m4
theorem b36_79_ok {L : Nat} (kl79 : Int32 → Int32 → Int32 → Mem → Option (Mem)) (hk79 : (∀ (v1 : Int32) (v2 : Int32) (v3 : Int32) (μ : Mem) (res : Mem), kl79 v1 v2 v3 μ = some res → Sx 36 79 [(0, .ref 101), (1, .int v1), (2, .int v2), (3, .int v3)] [] 0 0 (mk L μ) (mk L res, none))) (v1 : Int32) (v2 : Int32) (v3 : Int32) (μ : Mem) (res : Mem) (h : b36_79 kl79 v1 v2 v3 μ = some res) : Sx 36 79 [(0, .ref 101), (1, .int v1), (2, .int v2), (3, .int v3)] [] 0 0 (mk L μ) (mk L res, none) := by
  unfold b36_79 at h
  refine sx_iload_n (i := 3) k36_79 rfl rfl ?_
  refine sx_iload_n (i := 2) k36_80 rfl rfl ?_
  by_cases hb1 : v2 ≤ v3
  · rw [if_pos hb1] at h
    refine sx_icmp_ge (tgt := 107) k36_81 (by decide) (fun _ => ?_) (fun q => absurd hb1 q)
    exact cx_retv k36_107 rt_36 h
  · rw [if_neg hb1] at h
    refine sx_icmp_ge (tgt := 107) k36_81 (by decide) (fun q => absurd q hb1) (fun _ => ?_)
    refine sx_aload_n (i := 0) k36_84 rfl rfl ?_
    refine cx_getR (k := 8) k36_85 ow_36 fl_1_42 (by decide) sk_101 ft_0_8 sr_101_8 ?_
    refine sx_iload_n (i := 1) k36_88 rfl rfl ?_
    refine sx_iconst (v := 5) k36_89 (by decide) ?_
    refine sx_iadd k36_90 ?_
    refine sx_iload_n (i := 3) k36_91 rfl rfl ?_
    refine sx_iadd k36_92 ?_
    refine sx_aload_n (i := 0) k36_93 rfl rfl ?_
    refine sx_iconst (v := 4) k36_94 (by decide) ?_
    refine sx_iload_n (i := 3) k36_95 rfl rfl ?_
    refine sx_iadd k36_96 ?_
    obtain ⟨r2, e3, h⟩ := Option.bind_eq_some_iff.mp h
    refine cx_V (sk := [.int ((v1 + (5 : Int32)) + v3), .ref 125]) (vs := [.int ((4 : Int32) + v3)]) st_36_20 k36_97 ow_36 cl_1_193 (by decide) rfl (Nat.le_of_ble_eq_true rfl) sk_101 (ok20 ((4 : Int32) + v3) _ _ e3) (sk3 := [.int r2.2, .int ((v1 + (5 : Int32)) + v3), .ref 125]) rfl rfl ?_
    obtain ⟨m4, e5, h⟩ := Option.bind_eq_some_iff.mp h
    refine cx_iast k36_100 sk_125 e5 ?_
    refine cx_iinc (c := 1) (lo2 := fun x6 => [(3, .int x6), (0, .ref 101), (1, .int v1), (2, .int v2)]) k36_101 rfl (by decide) (by rw [mx_36]; decide) (fun _ => rfl) h (fun x6 h => ?_)
    refine sx_goto (tgt := 79) k36_104 (by decide) ?_
    refine sx_pick (lo2 := [(0, .ref 101), (1, .int v1), (2, .int v2), (3, .int x6)]) [1, 2, 3, 0] rfl ?_
    exact hk79 v1 v2 x6 _ _ h
def l36_79 : Nat → Int32 × Int32 × Int32 × Mem → Option (Mem) :=
  fixN (fun self x => b36_79 (fun v1 v2 v3 μ => self (v1, v2, v3, μ)) (x.1) (x.2.1) (x.2.2.1) (x.2.2.2))
theorem l36_79_ok {L : Nat} (n : Nat) (v1 : Int32) (v2 : Int32) (v3 : Int32) (μ : Mem) (res : Mem) (h : l36_79 n (v1, v2, v3, μ) = some res) : Sx 36 79 [(0, .ref 101), (1, .int v1), (2, .int v2), (3, .int v3)] [] 0 0 (mk L μ) (mk L res, none) := by
  have key := fixN_ind (P := fun x res => Sx 36 79 [(0, .ref 101), (1, .int (x.1)), (2, .int (x.2.1)), (3, .int (x.2.2.1))] [] 0 0 (mk L (x.2.2.2)) (mk L res, none)) (F := fun self x => b36_79 (fun v1 v2 v3 μ => self (v1, v2, v3, μ)) (x.1) (x.2.1) (x.2.2.1) (x.2.2.2)) (fun self hself x res h => b36_79_ok (fun v1 v2 v3 μ => self (v1, v2, v3, μ)) (fun v1 v2 v3 μ res hh => hself (v1, v2, v3, μ) res hh) (x.1) (x.2.1) (x.2.2.1) (x.2.2.2) res h) n (v1, v2, v3, μ) res h
  exact key
/-- Board.defineStructure(I)V -/
def f36 (p1 : Int32) (μ : Mem) : Option (Mem) :=
  (f20 (3 : Int32) μ).bind fun r1 =>
  nm (jmin r1.2 (8 : Int32)) fun x3 =>
  if p1 < 0 then
    some r1.1
  else
    if (p1 + (13 : Int32)) ≤ (nI (gln 125)) then
      (stA 125 (p1 + (0 : Int32)) (1 : Int32) r1.1).bind fun m6 =>
      (stA 125 (p1 + (1 : Int32)) (0 : Int32) m6).bind fun m8 =>
      (f21 (1 : Int32) m8).bind fun r10 =>
      (stA 125 (p1 + (2 : Int32)) r10.2 r10.1).bind fun m12 =>
      (stA 125 (p1 + (3 : Int32)) (0 : Int32) m12).bind fun m14 =>
      (stA 125 (p1 + (4 : Int32)) x3 m14).bind fun m16 =>
      l36_79 gF (p1, x3, (0 : Int32), m16)
    else
      some r1.1
theorem ok36 {L : Nat} (p1 : Int32) (μ : Mem) (res : Mem) (h : f36 p1 μ = some res) : Mx 36 [.ref 101, .int p1] (mk L μ) (mk L res, none) := by
  refine Mx_of ml_36 (by rw [mx_36]; exact Nat.le_of_ble_eq_true rfl) ?_
  show Sx 36 0 [(0, .ref 101), (1, .int p1)] [] 0 0 (mk L μ) _
  unfold f36 at h
  refine sx_aload_n (i := 0) k36_0 rfl rfl ?_
  refine sx_iconst (v := 3) k36_1 (by decide) ?_
  obtain ⟨r1, e2, h⟩ := Option.bind_eq_some_iff.mp h
  refine cx_V (sk := []) (vs := [.int (3 : Int32)]) st_36_20 k36_2 ow_36 cl_1_193 (by decide) rfl (Nat.le_of_ble_eq_true rfl) sk_101 (ok20 (3 : Int32) _ _ e2) (sk3 := [.int r1.2]) rfl rfl ?_
  refine sx_bipush (v := 8) k36_5 (by decide) ?_
  refine cx_min k36_7 ow_36 yl_1_147 (by decide) (by decide +kernel) (Nat.le_of_ble_eq_true rfl) ?_
  refine cx_nm h (fun x3 h => ?_)
  refine cx_istore_n (lo2 := [(2, .int x3), (0, .ref 101), (1, .int p1)]) k36_10 rfl (by rw [mx_36]; decide) rfl ?_
  refine sx_iload_n (i := 1) k36_11 rfl rfl ?_
  by_cases hb4 : p1 < 0
  · rw [if_pos hb4] at h
    refine sx_if_lt (tgt := 27) k36_12 (by decide) (fun _ => ?_) (fun q => absurd hb4 q)
    exact cx_retv k36_27 rt_36 h
  · rw [if_neg hb4] at h
    refine sx_if_lt (tgt := 27) k36_12 (by decide) (fun q => absurd q hb4) (fun _ => ?_)
    refine sx_iload_n (i := 1) k36_15 rfl rfl ?_
    refine sx_bipush (v := 13) k36_16 (by decide) ?_
    refine sx_iadd k36_18 ?_
    refine sx_aload_n (i := 0) k36_19 rfl rfl ?_
    refine cx_getR (k := 8) k36_20 ow_36 fl_1_42 (by decide) sk_101 ft_0_8 sr_101_8 ?_
    refine cx_alen (t := 0) k36_23 (by decide) sk_125 ?_
    by_cases hb5 : (p1 + (13 : Int32)) ≤ (nI (gln 125))
    · rw [if_pos hb5] at h
      refine sx_icmp_le (tgt := 28) k36_24 (by decide) (fun _ => ?_) (fun q => absurd hb5 q)
      refine sx_aload_n (i := 0) k36_28 rfl rfl ?_
      refine cx_getR (k := 8) k36_29 ow_36 fl_1_42 (by decide) sk_101 ft_0_8 sr_101_8 ?_
      refine sx_iload_n (i := 1) k36_32 rfl rfl ?_
      refine sx_iconst (v := 0) k36_33 (by decide) ?_
      refine sx_iadd k36_34 ?_
      refine sx_iconst (v := 1) k36_35 (by decide) ?_
      obtain ⟨m6, e7, h⟩ := Option.bind_eq_some_iff.mp h
      refine cx_iast k36_36 sk_125 e7 ?_
      refine sx_aload_n (i := 0) k36_37 rfl rfl ?_
      refine cx_getR (k := 8) k36_38 ow_36 fl_1_42 (by decide) sk_101 ft_0_8 sr_101_8 ?_
      refine sx_iload_n (i := 1) k36_41 rfl rfl ?_
      refine sx_iconst (v := 1) k36_42 (by decide) ?_
      refine sx_iadd k36_43 ?_
      refine sx_iconst (v := 0) k36_44 (by decide) ?_
      obtain ⟨m8, e9, h⟩ := Option.bind_eq_some_iff.mp h
      refine cx_iast k36_45 sk_125 e9 ?_
      refine sx_aload_n (i := 0) k36_46 rfl rfl ?_
      refine cx_getR (k := 8) k36_47 ow_36 fl_1_42 (by decide) sk_101 ft_0_8 sr_101_8 ?_
      refine sx_iload_n (i := 1) k36_50 rfl rfl ?_
      refine sx_iconst (v := 2) k36_51 (by decide) ?_
      refine sx_iadd k36_52 ?_
      refine sx_aload_n (i := 0) k36_53 rfl rfl ?_
      refine sx_iconst (v := 1) k36_54 (by decide) ?_
      obtain ⟨r10, e11, h⟩ := Option.bind_eq_some_iff.mp h
      refine cx_V (sk := [.int (p1 + (2 : Int32)), .ref 125]) (vs := [.int (1 : Int32)]) st_36_21 k36_55 ow_36 cl_1_262 (by decide) rfl (Nat.le_of_ble_eq_true rfl) sk_101 (ok21 (1 : Int32) _ _ e11) (sk3 := [.int r10.2, .int (p1 + (2 : Int32)), .ref 125]) rfl rfl ?_
      obtain ⟨m12, e13, h⟩ := Option.bind_eq_some_iff.mp h
      refine cx_iast k36_58 sk_125 e13 ?_
      refine sx_aload_n (i := 0) k36_59 rfl rfl ?_
      refine cx_getR (k := 8) k36_60 ow_36 fl_1_42 (by decide) sk_101 ft_0_8 sr_101_8 ?_
      refine sx_iload_n (i := 1) k36_63 rfl rfl ?_
      refine sx_iconst (v := 3) k36_64 (by decide) ?_
      refine sx_iadd k36_65 ?_
      refine sx_iconst (v := 0) k36_66 (by decide) ?_
      obtain ⟨m14, e15, h⟩ := Option.bind_eq_some_iff.mp h
      refine cx_iast k36_67 sk_125 e15 ?_
      refine sx_aload_n (i := 0) k36_68 rfl rfl ?_
      refine cx_getR (k := 8) k36_69 ow_36 fl_1_42 (by decide) sk_101 ft_0_8 sr_101_8 ?_
      refine sx_iload_n (i := 1) k36_72 rfl rfl ?_
      refine sx_iconst (v := 4) k36_73 (by decide) ?_
      refine sx_iadd k36_74 ?_
      refine sx_iload_n (i := 2) k36_75 rfl rfl ?_
      obtain ⟨m16, e17, h⟩ := Option.bind_eq_some_iff.mp h
      refine cx_iast k36_76 sk_125 e17 ?_
      refine sx_iconst (v := 0) k36_77 (by decide) ?_
      refine cx_istore_n (lo2 := [(3, .int (0 : Int32)), (2, .int x3), (0, .ref 101), (1, .int p1)]) k36_78 rfl (by rw [mx_36]; decide) rfl ?_
      refine sx_pick (lo2 := [(0, .ref 101), (1, .int p1), (2, .int x3), (3, .int (0 : Int32))]) [2, 3, 1, 0] rfl ?_
      exact l36_79_ok gF p1 x3 (0 : Int32) _ _ h
    · rw [if_neg hb5] at h
      refine sx_icmp_le (tgt := 28) k36_24 (by decide) (fun q => absurd q hb5) (fun _ => ?_)
      exact cx_retv k36_27 rt_36 h
theorem k29_0 : decode (gb 29) 0 = .ok (.aload_n 0, 1) := by decide +kernel
theorem k29_1 : decode (gb 29) 1 = .ok (.getfield 51, 3) := by decide +kernel
theorem k29_4 : decode (gb 29) 4 = .ok (.getfield 119, 3) := by decide +kernel
theorem k29_7 : decode (gb 29) 7 = .ok (.iload_n 1, 1) := by decide +kernel
theorem k29_8 : decode (gb 29) 8 = .ok (.invokevirtual 122, 3) := by decide +kernel
theorem k29_11 : decode (gb 29) 11 = .ok (.aload_n 0, 1) := by decide +kernel
theorem k29_12 : decode (gb 29) 12 = .ok (.getfield 51, 3) := by decide +kernel
theorem k29_15 : decode (gb 29) 15 = .ok (.getfield 119, 3) := by decide +kernel
theorem k29_18 : decode (gb 29) 18 = .ok (.aload_n 0, 1) := by decide +kernel
theorem k29_19 : decode (gb 29) 19 = .ok (.iload_n 1, 1) := by decide +kernel
theorem k29_20 : decode (gb 29) 20 = .ok (.invokevirtual 256, 3) := by decide +kernel
theorem k29_23 : decode (gb 29) 23 = .ok (.invokevirtual 259, 3) := by decide +kernel
theorem k29_26 : decode (gb 29) 26 = .ok (.return_, 1) := by decide +kernel
/-- Board.putValue(I)V -/
def f29 (p1 : Int32) (μ : Mem) : Option (Mem) :=
  (f65 87 p1 μ).bind fun r1 =>
  (f6 p1 r1).bind fun r3 =>
  (f67 87 r3.2 r3.1).bind fun r5 =>
  some r5
theorem ok29 {L : Nat} (p1 : Int32) (μ : Mem) (res : Mem) (h : f29 p1 μ = some res) : Mx 29 [.ref 101, .int p1] (mk L μ) (mk L res, none) := by
  refine Mx_of ml_29 (by rw [mx_29]; exact Nat.le_of_ble_eq_true rfl) ?_
  show Sx 29 0 [(0, .ref 101), (1, .int p1)] [] 0 0 (mk L μ) _
  unfold f29 at h
  refine sx_aload_n (i := 0) k29_0 rfl rfl ?_
  refine cx_getR (k := 0) k29_1 ow_29 fl_1_51 (by decide) sk_101 ft_0_0 sr_101_0 ?_
  refine cx_getR (k := 5) k29_4 ow_29 fl_1_119 (by decide) sk_57 ft_5_5 sr_57_5 ?_
  refine sx_iload_n (i := 1) k29_7 rfl rfl ?_
  obtain ⟨r1, e2, h⟩ := Option.bind_eq_some_iff.mp h
  refine cx_V (sk := []) (vs := [.int p1]) st_29_65 k29_8 ow_29 cl_1_122 (by decide) rfl (Nat.le_of_ble_eq_true rfl) sk_87 (ok65 87 p1 sk_87 _ _ e2) (sk3 := []) rfl rfl ?_
  refine sx_aload_n (i := 0) k29_11 rfl rfl ?_
  refine cx_getR (k := 0) k29_12 ow_29 fl_1_51 (by decide) sk_101 ft_0_0 sr_101_0 ?_
  refine cx_getR (k := 5) k29_15 ow_29 fl_1_119 (by decide) sk_57 ft_5_5 sr_57_5 ?_
  refine sx_aload_n (i := 0) k29_18 rfl rfl ?_
  refine sx_iload_n (i := 1) k29_19 rfl rfl ?_
  obtain ⟨r3, e4, h⟩ := Option.bind_eq_some_iff.mp h
  refine cx_V (sk := [.ref 87]) (vs := [.int p1]) st_29_6 k29_20 ow_29 cl_1_256 (by decide) rfl (Nat.le_of_ble_eq_true rfl) sk_101 (ok6 p1 _ _ e4) (sk3 := [.int r3.2, .ref 87]) rfl rfl ?_
  obtain ⟨r5, e6, h⟩ := Option.bind_eq_some_iff.mp h
  refine cx_V (sk := []) (vs := [.int r3.2]) st_29_67 k29_23 ow_29 cl_1_259 (by decide) rfl (Nat.le_of_ble_eq_true rfl) sk_87 (ok67 87 r3.2 sk_87 _ _ e6) (sk3 := []) rfl rfl ?_
  exact cx_retv k29_26 rt_29 h
theorem k37_0 : decode (gb 37) 0 = .ok (.iload_n 1, 1) := by decide +kernel
theorem k37_1 : decode (gb 37) 1 = .ok (.bipush 13, 2) := by decide +kernel
theorem k37_3 : decode (gb 37) 3 = .ok (.imul, 1) := by decide +kernel
theorem k37_4 : decode (gb 37) 4 = .ok (.istore_n 2, 1) := by decide +kernel
theorem k37_5 : decode (gb 37) 5 = .ok (.iload_n 1, 1) := by decide +kernel
theorem k37_6 : decode (gb 37) 6 = .ok (.ifCond .lt 9, 3) := by decide +kernel
theorem k37_9 : decode (gb 37) 9 = .ok (.iload_n 1, 1) := by decide +kernel
theorem k37_10 : decode (gb 37) 10 = .ok (.bipush 6, 2) := by decide +kernel
theorem k37_12 : decode (gb 37) 12 = .ok (.if_icmp .lt 4, 3) := by decide +kernel
theorem k37_15 : decode (gb 37) 15 = .ok (.return_, 1) := by decide +kernel
theorem k37_16 : decode (gb 37) 16 = .ok (.aload_n 0, 1) := by decide +kernel
theorem k37_17 : decode (gb 37) 17 = .ok (.getfield 51, 3) := by decide +kernel
theorem k37_20 : decode (gb 37) 20 = .ok (.iconst 3, 1) := by decide +kernel
theorem k37_21 : decode (gb 37) 21 = .ok (.bipush 25, 2) := by decide +kernel
theorem k37_23 : decode (gb 37) 23 = .ok (.invokevirtual 116, 3) := by decide +kernel
theorem k37_26 : decode (gb 37) 26 = .ok (.aload_n 0, 1) := by decide +kernel
theorem k37_27 : decode (gb 37) 27 = .ok (.getfield 51, 3) := by decide +kernel
theorem k37_30 : decode (gb 37) 30 = .ok (.getfield 119, 3) := by decide +kernel
theorem k37_33 : decode (gb 37) 33 = .ok (.iload_n 1, 1) := by decide +kernel
theorem k37_34 : decode (gb 37) 34 = .ok (.invokevirtual 122, 3) := by decide +kernel
theorem k37_37 : decode (gb 37) 37 = .ok (.aload_n 0, 1) := by decide +kernel
theorem k37_38 : decode (gb 37) 38 = .ok (.getfield 42, 3) := by decide +kernel
theorem k37_41 : decode (gb 37) 41 = .ok (.iload_n 2, 1) := by decide +kernel
theorem k37_42 : decode (gb 37) 42 = .ok (.iconst 4, 1) := by decide +kernel
theorem k37_43 : decode (gb 37) 43 = .ok (.iadd, 1) := by decide +kernel
theorem k37_44 : decode (gb 37) 44 = .ok (.iaload, 1) := by decide +kernel
theorem k37_45 : decode (gb 37) 45 = .ok (.bipush 8, 2) := by decide +kernel
theorem k37_47 : decode (gb 37) 47 = .ok (.invokestatic 147, 3) := by decide +kernel
theorem k37_50 : decode (gb 37) 50 = .ok (.istore_n 3, 1) := by decide +kernel
theorem k37_51 : decode (gb 37) 51 = .ok (.aload_n 0, 1) := by decide +kernel
theorem k37_52 : decode (gb 37) 52 = .ok (.getfield 51, 3) := by decide +kernel
theorem k37_55 : decode (gb 37) 55 = .ok (.getfield 119, 3) := by decide +kernel
theorem k37_58 : decode (gb 37) 58 = .ok (.iload_n 3, 1) := by decide +kernel
theorem k37_59 : decode (gb 37) 59 = .ok (.invokevirtual 122, 3) := by decide +kernel
theorem k37_62 : decode (gb 37) 62 = .ok (.iconst 0, 1) := by decide +kernel
theorem k37_63 : decode (gb 37) 63 = .ok (.istore 4, 2) := by decide +kernel
theorem k37_65 : decode (gb 37) 65 = .ok (.iload 4, 2) := by decide +kernel
theorem k37_67 : decode (gb 37) 67 = .ok (.iload_n 3, 1) := by decide +kernel
theorem k37_68 : decode (gb 37) 68 = .ok (.if_icmp .ge 24, 3) := by decide +kernel
theorem k37_71 : decode (gb 37) 71 = .ok (.aload_n 0, 1) := by decide +kernel
theorem k37_72 : decode (gb 37) 72 = .ok (.aload_n 0, 1) := by decide +kernel
theorem k37_73 : decode (gb 37) 73 = .ok (.getfield 42, 3) := by decide +kernel
theorem k37_76 : decode (gb 37) 76 = .ok (.iload_n 2, 1) := by decide +kernel
theorem k37_77 : decode (gb 37) 77 = .ok (.iconst 5, 1) := by decide +kernel
theorem k37_78 : decode (gb 37) 78 = .ok (.iadd, 1) := by decide +kernel
theorem k37_79 : decode (gb 37) 79 = .ok (.iload 4, 2) := by decide +kernel
theorem k37_81 : decode (gb 37) 81 = .ok (.iadd, 1) := by decide +kernel
theorem k37_82 : decode (gb 37) 82 = .ok (.iaload, 1) := by decide +kernel
theorem k37_83 : decode (gb 37) 83 = .ok (.invokevirtual 253, 3) := by decide +kernel
theorem k37_86 : decode (gb 37) 86 = .ok (.iinc 4 1, 3) := by decide +kernel
theorem k37_89 : decode (gb 37) 89 = .ok (.goto (-24), 3) := by decide +kernel
theorem k37_92 : decode (gb 37) 92 = .ok (.return_, 1) := by decide +kernel
def b37_65 (kl65 : Int32 → Int32 → Int32 → Mem → Option (Mem)) (v2 : Int32) (v3 : Int32) (v4 : Int32) (μ : Mem) : Option (Mem) :=
  if v3 ≤ v4 then
    some μ
  else
    (ldA 125 ((v2 + (5 : Int32)) + v4) μ).bind fun x2 =>
    (f29 x2 μ).bind fun r4 =>
    nm (v4 + (1 : Int32)) fun x6 =>
    kl65 v2 v3 x6 r4
theorem b37_65_ok {L : Nat} (kl65 : Int32 → Int32 → Int32 → Mem → Option (Mem)) (hk65 : (∀ (v2 : Int32) (v3 : Int32) (v4 : Int32) (μ : Mem) (res : Mem), kl65 v2 v3 v4 μ = some res → Sx 37 65 [(0, .ref 101), (2, .int v2), (3, .int v3), (4, .int v4)] [] 0 0 (mk L μ) (mk L res, none))) (v2 : Int32) (v3 : Int32) (v4 : Int32) (μ : Mem) (res : Mem) (h : b37_65 kl65 v2 v3 v4 μ = some res) : Sx 37 65 [(0, .ref 101), (2, .int v2), (3, .int v3), (4, .int v4)] [] 0 0 (mk L μ) (mk L res, none) := by
  unfold b37_65 at h
  refine sx_iload k37_65 rfl ?_
  refine sx_iload_n (i := 3) k37_67 rfl rfl ?_
  by_cases hb1 : v3 ≤ v4
  · rw [if_pos hb1] at h
    refine sx_icmp_ge (tgt := 92) k37_68 (by decide) (fun _ => ?_) (fun q => absurd hb1 q)
    exact cx_retv k37_92 rt_37 h
  · rw [if_neg hb1] at h
    refine sx_icmp_ge (tgt := 92) k37_68 (by decide) (fun q => absurd q hb1) (fun _ => ?_)
    refine sx_aload_n (i := 0) k37_71 rfl rfl ?_
    refine sx_aload_n (i := 0) k37_72 rfl rfl ?_
    refine cx_getR (k := 8) k37_73 ow_37 fl_1_42 (by decide) sk_101 ft_0_8 sr_101_8 ?_
    refine sx_iload_n (i := 2) k37_76 rfl rfl ?_
    refine sx_iconst (v := 5) k37_77 (by decide) ?_
    refine sx_iadd k37_78 ?_
    refine sx_iload k37_79 rfl ?_
    refine sx_iadd k37_81 ?_
    obtain ⟨x2, e3, h⟩ := Option.bind_eq_some_iff.mp h
    refine cx_iald k37_82 sk_125 e3 ?_
    obtain ⟨r4, e5, h⟩ := Option.bind_eq_some_iff.mp h
    refine cx_V (sk := []) (vs := [.int x2]) st_37_29 k37_83 ow_37 cl_1_253 (by decide) rfl (Nat.le_of_ble_eq_true rfl) sk_101 (ok29 x2 _ _ e5) (sk3 := []) rfl rfl ?_
    refine cx_iinc (c := 1) (lo2 := fun x6 => [(4, .int x6), (0, .ref 101), (2, .int v2), (3, .int v3)]) k37_86 rfl (by decide) (by rw [mx_37]; decide) (fun _ => rfl) h (fun x6 h => ?_)
    refine sx_goto (tgt := 65) k37_89 (by decide) ?_
    refine sx_pick (lo2 := [(0, .ref 101), (2, .int v2), (3, .int v3), (4, .int x6)]) [1, 2, 3, 0] rfl ?_
    exact hk65 v2 v3 x6 _ _ h
def l37_65 : Nat → Int32 × Int32 × Int32 × Mem → Option (Mem) :=
  fixN (fun self x => b37_65 (fun v2 v3 v4 μ => self (v2, v3, v4, μ)) (x.1) (x.2.1) (x.2.2.1) (x.2.2.2))
theorem l37_65_ok {L : Nat} (n : Nat) (v2 : Int32) (v3 : Int32) (v4 : Int32) (μ : Mem) (res : Mem) (h : l37_65 n (v2, v3, v4, μ) = some res) : Sx 37 65 [(0, .ref 101), (2, .int v2), (3, .int v3), (4, .int v4)] [] 0 0 (mk L μ) (mk L res, none) := by
  have key := fixN_ind (P := fun x res => Sx 37 65 [(0, .ref 101), (2, .int (x.1)), (3, .int (x.2.1)), (4, .int (x.2.2.1))] [] 0 0 (mk L (x.2.2.2)) (mk L res, none)) (F := fun self x => b37_65 (fun v2 v3 v4 μ => self (v2, v3, v4, μ)) (x.1) (x.2.1) (x.2.2.1) (x.2.2.2)) (fun self hself x res h => b37_65_ok (fun v2 v3 v4 μ => self (v2, v3, v4, μ)) (fun v2 v3 v4 μ res hh => hself (v2, v3, v4, μ) res hh) (x.1) (x.2.1) (x.2.2.1) (x.2.2.2) res h) n (v2, v3, v4, μ) res h
  exact key
/-- Board.beginStructureReport(I)V -/
def f37 (p1 : Int32) (μ : Mem) : Option (Mem) :=
  nm (p1 * (13 : Int32)) fun x1 =>
  if p1 < 0 then
    some μ
  else
    if p1 < (6 : Int32) then
      (f117 (3 : Int32) (25 : Int32) μ).bind fun r4 =>
      (f65 87 p1 r4).bind fun r6 =>
      (ldA 125 (x1 + (4 : Int32)) r6).bind fun x8 =>
      nm (jmin x8 (8 : Int32)) fun x10 =>
      (f65 87 x10 r6).bind fun r11 =>
      l37_65 gF (x1, x10, (0 : Int32), r11)
    else
      some μ
theorem ok37 {L : Nat} (p1 : Int32) (μ : Mem) (res : Mem) (h : f37 p1 μ = some res) : Mx 37 [.ref 101, .int p1] (mk L μ) (mk L res, none) := by
  refine Mx_of ml_37 (by rw [mx_37]; exact Nat.le_of_ble_eq_true rfl) ?_
  show Sx 37 0 [(0, .ref 101), (1, .int p1)] [] 0 0 (mk L μ) _
  unfold f37 at h
  refine sx_iload_n (i := 1) k37_0 rfl rfl ?_
  refine sx_bipush (v := 13) k37_1 (by decide) ?_
  refine sx_imul k37_3 ?_
  refine cx_nm h (fun x1 h => ?_)
  refine cx_istore_n (lo2 := [(2, .int x1), (0, .ref 101), (1, .int p1)]) k37_4 rfl (by rw [mx_37]; decide) rfl ?_
  refine sx_iload_n (i := 1) k37_5 rfl rfl ?_
  by_cases hb2 : p1 < 0
  · rw [if_pos hb2] at h
    refine sx_if_lt (tgt := 15) k37_6 (by decide) (fun _ => ?_) (fun q => absurd hb2 q)
    exact cx_retv k37_15 rt_37 h
  · rw [if_neg hb2] at h
    refine sx_if_lt (tgt := 15) k37_6 (by decide) (fun q => absurd q hb2) (fun _ => ?_)
    refine sx_iload_n (i := 1) k37_9 rfl rfl ?_
    refine sx_bipush (v := 6) k37_10 (by decide) ?_
    by_cases hb3 : p1 < (6 : Int32)
    · rw [if_pos hb3] at h
      refine sx_icmp_lt (tgt := 16) k37_12 (by decide) (fun _ => ?_) (fun q => absurd hb3 q)
      refine sx_aload_n (i := 0) k37_16 rfl rfl ?_
      refine cx_getR (k := 0) k37_17 ow_37 fl_1_51 (by decide) sk_101 ft_0_0 sr_101_0 ?_
      refine sx_iconst (v := 3) k37_20 (by decide) ?_
      refine sx_bipush (v := 25) k37_21 (by decide) ?_
      obtain ⟨r4, e5, h⟩ := Option.bind_eq_some_iff.mp h
      refine cx_V (sk := []) (vs := [.int (3 : Int32), .int (25 : Int32)]) st_37_117 k37_23 ow_37 cl_1_116 (by decide) rfl (Nat.le_of_ble_eq_true rfl) sk_57 (ok117 (3 : Int32) (25 : Int32) _ _ e5) (sk3 := []) rfl rfl ?_
      refine sx_aload_n (i := 0) k37_26 rfl rfl ?_
      refine cx_getR (k := 0) k37_27 ow_37 fl_1_51 (by decide) sk_101 ft_0_0 sr_101_0 ?_
      refine cx_getR (k := 5) k37_30 ow_37 fl_1_119 (by decide) sk_57 ft_5_5 sr_57_5 ?_
      refine sx_iload_n (i := 1) k37_33 rfl rfl ?_
      obtain ⟨r6, e7, h⟩ := Option.bind_eq_some_iff.mp h
      refine cx_V (sk := []) (vs := [.int p1]) st_37_65 k37_34 ow_37 cl_1_122 (by decide) rfl (Nat.le_of_ble_eq_true rfl) sk_87 (ok65 87 p1 sk_87 _ _ e7) (sk3 := []) rfl rfl ?_
      refine sx_aload_n (i := 0) k37_37 rfl rfl ?_
      refine cx_getR (k := 8) k37_38 ow_37 fl_1_42 (by decide) sk_101 ft_0_8 sr_101_8 ?_
      refine sx_iload_n (i := 2) k37_41 rfl rfl ?_
      refine sx_iconst (v := 4) k37_42 (by decide) ?_
      refine sx_iadd k37_43 ?_
      obtain ⟨x8, e9, h⟩ := Option.bind_eq_some_iff.mp h
      refine cx_iald k37_44 sk_125 e9 ?_
      refine sx_bipush (v := 8) k37_45 (by decide) ?_
      refine cx_min k37_47 ow_37 yl_1_147 (by decide) (by decide +kernel) (Nat.le_of_ble_eq_true rfl) ?_
      refine cx_nm h (fun x10 h => ?_)
      refine cx_istore_n (lo2 := [(3, .int x10), (2, .int x1), (0, .ref 101), (1, .int p1)]) k37_50 rfl (by rw [mx_37]; decide) rfl ?_
      refine sx_aload_n (i := 0) k37_51 rfl rfl ?_
      refine cx_getR (k := 0) k37_52 ow_37 fl_1_51 (by decide) sk_101 ft_0_0 sr_101_0 ?_
      refine cx_getR (k := 5) k37_55 ow_37 fl_1_119 (by decide) sk_57 ft_5_5 sr_57_5 ?_
      refine sx_iload_n (i := 3) k37_58 rfl rfl ?_
      obtain ⟨r11, e12, h⟩ := Option.bind_eq_some_iff.mp h
      refine cx_V (sk := []) (vs := [.int x10]) st_37_65 k37_59 ow_37 cl_1_122 (by decide) rfl (Nat.le_of_ble_eq_true rfl) sk_87 (ok65 87 x10 sk_87 _ _ e12) (sk3 := []) rfl rfl ?_
      refine sx_iconst (v := 0) k37_62 (by decide) ?_
      refine cx_istore (lo2 := [(4, .int (0 : Int32)), (3, .int x10), (2, .int x1), (0, .ref 101), (1, .int p1)]) k37_63 (by rw [mx_37]; decide) rfl ?_
      refine sx_pick (lo2 := [(0, .ref 101), (2, .int x1), (3, .int x10), (4, .int (0 : Int32))]) [3, 2, 1, 0] rfl ?_
      exact l37_65_ok gF x1 x10 (0 : Int32) _ _ h
    · rw [if_neg hb3] at h
      refine sx_icmp_lt (tgt := 16) k37_12 (by decide) (fun q => absurd q hb3) (fun _ => ?_)
      exact cx_retv k37_15 rt_37 h
theorem k35_0 : decode (gb 35) 0 = .ok (.aload_n 0, 1) := by decide +kernel
theorem k35_1 : decode (gb 35) 1 = .ok (.iconst 0, 1) := by decide +kernel
theorem k35_2 : decode (gb 35) 2 = .ok (.invokevirtual 193, 3) := by decide +kernel
theorem k35_5 : decode (gb 35) 5 = .ok (.istore_n 1, 1) := by decide +kernel
theorem k35_6 : decode (gb 35) 6 = .ok (.iload_n 1, 1) := by decide +kernel
theorem k35_7 : decode (gb 35) 7 = .ok (.bipush 6, 2) := by decide +kernel
theorem k35_9 : decode (gb 35) 9 = .ok (.if_icmp .lt 4, 3) := by decide +kernel
theorem k35_12 : decode (gb 35) 12 = .ok (.return_, 1) := by decide +kernel
theorem k35_13 : decode (gb 35) 13 = .ok (.iload_n 1, 1) := by decide +kernel
theorem k35_14 : decode (gb 35) 14 = .ok (.bipush 13, 2) := by decide +kernel
theorem k35_16 : decode (gb 35) 16 = .ok (.imul, 1) := by decide +kernel
theorem k35_17 : decode (gb 35) 17 = .ok (.istore_n 2, 1) := by decide +kernel
theorem k35_18 : decode (gb 35) 18 = .ok (.aload_n 0, 1) := by decide +kernel
theorem k35_19 : decode (gb 35) 19 = .ok (.invokevirtual 247, 3) := by decide +kernel
theorem k35_22 : decode (gb 35) 22 = .ok (.tableswitch 98 1 6 #[38, 98, 46, 98, 58, 86], 38) := by decide +kernel
theorem k35_60 : decode (gb 35) 60 = .ok (.aload_n 0, 1) := by decide +kernel
theorem k35_61 : decode (gb 35) 61 = .ok (.iload_n 2, 1) := by decide +kernel
theorem k35_62 : decode (gb 35) 62 = .ok (.invokevirtual 282, 3) := by decide +kernel
theorem k35_65 : decode (gb 35) 65 = .ok (.goto 60, 3) := by decide +kernel
theorem k35_68 : decode (gb 35) 68 = .ok (.aload_n 0, 1) := by decide +kernel
theorem k35_69 : decode (gb 35) 69 = .ok (.getfield 42, 3) := by decide +kernel
theorem k35_72 : decode (gb 35) 72 = .ok (.iload_n 2, 1) := by decide +kernel
theorem k35_73 : decode (gb 35) 73 = .ok (.iconst 0, 1) := by decide +kernel
theorem k35_74 : decode (gb 35) 74 = .ok (.iadd, 1) := by decide +kernel
theorem k35_75 : decode (gb 35) 75 = .ok (.iconst 0, 1) := by decide +kernel
theorem k35_76 : decode (gb 35) 76 = .ok (.iastore, 1) := by decide +kernel
theorem k35_77 : decode (gb 35) 77 = .ok (.goto 48, 3) := by decide +kernel
theorem k35_80 : decode (gb 35) 80 = .ok (.aload_n 0, 1) := by decide +kernel
theorem k35_81 : decode (gb 35) 81 = .ok (.getfield 42, 3) := by decide +kernel
theorem k35_84 : decode (gb 35) 84 = .ok (.iload_n 2, 1) := by decide +kernel
theorem k35_85 : decode (gb 35) 85 = .ok (.iconst 1, 1) := by decide +kernel
theorem k35_86 : decode (gb 35) 86 = .ok (.iadd, 1) := by decide +kernel
theorem k35_87 : decode (gb 35) 87 = .ok (.iconst 1, 1) := by decide +kernel
theorem k35_88 : decode (gb 35) 88 = .ok (.iastore, 1) := by decide +kernel
theorem k35_89 : decode (gb 35) 89 = .ok (.aload_n 0, 1) := by decide +kernel
theorem k35_90 : decode (gb 35) 90 = .ok (.getfield 42, 3) := by decide +kernel
theorem k35_93 : decode (gb 35) 93 = .ok (.iload_n 2, 1) := by decide +kernel
theorem k35_94 : decode (gb 35) 94 = .ok (.iconst 3, 1) := by decide +kernel
theorem k35_95 : decode (gb 35) 95 = .ok (.iadd, 1) := by decide +kernel
theorem k35_96 : decode (gb 35) 96 = .ok (.aload_n 0, 1) := by decide +kernel
theorem k35_97 : decode (gb 35) 97 = .ok (.getfield 42, 3) := by decide +kernel
theorem k35_100 : decode (gb 35) 100 = .ok (.iload_n 2, 1) := by decide +kernel
theorem k35_101 : decode (gb 35) 101 = .ok (.iconst 2, 1) := by decide +kernel
theorem k35_102 : decode (gb 35) 102 = .ok (.iadd, 1) := by decide +kernel
theorem k35_103 : decode (gb 35) 103 = .ok (.iaload, 1) := by decide +kernel
theorem k35_104 : decode (gb 35) 104 = .ok (.iastore, 1) := by decide +kernel
theorem k35_105 : decode (gb 35) 105 = .ok (.goto 20, 3) := by decide +kernel
theorem k35_108 : decode (gb 35) 108 = .ok (.aload_n 0, 1) := by decide +kernel
theorem k35_109 : decode (gb 35) 109 = .ok (.getfield 42, 3) := by decide +kernel
theorem k35_112 : decode (gb 35) 112 = .ok (.iload_n 2, 1) := by decide +kernel
theorem k35_113 : decode (gb 35) 113 = .ok (.iconst 1, 1) := by decide +kernel
theorem k35_114 : decode (gb 35) 114 = .ok (.iadd, 1) := by decide +kernel
theorem k35_115 : decode (gb 35) 115 = .ok (.iconst 0, 1) := by decide +kernel
theorem k35_116 : decode (gb 35) 116 = .ok (.iastore, 1) := by decide +kernel
theorem k35_117 : decode (gb 35) 117 = .ok (.goto 8, 3) := by decide +kernel
theorem k35_120 : decode (gb 35) 120 = .ok (.aload_n 0, 1) := by decide +kernel
theorem k35_121 : decode (gb 35) 121 = .ok (.iload_n 1, 1) := by decide +kernel
theorem k35_122 : decode (gb 35) 122 = .ok (.invokevirtual 285, 3) := by decide +kernel
theorem k35_125 : decode (gb 35) 125 = .ok (.return_, 1) := by decide +kernel
/-- Board.actStructures()V -/
def f35 (μ : Mem) : Option (Mem) :=
  (f20 (0 : Int32) μ).bind fun r1 =>
  if r1.2 < (6 : Int32) then
    nm (r1.2 * (13 : Int32)) fun x4 =>
    (f23 r1.1).bind fun r5 =>
    if r5.2 = (1 : Int32) then
      (f36 x4 r5.1).bind fun r7 =>
      some r7
    else if r5.2 = (2 : Int32) then
      (f37 r1.2 r5.1).bind fun r10 =>
      some r10
    else if r5.2 = (3 : Int32) then
      (stA 125 (x4 + (0 : Int32)) (0 : Int32) r5.1).bind fun m13 =>
      some m13
    else if r5.2 = (4 : Int32) then
      (f37 r1.2 r5.1).bind fun r16 =>
      some r16
    else if r5.2 = (5 : Int32) then
      (stA 125 (x4 + (1 : Int32)) (1 : Int32) r5.1).bind fun m19 =>
      (ldA 125 (x4 + (2 : Int32)) m19).bind fun x21 =>
      (stA 125 (x4 + (3 : Int32)) x21 m19).bind fun m23 =>
      some m23
    else if r5.2 = (6 : Int32) then
      (stA 125 (x4 + (1 : Int32)) (0 : Int32) r5.1).bind fun m26 =>
      some m26
    else 
      (f37 r1.2 r5.1).bind fun r29 =>
      some r29
  else
    some r1.1
theorem ok35 {L : Nat} (μ : Mem) (res : Mem) (h : f35 μ = some res) : Mx 35 [.ref 101] (mk L μ) (mk L res, none) := by
  refine Mx_of ml_35 (by rw [mx_35]; exact Nat.le_of_ble_eq_true rfl) ?_
  show Sx 35 0 [(0, .ref 101)] [] 0 0 (mk L μ) _
  unfold f35 at h
  refine sx_aload_n (i := 0) k35_0 rfl rfl ?_
  refine sx_iconst (v := 0) k35_1 (by decide) ?_
  obtain ⟨r1, e2, h⟩ := Option.bind_eq_some_iff.mp h
  refine cx_V (sk := []) (vs := [.int (0 : Int32)]) st_35_20 k35_2 ow_35 cl_1_193 (by decide) rfl (Nat.le_of_ble_eq_true rfl) sk_101 (ok20 (0 : Int32) _ _ e2) (sk3 := [.int r1.2]) rfl rfl ?_
  refine cx_istore_n (lo2 := [(1, .int r1.2), (0, .ref 101)]) k35_5 rfl (by rw [mx_35]; decide) rfl ?_
  refine sx_iload_n (i := 1) k35_6 rfl rfl ?_
  refine sx_bipush (v := 6) k35_7 (by decide) ?_
  by_cases hb3 : r1.2 < (6 : Int32)
  · rw [if_pos hb3] at h
    refine sx_icmp_lt (tgt := 13) k35_9 (by decide) (fun _ => ?_) (fun q => absurd hb3 q)
    refine sx_iload_n (i := 1) k35_13 rfl rfl ?_
    refine sx_bipush (v := 13) k35_14 (by decide) ?_
    refine sx_imul k35_16 ?_
    refine cx_nm h (fun x4 h => ?_)
    refine cx_istore_n (lo2 := [(2, .int x4), (1, .int r1.2), (0, .ref 101)]) k35_17 rfl (by rw [mx_35]; decide) rfl ?_
    refine sx_aload_n (i := 0) k35_18 rfl rfl ?_
    obtain ⟨r5, e6, h⟩ := Option.bind_eq_some_iff.mp h
    refine cx_V (sk := []) (vs := []) st_35_23 k35_19 ow_35 cl_1_247 (by decide) rfl (Nat.le_of_ble_eq_true rfl) sk_101 (ok23 _ _ e6) (sk3 := [.int r5.2]) rfl rfl ?_
    by_cases hb9 : r5.2 = (1 : Int32)
    · rw [if_pos hb9] at h
      refine sx_tableIn (off := 38) (tgt := 60) k35_22 (by rw [hb9]; decide) (by rw [hb9]; decide) (by rw [hb9]; rfl) (by decide) ?_
      refine sx_aload_n (i := 0) k35_60 rfl rfl ?_
      refine sx_iload_n (i := 2) k35_61 rfl rfl ?_
      obtain ⟨r7, e8, h⟩ := Option.bind_eq_some_iff.mp h
      refine cx_V (sk := []) (vs := [.int x4]) st_35_36 k35_62 ow_35 cl_1_282 (by decide) rfl (Nat.le_of_ble_eq_true rfl) sk_101 (ok36 x4 _ _ e8) (sk3 := []) rfl rfl ?_
      refine sx_goto (tgt := 125) k35_65 (by decide) ?_
      exact cx_retv k35_125 rt_35 h
    · rw [if_neg hb9] at h
      by_cases hb12 : r5.2 = (2 : Int32)
      · rw [if_pos hb12] at h
        refine sx_tableIn (off := 98) (tgt := 120) k35_22 (by rw [hb12]; decide) (by rw [hb12]; decide) (by rw [hb12]; rfl) (by decide) ?_
        refine sx_aload_n (i := 0) k35_120 rfl rfl ?_
        refine sx_iload_n (i := 1) k35_121 rfl rfl ?_
        obtain ⟨r10, e11, h⟩ := Option.bind_eq_some_iff.mp h
        refine cx_V (sk := []) (vs := [.int r1.2]) st_35_37 k35_122 ow_35 cl_1_285 (by decide) rfl (Nat.le_of_ble_eq_true rfl) sk_101 (ok37 r1.2 _ _ e11) (sk3 := []) rfl rfl ?_
        exact cx_retv k35_125 rt_35 h
      · rw [if_neg hb12] at h
        by_cases hb15 : r5.2 = (3 : Int32)
        · rw [if_pos hb15] at h
          refine sx_tableIn (off := 46) (tgt := 68) k35_22 (by rw [hb15]; decide) (by rw [hb15]; decide) (by rw [hb15]; rfl) (by decide) ?_
          refine sx_aload_n (i := 0) k35_68 rfl rfl ?_
          refine cx_getR (k := 8) k35_69 ow_35 fl_1_42 (by decide) sk_101 ft_0_8 sr_101_8 ?_
          refine sx_iload_n (i := 2) k35_72 rfl rfl ?_
          refine sx_iconst (v := 0) k35_73 (by decide) ?_
          refine sx_iadd k35_74 ?_
          refine sx_iconst (v := 0) k35_75 (by decide) ?_
          obtain ⟨m13, e14, h⟩ := Option.bind_eq_some_iff.mp h
          refine cx_iast k35_76 sk_125 e14 ?_
          refine sx_goto (tgt := 125) k35_77 (by decide) ?_
          exact cx_retv k35_125 rt_35 h
        · rw [if_neg hb15] at h
          by_cases hb18 : r5.2 = (4 : Int32)
          · rw [if_pos hb18] at h
            refine sx_tableIn (off := 98) (tgt := 120) k35_22 (by rw [hb18]; decide) (by rw [hb18]; decide) (by rw [hb18]; rfl) (by decide) ?_
            refine sx_aload_n (i := 0) k35_120 rfl rfl ?_
            refine sx_iload_n (i := 1) k35_121 rfl rfl ?_
            obtain ⟨r16, e17, h⟩ := Option.bind_eq_some_iff.mp h
            refine cx_V (sk := []) (vs := [.int r1.2]) st_35_37 k35_122 ow_35 cl_1_285 (by decide) rfl (Nat.le_of_ble_eq_true rfl) sk_101 (ok37 r1.2 _ _ e17) (sk3 := []) rfl rfl ?_
            exact cx_retv k35_125 rt_35 h
          · rw [if_neg hb18] at h
            by_cases hb25 : r5.2 = (5 : Int32)
            · rw [if_pos hb25] at h
              refine sx_tableIn (off := 58) (tgt := 80) k35_22 (by rw [hb25]; decide) (by rw [hb25]; decide) (by rw [hb25]; rfl) (by decide) ?_
              refine sx_aload_n (i := 0) k35_80 rfl rfl ?_
              refine cx_getR (k := 8) k35_81 ow_35 fl_1_42 (by decide) sk_101 ft_0_8 sr_101_8 ?_
              refine sx_iload_n (i := 2) k35_84 rfl rfl ?_
              refine sx_iconst (v := 1) k35_85 (by decide) ?_
              refine sx_iadd k35_86 ?_
              refine sx_iconst (v := 1) k35_87 (by decide) ?_
              obtain ⟨m19, e20, h⟩ := Option.bind_eq_some_iff.mp h
              refine cx_iast k35_88 sk_125 e20 ?_
              refine sx_aload_n (i := 0) k35_89 rfl rfl ?_
              refine cx_getR (k := 8) k35_90 ow_35 fl_1_42 (by decide) sk_101 ft_0_8 sr_101_8 ?_
              refine sx_iload_n (i := 2) k35_93 rfl rfl ?_
              refine sx_iconst (v := 3) k35_94 (by decide) ?_
              refine sx_iadd k35_95 ?_
              refine sx_aload_n (i := 0) k35_96 rfl rfl ?_
              refine cx_getR (k := 8) k35_97 ow_35 fl_1_42 (by decide) sk_101 ft_0_8 sr_101_8 ?_
              refine sx_iload_n (i := 2) k35_100 rfl rfl ?_
              refine sx_iconst (v := 2) k35_101 (by decide) ?_
              refine sx_iadd k35_102 ?_
              obtain ⟨x21, e22, h⟩ := Option.bind_eq_some_iff.mp h
              refine cx_iald k35_103 sk_125 e22 ?_
              obtain ⟨m23, e24, h⟩ := Option.bind_eq_some_iff.mp h
              refine cx_iast k35_104 sk_125 e24 ?_
              refine sx_goto (tgt := 125) k35_105 (by decide) ?_
              exact cx_retv k35_125 rt_35 h
            · rw [if_neg hb25] at h
              by_cases hb28 : r5.2 = (6 : Int32)
              · rw [if_pos hb28] at h
                refine sx_tableIn (off := 86) (tgt := 108) k35_22 (by rw [hb28]; decide) (by rw [hb28]; decide) (by rw [hb28]; rfl) (by decide) ?_
                refine sx_aload_n (i := 0) k35_108 rfl rfl ?_
                refine cx_getR (k := 8) k35_109 ow_35 fl_1_42 (by decide) sk_101 ft_0_8 sr_101_8 ?_
                refine sx_iload_n (i := 2) k35_112 rfl rfl ?_
                refine sx_iconst (v := 1) k35_113 (by decide) ?_
                refine sx_iadd k35_114 ?_
                refine sx_iconst (v := 0) k35_115 (by decide) ?_
                obtain ⟨m26, e27, h⟩ := Option.bind_eq_some_iff.mp h
                refine cx_iast k35_116 sk_125 e27 ?_
                refine sx_goto (tgt := 125) k35_117 (by decide) ?_
                exact cx_retv k35_125 rt_35 h
              · rw [if_neg hb28] at h
                refine sx_tableOut (tgt := 120) k35_22 (sw_out (n := 6) (fun j hj => ?_)) (by decide) ?_
                · intro hj2
                  exact sw_no [(1 : Int32), (2 : Int32), (3 : Int32), (4 : Int32), (5 : Int32), (6 : Int32)] (by decide) hj hj2 ⟨hb9, hb12, hb15, hb18, hb25, hb28, trivial⟩
                ·
                  refine sx_aload_n (i := 0) k35_120 rfl rfl ?_
                  refine sx_iload_n (i := 1) k35_121 rfl rfl ?_
                  obtain ⟨r29, e30, h⟩ := Option.bind_eq_some_iff.mp h
                  refine cx_V (sk := []) (vs := [.int r1.2]) st_35_37 k35_122 ow_35 cl_1_285 (by decide) rfl (Nat.le_of_ble_eq_true rfl) sk_101 (ok37 r1.2 _ _ e30) (sk3 := []) rfl rfl ?_
                  exact cx_retv k35_125 rt_35 h
  · rw [if_neg hb3] at h
    refine sx_icmp_lt (tgt := 13) k35_9 (by decide) (fun q => absurd q hb3) (fun _ => ?_)
    exact cx_retv k35_12 rt_35 h
theorem k39_0 : decode (gb 39) 0 = .ok (.iconst 1, 1) := by decide +kernel
theorem k39_1 : decode (gb 39) 1 = .ok (.aload_n 0, 1) := by decide +kernel
theorem k39_2 : decode (gb 39) 2 = .ok (.iconst 0, 1) := by decide +kernel
theorem k39_3 : decode (gb 39) 3 = .ok (.invokevirtual 193, 3) := by decide +kernel
theorem k39_6 : decode (gb 39) 6 = .ok (.ishl, 1) := by decide +kernel
theorem k39_7 : decode (gb 39) 7 = .ok (.istore_n 1, 1) := by decide +kernel
theorem k39_8 : decode (gb 39) 8 = .ok (.aload_n 0, 1) := by decide +kernel
theorem k39_9 : decode (gb 39) 9 = .ok (.aload_n 0, 1) := by decide +kernel
theorem k39_10 : decode (gb 39) 10 = .ok (.invokevirtual 247, 3) := by decide +kernel
theorem k39_13 : decode (gb 39) 13 = .ok (.iconst 5, 1) := by decide +kernel
theorem k39_14 : decode (gb 39) 14 = .ok (.if_icmp .ne 14, 3) := by decide +kernel
theorem k39_17 : decode (gb 39) 17 = .ok (.aload_n 0, 1) := by decide +kernel
theorem k39_18 : decode (gb 39) 18 = .ok (.getfield 83, 3) := by decide +kernel
theorem k39_21 : decode (gb 39) 21 = .ok (.iload_n 1, 1) := by decide +kernel
theorem k39_22 : decode (gb 39) 22 = .ok (.iconst (-1), 1) := by decide +kernel
theorem k39_23 : decode (gb 39) 23 = .ok (.ixor, 1) := by decide +kernel
theorem k39_24 : decode (gb 39) 24 = .ok (.iand, 1) := by decide +kernel
theorem k39_25 : decode (gb 39) 25 = .ok (.goto 9, 3) := by decide +kernel
theorem k39_28 : decode (gb 39) 28 = .ok (.aload_n 0, 1) := by decide +kernel
theorem k39_29 : decode (gb 39) 29 = .ok (.getfield 83, 3) := by decide +kernel
theorem k39_32 : decode (gb 39) 32 = .ok (.iload_n 1, 1) := by decide +kernel
theorem k39_33 : decode (gb 39) 33 = .ok (.ior, 1) := by decide +kernel
theorem k39_34 : decode (gb 39) 34 = .ok (.putfield 83, 3) := by decide +kernel
theorem k39_37 : decode (gb 39) 37 = .ok (.return_, 1) := by decide +kernel
def c39_34 (s1 : Int32) (μ : Mem) : Option (Mem) :=
  (pfI 101 11 s1 μ).bind fun m1 =>
  some m1
theorem c39_34_ok {L : Nat} (s1 : Int32) (μ : Mem) (res : Mem) (h : c39_34 s1 μ = some res) : Sx 39 34 [] [.int s1, .ref 101] 0 0 (mk L μ) (mk L res, none) := by
  unfold c39_34 at h
  obtain ⟨m1, e2, h⟩ := Option.bind_eq_some_iff.mp h
  refine cx_putI (k := 11) k39_34 ow_39 fl_1_83 (by decide) sk_101 nf_0_11 fu_0_11 e2 ?_
  exact cx_retv k39_37 rt_39 h
/-- Board.actEvents()V -/
def f39 (μ : Mem) : Option (Mem) :=
  (f20 (0 : Int32) μ).bind fun r1 =>
  nm (jshl (1 : Int32) r1.2) fun x3 =>
  (f23 r1.1).bind fun r4 =>
  if r4.2 = (5 : Int32) then
    c39_34 ((r4.1.1 101 11) &&& (x3 ^^^ (-1 : Int32))) r4.1
  else
    c39_34 ((r4.1.1 101 11) ||| x3) r4.1
theorem ok39 {L : Nat} (μ : Mem) (res : Mem) (h : f39 μ = some res) : Mx 39 [.ref 101] (mk L μ) (mk L res, none) := by
  refine Mx_of ml_39 (by rw [mx_39]; exact Nat.le_of_ble_eq_true rfl) ?_
  show Sx 39 0 [(0, .ref 101)] [] 0 0 (mk L μ) _
  unfold f39 at h
  refine sx_iconst (v := 1) k39_0 (by decide) ?_
  refine sx_aload_n (i := 0) k39_1 rfl rfl ?_
  refine sx_iconst (v := 0) k39_2 (by decide) ?_
  obtain ⟨r1, e2, h⟩ := Option.bind_eq_some_iff.mp h
  refine cx_V (sk := [.int (1 : Int32)]) (vs := [.int (0 : Int32)]) st_39_20 k39_3 ow_39 cl_1_193 (by decide) rfl (Nat.le_of_ble_eq_true rfl) sk_101 (ok20 (0 : Int32) _ _ e2) (sk3 := [.int r1.2, .int (1 : Int32)]) rfl rfl ?_
  refine sx_ishl k39_6 ?_
  refine cx_nm h (fun x3 h => ?_)
  refine cx_istore_n (lo2 := [(1, .int x3), (0, .ref 101)]) k39_7 rfl (by rw [mx_39]; decide) rfl ?_
  refine sx_aload_n (i := 0) k39_8 rfl rfl ?_
  refine sx_aload_n (i := 0) k39_9 rfl rfl ?_
  obtain ⟨r4, e5, h⟩ := Option.bind_eq_some_iff.mp h
  refine cx_V (sk := [.ref 101]) (vs := []) st_39_23 k39_10 ow_39 cl_1_247 (by decide) rfl (Nat.le_of_ble_eq_true rfl) sk_101 (ok23 _ _ e5) (sk3 := [.int r4.2, .ref 101]) rfl rfl ?_
  refine sx_iconst (v := 5) k39_13 (by decide) ?_
  by_cases hb6 : r4.2 = (5 : Int32)
  · rw [if_pos hb6] at h
    refine sx_icmp_ne (tgt := 28) k39_14 (by decide) (fun q => absurd hb6 q) (fun _ => ?_)
    refine sx_aload_n (i := 0) k39_17 rfl rfl ?_
    refine cx_getI (k := 11) k39_18 ow_39 fl_1_83 (by decide) sk_101 ft_0_11 ?_
    refine sx_iload_n (i := 1) k39_21 rfl rfl ?_
    refine sx_iconst (v := -1) k39_22 (by decide) ?_
    refine sx_ixor k39_23 ?_
    refine sx_iand k39_24 ?_
    refine sx_goto (tgt := 34) k39_25 (by decide) ?_
    refine sx_pick (lo2 := []) [] rfl ?_
    exact c39_34_ok ((r4.1.1 101 11) &&& (x3 ^^^ (-1 : Int32))) _ _ h
  · rw [if_neg hb6] at h
    refine sx_icmp_ne (tgt := 28) k39_14 (by decide) (fun _ => ?_) (fun q => absurd q hb6)
    refine sx_aload_n (i := 0) k39_28 rfl rfl ?_
    refine cx_getI (k := 11) k39_29 ow_39 fl_1_83 (by decide) sk_101 ft_0_11 ?_
    refine sx_iload_n (i := 1) k39_32 rfl rfl ?_
    refine sx_ior k39_33 ?_
    refine sx_pick (lo2 := []) [] rfl ?_
    exact c39_34_ok ((r4.1.1 101 11) ||| x3) _ _ h
theorem k32_0 : decode (gb 32) 0 = .ok (.aload_n 0, 1) := by decide +kernel
theorem k32_1 : decode (gb 32) 1 = .ok (.iconst 0, 1) := by decide +kernel
theorem k32_2 : decode (gb 32) 2 = .ok (.invokevirtual 262, 3) := by decide +kernel
theorem k32_5 : decode (gb 32) 5 = .ok (.istore_n 1, 1) := by decide +kernel
theorem k32_6 : decode (gb 32) 6 = .ok (.aload_n 0, 1) := by decide +kernel
theorem k32_7 : decode (gb 32) 7 = .ok (.iconst 2, 1) := by decide +kernel
theorem k32_8 : decode (gb 32) 8 = .ok (.invokevirtual 193, 3) := by decide +kernel
theorem k32_11 : decode (gb 32) 11 = .ok (.istore_n 2, 1) := by decide +kernel
theorem k32_12 : decode (gb 32) 12 = .ok (.aload_n 0, 1) := by decide +kernel
theorem k32_13 : decode (gb 32) 13 = .ok (.invokevirtual 247, 3) := by decide +kernel
theorem k32_16 : decode (gb 32) 16 = .ok (.iconst 2, 1) := by decide +kernel
theorem k32_17 : decode (gb 32) 17 = .ok (.if_icmp .ne 34, 3) := by decide +kernel
theorem k32_20 : decode (gb 32) 20 = .ok (.iconst 0, 1) := by decide +kernel
theorem k32_21 : decode (gb 32) 21 = .ok (.istore_n 3, 1) := by decide +kernel
theorem k32_22 : decode (gb 32) 22 = .ok (.iload_n 3, 1) := by decide +kernel
theorem k32_23 : decode (gb 32) 23 = .ok (.iload_n 2, 1) := by decide +kernel
theorem k32_24 : decode (gb 32) 24 = .ok (.if_icmp .ge 26, 3) := by decide +kernel
theorem k32_27 : decode (gb 32) 27 = .ok (.aload_n 0, 1) := by decide +kernel
theorem k32_28 : decode (gb 32) 28 = .ok (.getfield 48, 3) := by decide +kernel
theorem k32_31 : decode (gb 32) 31 = .ok (.iload_n 1, 1) := by decide +kernel
theorem k32_32 : decode (gb 32) 32 = .ok (.iload_n 3, 1) := by decide +kernel
theorem k32_33 : decode (gb 32) 33 = .ok (.iadd, 1) := by decide +kernel
theorem k32_34 : decode (gb 32) 34 = .ok (.aload_n 0, 1) := by decide +kernel
theorem k32_35 : decode (gb 32) 35 = .ok (.iconst 3, 1) := by decide +kernel
theorem k32_36 : decode (gb 32) 36 = .ok (.iload_n 3, 1) := by decide +kernel
theorem k32_37 : decode (gb 32) 37 = .ok (.iadd, 1) := by decide +kernel
theorem k32_38 : decode (gb 32) 38 = .ok (.invokevirtual 193, 3) := by decide +kernel
theorem k32_41 : decode (gb 32) 41 = .ok (.invokevirtual 265, 3) := by decide +kernel
theorem k32_44 : decode (gb 32) 44 = .ok (.iinc 3 1, 3) := by decide +kernel
theorem k32_47 : decode (gb 32) 47 = .ok (.goto (-25), 3) := by decide +kernel
theorem k32_50 : decode (gb 32) 50 = .ok (.return_, 1) := by decide +kernel
theorem k32_51 : decode (gb 32) 51 = .ok (.aload_n 0, 1) := by decide +kernel
theorem k32_52 : decode (gb 32) 52 = .ok (.invokevirtual 247, 3) := by decide +kernel
theorem k32_55 : decode (gb 32) 55 = .ok (.iconst 5, 1) := by decide +kernel
theorem k32_56 : decode (gb 32) 56 = .ok (.if_icmp .ne 58, 3) := by decide +kernel
theorem k32_59 : decode (gb 32) 59 = .ok (.aload_n 0, 1) := by decide +kernel
theorem k32_60 : decode (gb 32) 60 = .ok (.getfield 51, 3) := by decide +kernel
theorem k32_63 : decode (gb 32) 63 = .ok (.bipush 6, 2) := by decide +kernel
theorem k32_65 : decode (gb 32) 65 = .ok (.bipush 6, 2) := by decide +kernel
theorem k32_67 : decode (gb 32) 67 = .ok (.invokevirtual 116, 3) := by decide +kernel
theorem k32_70 : decode (gb 32) 70 = .ok (.aload_n 0, 1) := by decide +kernel
theorem k32_71 : decode (gb 32) 71 = .ok (.getfield 51, 3) := by decide +kernel
theorem k32_74 : decode (gb 32) 74 = .ok (.getfield 119, 3) := by decide +kernel
theorem k32_77 : decode (gb 32) 77 = .ok (.iload_n 1, 1) := by decide +kernel
theorem k32_78 : decode (gb 32) 78 = .ok (.invokevirtual 268, 3) := by decide +kernel
theorem k32_81 : decode (gb 32) 81 = .ok (.aload_n 0, 1) := by decide +kernel
theorem k32_82 : decode (gb 32) 82 = .ok (.getfield 51, 3) := by decide +kernel
theorem k32_85 : decode (gb 32) 85 = .ok (.getfield 119, 3) := by decide +kernel
theorem k32_88 : decode (gb 32) 88 = .ok (.iload_n 2, 1) := by decide +kernel
theorem k32_89 : decode (gb 32) 89 = .ok (.invokevirtual 122, 3) := by decide +kernel
theorem k32_92 : decode (gb 32) 92 = .ok (.aload_n 0, 1) := by decide +kernel
theorem k32_93 : decode (gb 32) 93 = .ok (.getfield 51, 3) := by decide +kernel
theorem k32_96 : decode (gb 32) 96 = .ok (.getfield 119, 3) := by decide +kernel
theorem k32_99 : decode (gb 32) 99 = .ok (.aload_n 0, 1) := by decide +kernel
theorem k32_100 : decode (gb 32) 100 = .ok (.getfield 48, 3) := by decide +kernel
theorem k32_103 : decode (gb 32) 103 = .ok (.getfield 271, 3) := by decide +kernel
theorem k32_106 : decode (gb 32) 106 = .ok (.iload_n 1, 1) := by decide +kernel
theorem k32_107 : decode (gb 32) 107 = .ok (.iload_n 2, 1) := by decide +kernel
theorem k32_108 : decode (gb 32) 108 = .ok (.invokevirtual 275, 3) := by decide +kernel
theorem k32_111 : decode (gb 32) 111 = .ok (.goto 65, 3) := by decide +kernel
theorem k32_114 : decode (gb 32) 114 = .ok (.aload_n 0, 1) := by decide +kernel
theorem k32_115 : decode (gb 32) 115 = .ok (.getfield 51, 3) := by decide +kernel
theorem k32_118 : decode (gb 32) 118 = .ok (.bipush 6, 2) := by decide +kernel
theorem k32_120 : decode (gb 32) 120 = .ok (.bipush 10, 2) := by decide +kernel
theorem k32_122 : decode (gb 32) 122 = .ok (.invokevirtual 116, 3) := by decide +kernel
theorem k32_125 : decode (gb 32) 125 = .ok (.aload_n 0, 1) := by decide +kernel
theorem k32_126 : decode (gb 32) 126 = .ok (.getfield 51, 3) := by decide +kernel
theorem k32_129 : decode (gb 32) 129 = .ok (.getfield 119, 3) := by decide +kernel
theorem k32_132 : decode (gb 32) 132 = .ok (.iload_n 1, 1) := by decide +kernel
theorem k32_133 : decode (gb 32) 133 = .ok (.invokevirtual 268, 3) := by decide +kernel
theorem k32_136 : decode (gb 32) 136 = .ok (.aload_n 0, 1) := by decide +kernel
theorem k32_137 : decode (gb 32) 137 = .ok (.getfield 51, 3) := by decide +kernel
theorem k32_140 : decode (gb 32) 140 = .ok (.getfield 119, 3) := by decide +kernel
theorem k32_143 : decode (gb 32) 143 = .ok (.aload_n 0, 1) := by decide +kernel
theorem k32_144 : decode (gb 32) 144 = .ok (.iconst 2, 1) := by decide +kernel
theorem k32_145 : decode (gb 32) 145 = .ok (.invokevirtual 262, 3) := by decide +kernel
theorem k32_148 : decode (gb 32) 148 = .ok (.invokevirtual 268, 3) := by decide +kernel
theorem k32_151 : decode (gb 32) 151 = .ok (.aload_n 0, 1) := by decide +kernel
theorem k32_152 : decode (gb 32) 152 = .ok (.getfield 51, 3) := by decide +kernel
theorem k32_155 : decode (gb 32) 155 = .ok (.getfield 119, 3) := by decide +kernel
theorem k32_158 : decode (gb 32) 158 = .ok (.aload_n 0, 1) := by decide +kernel
theorem k32_159 : decode (gb 32) 159 = .ok (.getfield 48, 3) := by decide +kernel
theorem k32_162 : decode (gb 32) 162 = .ok (.iload_n 1, 1) := by decide +kernel
theorem k32_163 : decode (gb 32) 163 = .ok (.iload_n 1, 1) := by decide +kernel
theorem k32_164 : decode (gb 32) 164 = .ok (.aload_n 0, 1) := by decide +kernel
theorem k32_165 : decode (gb 32) 165 = .ok (.iconst 2, 1) := by decide +kernel
theorem k32_166 : decode (gb 32) 166 = .ok (.invokevirtual 262, 3) := by decide +kernel
theorem k32_169 : decode (gb 32) 169 = .ok (.iadd, 1) := by decide +kernel
theorem k32_170 : decode (gb 32) 170 = .ok (.invokevirtual 131, 3) := by decide +kernel
theorem k32_173 : decode (gb 32) 173 = .ok (.invokevirtual 268, 3) := by decide +kernel
theorem k32_176 : decode (gb 32) 176 = .ok (.return_, 1) := by decide +kernel
def b32_22 (kl22 : Int32 → Int32 → Int32 → Mem → Option (Mem)) (v1 : Int32) (v2 : Int32) (v3 : Int32) (μ : Mem) : Option (Mem) :=
  if v2 ≤ v3 then
    some μ
  else
    (f20 ((3 : Int32) + v3) μ).bind fun r2 =>
    (f73 127 (v1 + v3) r2.2 r2.1).bind fun r4 =>
    nm (v3 + (1 : Int32)) fun x6 =>
    kl22 v1 v2 x6 r4
theorem b32_22_ok {L : Nat} (kl22 : Int32 → Int32 → Int32 → Mem → Option (Mem)) (hk22 : (∀ (v1 : Int32) (v2 : Int32) (v3 : Int32) (μ : Mem) (res : Mem), kl22 v1 v2 v3 μ = some res → Sx 32 22 [(0, .ref 101), (1, .int v1), (2, .int v2), (3, .int v3)] [] 0 0 (mk L μ) (mk L res, none))) (v1 : Int32) (v2 : Int32) (v3 : Int32) (μ : Mem) (res : Mem) (h : b32_22 kl22 v1 v2 v3 μ = some res) : Sx 32 22 [(0, .ref 101), (1, .int v1), (2, .int v2), (3, .int v3)] [] 0 0 (mk L μ) (mk L res, none) := by
  unfold b32_22 at h
  refine sx_iload_n (i := 3) k32_22 rfl rfl ?_
  refine sx_iload_n (i := 2) k32_23 rfl rfl ?_
  by_cases hb1 : v2 ≤ v3
  · rw [if_pos hb1] at h
    refine sx_icmp_ge (tgt := 50) k32_24 (by decide) (fun _ => ?_) (fun q => absurd hb1 q)
    exact cx_retv k32_50 rt_32 h
  · rw [if_neg hb1] at h
    refine sx_icmp_ge (tgt := 50) k32_24 (by decide) (fun q => absurd q hb1) (fun _ => ?_)
    refine sx_aload_n (i := 0) k32_27 rfl rfl ?_
    refine cx_getR (k := 10) k32_28 ow_32 fl_1_48 (by decide) sk_101 ft_0_10 sr_101_10 ?_
    refine sx_iload_n (i := 1) k32_31 rfl rfl ?_
    refine sx_iload_n (i := 3) k32_32 rfl rfl ?_
    refine sx_iadd k32_33 ?_
    refine sx_aload_n (i := 0) k32_34 rfl rfl ?_
    refine sx_iconst (v := 3) k32_35 (by decide) ?_
    refine sx_iload_n (i := 3) k32_36 rfl rfl ?_
    refine sx_iadd k32_37 ?_
    obtain ⟨r2, e3, h⟩ := Option.bind_eq_some_iff.mp h
    refine cx_V (sk := [.int (v1 + v3), .ref 127]) (vs := [.int ((3 : Int32) + v3)]) st_32_20 k32_38 ow_32 cl_1_193 (by decide) rfl (Nat.le_of_ble_eq_true rfl) sk_101 (ok20 ((3 : Int32) + v3) _ _ e3) (sk3 := [.int r2.2, .int (v1 + v3), .ref 127]) rfl rfl ?_
    obtain ⟨r4, e5, h⟩ := Option.bind_eq_some_iff.mp h
    refine cx_V (sk := []) (vs := [.int (v1 + v3), .int r2.2]) st_32_73 k32_41 ow_32 cl_1_265 (by decide) rfl (Nat.le_of_ble_eq_true rfl) sk_127 (ok73 127 (v1 + v3) r2.2 sk_127 _ _ e5) (sk3 := []) rfl rfl ?_
    refine cx_iinc (c := 1) (lo2 := fun x6 => [(3, .int x6), (0, .ref 101), (1, .int v1), (2, .int v2)]) k32_44 rfl (by decide) (by rw [mx_32]; decide) (fun _ => rfl) h (fun x6 h => ?_)
    refine sx_goto (tgt := 22) k32_47 (by decide) ?_
    refine sx_pick (lo2 := [(0, .ref 101), (1, .int v1), (2, .int v2), (3, .int x6)]) [1, 2, 3, 0] rfl ?_
    exact hk22 v1 v2 x6 _ _ h
def l32_22 : Nat → Int32 × Int32 × Int32 × Mem → Option (Mem) :=
  fixN (fun self x => b32_22 (fun v1 v2 v3 μ => self (v1, v2, v3, μ)) (x.1) (x.2.1) (x.2.2.1) (x.2.2.2))
theorem l32_22_ok {L : Nat} (n : Nat) (v1 : Int32) (v2 : Int32) (v3 : Int32) (μ : Mem) (res : Mem) (h : l32_22 n (v1, v2, v3, μ) = some res) : Sx 32 22 [(0, .ref 101), (1, .int v1), (2, .int v2), (3, .int v3)] [] 0 0 (mk L μ) (mk L res, none) := by
  have key := fixN_ind (P := fun x res => Sx 32 22 [(0, .ref 101), (1, .int (x.1)), (2, .int (x.2.1)), (3, .int (x.2.2.1))] [] 0 0 (mk L (x.2.2.2)) (mk L res, none)) (F := fun self x => b32_22 (fun v1 v2 v3 μ => self (v1, v2, v3, μ)) (x.1) (x.2.1) (x.2.2.1) (x.2.2.2)) (fun self hself x res h => b32_22_ok (fun v1 v2 v3 μ => self (v1, v2, v3, μ)) (fun v1 v2 v3 μ res hh => hself (v1, v2, v3, μ) res hh) (x.1) (x.2.1) (x.2.2.1) (x.2.2.2) res h) n (v1, v2, v3, μ) res h
  exact key
/-- Board.actMemory()V -/
def f32 (μ : Mem) : Option (Mem) :=
  (f21 (0 : Int32) μ).bind fun r1 =>
  (f20 (2 : Int32) r1.1).bind fun r3 =>
  (f23 r3.1).bind fun r5 =>
  if r5.2 = (2 : Int32) then
    l32_22 gF (r1.2, r3.2, (0 : Int32), r5.1)
  else
    (f23 r5.1).bind fun r8 =>
    if r8.2 = (5 : Int32) then
      (f117 (6 : Int32) (6 : Int32) r8.1).bind fun r25 =>
      (f66 87 r1.2 r25).bind fun r27 =>
      (f65 87 r3.2 r27).bind fun r29 =>
      (f70 87 128 r1.2 r3.2 r29).bind fun r31 =>
      some r31
    else
      (f117 (6 : Int32) (10 : Int32) r8.1).bind fun r11 =>
      (f66 87 r1.2 r11).bind fun r13 =>
      (f21 (2 : Int32) r13).bind fun r15 =>
      (f66 87 r15.2 r15.1).bind fun r17 =>
      (f21 (2 : Int32) r17).bind fun r19 =>
      (f78 127 r1.2 (r1.2 + r19.2) r19.1).bind fun r21 =>
      (f66 87 r21.2 r21.1).bind fun r23 =>
      some r23
theorem ok32 {L : Nat} (μ : Mem) (res : Mem) (h : f32 μ = some res) : Mx 32 [.ref 101] (mk L μ) (mk L res, none) := by
  refine Mx_of ml_32 (by rw [mx_32]; exact Nat.le_of_ble_eq_true rfl) ?_
  show Sx 32 0 [(0, .ref 101)] [] 0 0 (mk L μ) _
  unfold f32 at h
  refine sx_aload_n (i := 0) k32_0 rfl rfl ?_
  refine sx_iconst (v := 0) k32_1 (by decide) ?_
  obtain ⟨r1, e2, h⟩ := Option.bind_eq_some_iff.mp h
  refine cx_V (sk := []) (vs := [.int (0 : Int32)]) st_32_21 k32_2 ow_32 cl_1_262 (by decide) rfl (Nat.le_of_ble_eq_true rfl) sk_101 (ok21 (0 : Int32) _ _ e2) (sk3 := [.int r1.2]) rfl rfl ?_
  refine cx_istore_n (lo2 := [(1, .int r1.2), (0, .ref 101)]) k32_5 rfl (by rw [mx_32]; decide) rfl ?_
  refine sx_aload_n (i := 0) k32_6 rfl rfl ?_
  refine sx_iconst (v := 2) k32_7 (by decide) ?_
  obtain ⟨r3, e4, h⟩ := Option.bind_eq_some_iff.mp h
  refine cx_V (sk := []) (vs := [.int (2 : Int32)]) st_32_20 k32_8 ow_32 cl_1_193 (by decide) rfl (Nat.le_of_ble_eq_true rfl) sk_101 (ok20 (2 : Int32) _ _ e4) (sk3 := [.int r3.2]) rfl rfl ?_
  refine cx_istore_n (lo2 := [(2, .int r3.2), (1, .int r1.2), (0, .ref 101)]) k32_11 rfl (by rw [mx_32]; decide) rfl ?_
  refine sx_aload_n (i := 0) k32_12 rfl rfl ?_
  obtain ⟨r5, e6, h⟩ := Option.bind_eq_some_iff.mp h
  refine cx_V (sk := []) (vs := []) st_32_23 k32_13 ow_32 cl_1_247 (by decide) rfl (Nat.le_of_ble_eq_true rfl) sk_101 (ok23 _ _ e6) (sk3 := [.int r5.2]) rfl rfl ?_
  refine sx_iconst (v := 2) k32_16 (by decide) ?_
  by_cases hb7 : r5.2 = (2 : Int32)
  · rw [if_pos hb7] at h
    refine sx_icmp_ne (tgt := 51) k32_17 (by decide) (fun q => absurd hb7 q) (fun _ => ?_)
    refine sx_iconst (v := 0) k32_20 (by decide) ?_
    refine cx_istore_n (lo2 := [(3, .int (0 : Int32)), (2, .int r3.2), (1, .int r1.2), (0, .ref 101)]) k32_21 rfl (by rw [mx_32]; decide) rfl ?_
    refine sx_pick (lo2 := [(0, .ref 101), (1, .int r1.2), (2, .int r3.2), (3, .int (0 : Int32))]) [3, 2, 1, 0] rfl ?_
    exact l32_22_ok gF r1.2 r3.2 (0 : Int32) _ _ h
  · rw [if_neg hb7] at h
    refine sx_icmp_ne (tgt := 51) k32_17 (by decide) (fun _ => ?_) (fun q => absurd q hb7)
    refine sx_aload_n (i := 0) k32_51 rfl rfl ?_
    obtain ⟨r8, e9, h⟩ := Option.bind_eq_some_iff.mp h
    refine cx_V (sk := []) (vs := []) st_32_23 k32_52 ow_32 cl_1_247 (by decide) rfl (Nat.le_of_ble_eq_true rfl) sk_101 (ok23 _ _ e9) (sk3 := [.int r8.2]) rfl rfl ?_
    refine sx_iconst (v := 5) k32_55 (by decide) ?_
    by_cases hb10 : r8.2 = (5 : Int32)
    · rw [if_pos hb10] at h
      refine sx_icmp_ne (tgt := 114) k32_56 (by decide) (fun q => absurd hb10 q) (fun _ => ?_)
      refine sx_aload_n (i := 0) k32_59 rfl rfl ?_
      refine cx_getR (k := 0) k32_60 ow_32 fl_1_51 (by decide) sk_101 ft_0_0 sr_101_0 ?_
      refine sx_bipush (v := 6) k32_63 (by decide) ?_
      refine sx_bipush (v := 6) k32_65 (by decide) ?_
      obtain ⟨r25, e26, h⟩ := Option.bind_eq_some_iff.mp h
      refine cx_V (sk := []) (vs := [.int (6 : Int32), .int (6 : Int32)]) st_32_117 k32_67 ow_32 cl_1_116 (by decide) rfl (Nat.le_of_ble_eq_true rfl) sk_57 (ok117 (6 : Int32) (6 : Int32) _ _ e26) (sk3 := []) rfl rfl ?_
      refine sx_aload_n (i := 0) k32_70 rfl rfl ?_
      refine cx_getR (k := 0) k32_71 ow_32 fl_1_51 (by decide) sk_101 ft_0_0 sr_101_0 ?_
      refine cx_getR (k := 5) k32_74 ow_32 fl_1_119 (by decide) sk_57 ft_5_5 sr_57_5 ?_
      refine sx_iload_n (i := 1) k32_77 rfl rfl ?_
      obtain ⟨r27, e28, h⟩ := Option.bind_eq_some_iff.mp h
      refine cx_V (sk := []) (vs := [.int r1.2]) st_32_66 k32_78 ow_32 cl_1_268 (by decide) rfl (Nat.le_of_ble_eq_true rfl) sk_87 (ok66 87 r1.2 sk_87 _ _ e28) (sk3 := []) rfl rfl ?_
      refine sx_aload_n (i := 0) k32_81 rfl rfl ?_
      refine cx_getR (k := 0) k32_82 ow_32 fl_1_51 (by decide) sk_101 ft_0_0 sr_101_0 ?_
      refine cx_getR (k := 5) k32_85 ow_32 fl_1_119 (by decide) sk_57 ft_5_5 sr_57_5 ?_
      refine sx_iload_n (i := 2) k32_88 rfl rfl ?_
      obtain ⟨r29, e30, h⟩ := Option.bind_eq_some_iff.mp h
      refine cx_V (sk := []) (vs := [.int r3.2]) st_32_65 k32_89 ow_32 cl_1_122 (by decide) rfl (Nat.le_of_ble_eq_true rfl) sk_87 (ok65 87 r3.2 sk_87 _ _ e30) (sk3 := []) rfl rfl ?_
      refine sx_aload_n (i := 0) k32_92 rfl rfl ?_
      refine cx_getR (k := 0) k32_93 ow_32 fl_1_51 (by decide) sk_101 ft_0_0 sr_101_0 ?_
      refine cx_getR (k := 5) k32_96 ow_32 fl_1_119 (by decide) sk_57 ft_5_5 sr_57_5 ?_
      refine sx_aload_n (i := 0) k32_99 rfl rfl ?_
      refine cx_getR (k := 10) k32_100 ow_32 fl_1_48 (by decide) sk_101 ft_0_10 sr_101_10 ?_
      refine cx_getR (k := 0) k32_103 ow_32 fl_1_271 (by decide) sk_127 ft_1_0 sr_127_0 ?_
      refine sx_iload_n (i := 1) k32_106 rfl rfl ?_
      refine sx_iload_n (i := 2) k32_107 rfl rfl ?_
      obtain ⟨r31, e32, h⟩ := Option.bind_eq_some_iff.mp h
      refine cx_V (sk := []) (vs := [.ref 128, .int r1.2, .int r3.2]) st_32_70 k32_108 ow_32 cl_1_275 (by decide) rfl (Nat.le_of_ble_eq_true rfl) sk_87 (ok70 87 128 r1.2 r3.2 sk_87 sk_128 _ _ e32) (sk3 := []) rfl rfl ?_
      refine sx_goto (tgt := 176) k32_111 (by decide) ?_
      exact cx_retv k32_176 rt_32 h
    · rw [if_neg hb10] at h
      refine sx_icmp_ne (tgt := 114) k32_56 (by decide) (fun _ => ?_) (fun q => absurd q hb10)
      refine sx_aload_n (i := 0) k32_114 rfl rfl ?_
      refine cx_getR (k := 0) k32_115 ow_32 fl_1_51 (by decide) sk_101 ft_0_0 sr_101_0 ?_
      refine sx_bipush (v := 6) k32_118 (by decide) ?_
      refine sx_bipush (v := 10) k32_120 (by decide) ?_
      obtain ⟨r11, e12, h⟩ := Option.bind_eq_some_iff.mp h
      refine cx_V (sk := []) (vs := [.int (6 : Int32), .int (10 : Int32)]) st_32_117 k32_122 ow_32 cl_1_116 (by decide) rfl (Nat.le_of_ble_eq_true rfl) sk_57 (ok117 (6 : Int32) (10 : Int32) _ _ e12) (sk3 := []) rfl rfl ?_
      refine sx_aload_n (i := 0) k32_125 rfl rfl ?_
      refine cx_getR (k := 0) k32_126 ow_32 fl_1_51 (by decide) sk_101 ft_0_0 sr_101_0 ?_
      refine cx_getR (k := 5) k32_129 ow_32 fl_1_119 (by decide) sk_57 ft_5_5 sr_57_5 ?_
      refine sx_iload_n (i := 1) k32_132 rfl rfl ?_
      obtain ⟨r13, e14, h⟩ := Option.bind_eq_some_iff.mp h
      refine cx_V (sk := []) (vs := [.int r1.2]) st_32_66 k32_133 ow_32 cl_1_268 (by decide) rfl (Nat.le_of_ble_eq_true rfl) sk_87 (ok66 87 r1.2 sk_87 _ _ e14) (sk3 := []) rfl rfl ?_
      refine sx_aload_n (i := 0) k32_136 rfl rfl ?_
      refine cx_getR (k := 0) k32_137 ow_32 fl_1_51 (by decide) sk_101 ft_0_0 sr_101_0 ?_
      refine cx_getR (k := 5) k32_140 ow_32 fl_1_119 (by decide) sk_57 ft_5_5 sr_57_5 ?_
      refine sx_aload_n (i := 0) k32_143 rfl rfl ?_
      refine sx_iconst (v := 2) k32_144 (by decide) ?_
      obtain ⟨r15, e16, h⟩ := Option.bind_eq_some_iff.mp h
      refine cx_V (sk := [.ref 87]) (vs := [.int (2 : Int32)]) st_32_21 k32_145 ow_32 cl_1_262 (by decide) rfl (Nat.le_of_ble_eq_true rfl) sk_101 (ok21 (2 : Int32) _ _ e16) (sk3 := [.int r15.2, .ref 87]) rfl rfl ?_
      obtain ⟨r17, e18, h⟩ := Option.bind_eq_some_iff.mp h
      refine cx_V (sk := []) (vs := [.int r15.2]) st_32_66 k32_148 ow_32 cl_1_268 (by decide) rfl (Nat.le_of_ble_eq_true rfl) sk_87 (ok66 87 r15.2 sk_87 _ _ e18) (sk3 := []) rfl rfl ?_
      refine sx_aload_n (i := 0) k32_151 rfl rfl ?_
      refine cx_getR (k := 0) k32_152 ow_32 fl_1_51 (by decide) sk_101 ft_0_0 sr_101_0 ?_
      refine cx_getR (k := 5) k32_155 ow_32 fl_1_119 (by decide) sk_57 ft_5_5 sr_57_5 ?_
      refine sx_aload_n (i := 0) k32_158 rfl rfl ?_
      refine cx_getR (k := 10) k32_159 ow_32 fl_1_48 (by decide) sk_101 ft_0_10 sr_101_10 ?_
      refine sx_iload_n (i := 1) k32_162 rfl rfl ?_
      refine sx_iload_n (i := 1) k32_163 rfl rfl ?_
      refine sx_aload_n (i := 0) k32_164 rfl rfl ?_
      refine sx_iconst (v := 2) k32_165 (by decide) ?_
      obtain ⟨r19, e20, h⟩ := Option.bind_eq_some_iff.mp h
      refine cx_V (sk := [.int r1.2, .int r1.2, .ref 127, .ref 87]) (vs := [.int (2 : Int32)]) st_32_21 k32_166 ow_32 cl_1_262 (by decide) rfl (Nat.le_of_ble_eq_true rfl) sk_101 (ok21 (2 : Int32) _ _ e20) (sk3 := [.int r19.2, .int r1.2, .int r1.2, .ref 127, .ref 87]) rfl rfl ?_
      refine sx_iadd k32_169 ?_
      obtain ⟨r21, e22, h⟩ := Option.bind_eq_some_iff.mp h
      refine cx_V (sk := [.ref 87]) (vs := [.int r1.2, .int (r1.2 + r19.2)]) st_32_78 k32_170 ow_32 cl_1_131 (by decide) rfl (Nat.le_of_ble_eq_true rfl) sk_127 (ok78 127 r1.2 (r1.2 + r19.2) sk_127 _ _ e22) (sk3 := [.int r21.2, .ref 87]) rfl rfl ?_
      obtain ⟨r23, e24, h⟩ := Option.bind_eq_some_iff.mp h
      refine cx_V (sk := []) (vs := [.int r21.2]) st_32_66 k32_173 ow_32 cl_1_268 (by decide) rfl (Nat.le_of_ble_eq_true rfl) sk_87 (ok66 87 r21.2 sk_87 _ _ e24) (sk3 := []) rfl rfl ?_
      exact cx_retv k32_176 rt_32 h
theorem k28_0 : decode (gb 28) 0 = .ok (.iload_n 1, 1) := by decide +kernel
theorem k28_1 : decode (gb 28) 1 = .ok (.ifCond .lt 16, 3) := by decide +kernel
theorem k28_4 : decode (gb 28) 4 = .ok (.iload_n 1, 1) := by decide +kernel
theorem k28_5 : decode (gb 28) 5 = .ok (.bipush 15, 2) := by decide +kernel
theorem k28_7 : decode (gb 28) 7 = .ok (.if_icmp .gt 10, 3) := by decide +kernel
theorem k28_10 : decode (gb 28) 10 = .ok (.aload_n 0, 1) := by decide +kernel
theorem k28_11 : decode (gb 28) 11 = .ok (.getfield 38, 3) := by decide +kernel
theorem k28_14 : decode (gb 28) 14 = .ok (.iload_n 1, 1) := by decide +kernel
theorem k28_15 : decode (gb 28) 15 = .ok (.iload_n 2, 1) := by decide +kernel
theorem k28_16 : decode (gb 28) 16 = .ok (.iastore, 1) := by decide +kernel
theorem k28_17 : decode (gb 28) 17 = .ok (.return_, 1) := by decide +kernel
/-- Board.setParameter(II)V -/
def f28 (p1 : Int32) (p2 : Int32) (μ : Mem) : Option (Mem) :=
  if p1 < 0 then
    some μ
  else
    if (15 : Int32) < p1 then
      some μ
    else
      (stA 124 p1 p2 μ).bind fun m3 =>
      some m3
theorem ok28 {L : Nat} (p1 : Int32) (p2 : Int32) (μ : Mem) (res : Mem) (h : f28 p1 p2 μ = some res) : Mx 28 [.ref 101, .int p1, .int p2] (mk L μ) (mk L res, none) := by
  refine Mx_of ml_28 (by rw [mx_28]; exact Nat.le_of_ble_eq_true rfl) ?_
  show Sx 28 0 [(0, .ref 101), (1, .int p1), (2, .int p2)] [] 0 0 (mk L μ) _
  unfold f28 at h
  refine sx_iload_n (i := 1) k28_0 rfl rfl ?_
  by_cases hb1 : p1 < 0
  · rw [if_pos hb1] at h
    refine sx_if_lt (tgt := 17) k28_1 (by decide) (fun _ => ?_) (fun q => absurd hb1 q)
    exact cx_retv k28_17 rt_28 h
  · rw [if_neg hb1] at h
    refine sx_if_lt (tgt := 17) k28_1 (by decide) (fun q => absurd q hb1) (fun _ => ?_)
    refine sx_iload_n (i := 1) k28_4 rfl rfl ?_
    refine sx_bipush (v := 15) k28_5 (by decide) ?_
    by_cases hb2 : (15 : Int32) < p1
    · rw [if_pos hb2] at h
      refine sx_icmp_gt (tgt := 17) k28_7 (by decide) (fun _ => ?_) (fun q => absurd hb2 q)
      exact cx_retv k28_17 rt_28 h
    · rw [if_neg hb2] at h
      refine sx_icmp_gt (tgt := 17) k28_7 (by decide) (fun q => absurd q hb2) (fun _ => ?_)
      refine sx_aload_n (i := 0) k28_10 rfl rfl ?_
      refine cx_getR (k := 7) k28_11 ow_28 fl_1_38 (by decide) sk_101 ft_0_7 sr_101_7 ?_
      refine sx_iload_n (i := 1) k28_14 rfl rfl ?_
      refine sx_iload_n (i := 2) k28_15 rfl rfl ?_
      obtain ⟨m3, e4, h⟩ := Option.bind_eq_some_iff.mp h
      refine cx_iast k28_16 sk_124 e4 ?_
      exact cx_retv k28_17 rt_28 h
theorem k30_0 : decode (gb 30) 0 = .ok (.aload_n 0, 1) := by decide +kernel
theorem k30_1 : decode (gb 30) 1 = .ok (.iconst 0, 1) := by decide +kernel
theorem k30_2 : decode (gb 30) 2 = .ok (.invokevirtual 193, 3) := by decide +kernel
theorem k30_5 : decode (gb 30) 5 = .ok (.iconst 1, 1) := by decide +kernel
theorem k30_6 : decode (gb 30) 6 = .ok (.if_icmp .ne 13, 3) := by decide +kernel
theorem k30_9 : decode (gb 30) 9 = .ok (.aload_n 0, 1) := by decide +kernel
theorem k30_10 : decode (gb 30) 10 = .ok (.iconst 0, 1) := by decide +kernel
theorem k30_11 : decode (gb 30) 11 = .ok (.aload_n 0, 1) := by decide +kernel
theorem k30_12 : decode (gb 30) 12 = .ok (.iconst 1, 1) := by decide +kernel
theorem k30_13 : decode (gb 30) 13 = .ok (.invokevirtual 180, 3) := by decide +kernel
theorem k30_16 : decode (gb 30) 16 = .ok (.invokevirtual 250, 3) := by decide +kernel
theorem k30_19 : decode (gb 30) 19 = .ok (.return_, 1) := by decide +kernel
/-- Board.actFunction()V -/
def f30 (μ : Mem) : Option (Mem) :=
  (f20 (0 : Int32) μ).bind fun r1 =>
  if r1.2 = (1 : Int32) then
    (f22 (1 : Int32) r1.1).bind fun r4 =>
    (f28 (0 : Int32) r4.2 r4.1).bind fun r6 =>
    some r6
  else
    some r1.1
theorem ok30 {L : Nat} (μ : Mem) (res : Mem) (h : f30 μ = some res) : Mx 30 [.ref 101] (mk L μ) (mk L res, none) := by
  refine Mx_of ml_30 (by rw [mx_30]; exact Nat.le_of_ble_eq_true rfl) ?_
  show Sx 30 0 [(0, .ref 101)] [] 0 0 (mk L μ) _
  unfold f30 at h
  refine sx_aload_n (i := 0) k30_0 rfl rfl ?_
  refine sx_iconst (v := 0) k30_1 (by decide) ?_
  obtain ⟨r1, e2, h⟩ := Option.bind_eq_some_iff.mp h
  refine cx_V (sk := []) (vs := [.int (0 : Int32)]) st_30_20 k30_2 ow_30 cl_1_193 (by decide) rfl (Nat.le_of_ble_eq_true rfl) sk_101 (ok20 (0 : Int32) _ _ e2) (sk3 := [.int r1.2]) rfl rfl ?_
  refine sx_iconst (v := 1) k30_5 (by decide) ?_
  by_cases hb3 : r1.2 = (1 : Int32)
  · rw [if_pos hb3] at h
    refine sx_icmp_ne (tgt := 19) k30_6 (by decide) (fun q => absurd hb3 q) (fun _ => ?_)
    refine sx_aload_n (i := 0) k30_9 rfl rfl ?_
    refine sx_iconst (v := 0) k30_10 (by decide) ?_
    refine sx_aload_n (i := 0) k30_11 rfl rfl ?_
    refine sx_iconst (v := 1) k30_12 (by decide) ?_
    obtain ⟨r4, e5, h⟩ := Option.bind_eq_some_iff.mp h
    refine cx_V (sk := [.int (0 : Int32), .ref 101]) (vs := [.int (1 : Int32)]) st_30_22 k30_13 ow_30 cl_1_180 (by decide) rfl (Nat.le_of_ble_eq_true rfl) sk_101 (ok22 (1 : Int32) _ _ e5) (sk3 := [.int r4.2, .int (0 : Int32), .ref 101]) rfl rfl ?_
    obtain ⟨r6, e7, h⟩ := Option.bind_eq_some_iff.mp h
    refine cx_V (sk := []) (vs := [.int (0 : Int32), .int r4.2]) st_30_28 k30_16 ow_30 cl_1_250 (by decide) rfl (Nat.le_of_ble_eq_true rfl) sk_101 (ok28 (0 : Int32) r4.2 _ _ e7) (sk3 := []) rfl rfl ?_
    exact cx_retv k30_19 rt_30 h
  · rw [if_neg hb3] at h
    refine sx_icmp_ne (tgt := 19) k30_6 (by decide) (fun _ => ?_) (fun q => absurd q hb3)
    exact cx_retv k30_19 rt_30 h
theorem k59_0 : decode (gb 59) 0 = .ok (.iconst 0, 1) := by decide +kernel
theorem k59_1 : decode (gb 59) 1 = .ok (.istore_n 2, 1) := by decide +kernel
theorem k59_2 : decode (gb 59) 2 = .ok (.iload_n 2, 1) := by decide +kernel
theorem k59_3 : decode (gb 59) 3 = .ok (.aload_n 0, 1) := by decide +kernel
theorem k59_4 : decode (gb 59) 4 = .ok (.getfield 20, 3) := by decide +kernel
theorem k59_7 : decode (gb 59) 7 = .ok (.getfield 75, 3) := by decide +kernel
theorem k59_10 : decode (gb 59) 10 = .ok (.if_icmp .ge 27, 3) := by decide +kernel
theorem k59_13 : decode (gb 59) 13 = .ok (.aload_n 0, 1) := by decide +kernel
theorem k59_14 : decode (gb 59) 14 = .ok (.getfield 20, 3) := by decide +kernel
theorem k59_17 : decode (gb 59) 17 = .ok (.iload_n 2, 1) := by decide +kernel
theorem k59_18 : decode (gb 59) 18 = .ok (.aload_n 0, 1) := by decide +kernel
theorem k59_19 : decode (gb 59) 19 = .ok (.getfield 20, 3) := by decide +kernel
theorem k59_22 : decode (gb 59) 22 = .ok (.iload_n 2, 1) := by decide +kernel
theorem k59_23 : decode (gb 59) 23 = .ok (.invokevirtual 152, 3) := by decide +kernel
theorem k59_26 : decode (gb 59) 26 = .ok (.iload_n 1, 1) := by decide +kernel
theorem k59_27 : decode (gb 59) 27 = .ok (.iadd, 1) := by decide +kernel
theorem k59_28 : decode (gb 59) 28 = .ok (.invokevirtual 353, 3) := by decide +kernel
theorem k59_31 : decode (gb 59) 31 = .ok (.iinc 2 1, 3) := by decide +kernel
theorem k59_34 : decode (gb 59) 34 = .ok (.goto (-32), 3) := by decide +kernel
theorem k59_37 : decode (gb 59) 37 = .ok (.return_, 1) := by decide +kernel
def b59_2 (kl2 : Int32 → Int32 → Mem → Option (Mem)) (v1 : Int32) (v2 : Int32) (μ : Mem) : Option (Mem) :=
  if (μ.1 108 5) ≤ v2 then
    some μ
  else
    (f167 108 v2 μ).bind fun r2 =>
    (f169 108 v2 (r2.2 + v1) r2.1).bind fun r4 =>
    nm (v2 + (1 : Int32)) fun x6 =>
    kl2 v1 x6 r4
theorem b59_2_ok {L : Nat} (kl2 : Int32 → Int32 → Mem → Option (Mem)) (hk2 : (∀ (v1 : Int32) (v2 : Int32) (μ : Mem) (res : Mem), kl2 v1 v2 μ = some res → Sx 59 2 [(0, .ref 101), (1, .int v1), (2, .int v2)] [] 0 0 (mk L μ) (mk L res, none))) (v1 : Int32) (v2 : Int32) (μ : Mem) (res : Mem) (h : b59_2 kl2 v1 v2 μ = some res) : Sx 59 2 [(0, .ref 101), (1, .int v1), (2, .int v2)] [] 0 0 (mk L μ) (mk L res, none) := by
  unfold b59_2 at h
  refine sx_iload_n (i := 2) k59_2 rfl rfl ?_
  refine sx_aload_n (i := 0) k59_3 rfl rfl ?_
  refine cx_getR (k := 3) k59_4 ow_59 fl_1_20 (by decide) sk_101 ft_0_3 sr_101_3 ?_
  refine cx_getI (k := 5) k59_7 ow_59 fl_1_75 (by decide) sk_108 ft_7_5 ?_
  by_cases hb1 : (μ.1 108 5) ≤ v2
  · rw [if_pos hb1] at h
    refine sx_icmp_ge (tgt := 37) k59_10 (by decide) (fun _ => ?_) (fun q => absurd hb1 q)
    exact cx_retv k59_37 rt_59 h
  · rw [if_neg hb1] at h
    refine sx_icmp_ge (tgt := 37) k59_10 (by decide) (fun q => absurd q hb1) (fun _ => ?_)
    refine sx_aload_n (i := 0) k59_13 rfl rfl ?_
    refine cx_getR (k := 3) k59_14 ow_59 fl_1_20 (by decide) sk_101 ft_0_3 sr_101_3 ?_
    refine sx_iload_n (i := 2) k59_17 rfl rfl ?_
    refine sx_aload_n (i := 0) k59_18 rfl rfl ?_
    refine cx_getR (k := 3) k59_19 ow_59 fl_1_20 (by decide) sk_101 ft_0_3 sr_101_3 ?_
    refine sx_iload_n (i := 2) k59_22 rfl rfl ?_
    obtain ⟨r2, e3, h⟩ := Option.bind_eq_some_iff.mp h
    refine cx_V (sk := [.int v2, .ref 108]) (vs := [.int v2]) st_59_167 k59_23 ow_59 cl_1_152 (by decide) rfl (Nat.le_of_ble_eq_true rfl) sk_108 (ok167 108 v2 sk_108 _ _ e3) (sk3 := [.int r2.2, .int v2, .ref 108]) rfl rfl ?_
    refine sx_iload_n (i := 1) k59_26 rfl rfl ?_
    refine sx_iadd k59_27 ?_
    obtain ⟨r4, e5, h⟩ := Option.bind_eq_some_iff.mp h
    refine cx_V (sk := []) (vs := [.int v2, .int (r2.2 + v1)]) st_59_169 k59_28 ow_59 cl_1_353 (by decide) rfl (Nat.le_of_ble_eq_true rfl) sk_108 (ok169 108 v2 (r2.2 + v1) sk_108 _ _ e5) (sk3 := []) rfl rfl ?_
    refine cx_iinc (c := 1) (lo2 := fun x6 => [(2, .int x6), (0, .ref 101), (1, .int v1)]) k59_31 rfl (by decide) (by rw [mx_59]; decide) (fun _ => rfl) h (fun x6 h => ?_)
    refine sx_goto (tgt := 2) k59_34 (by decide) ?_
    refine sx_pick (lo2 := [(0, .ref 101), (1, .int v1), (2, .int x6)]) [1, 2, 0] rfl ?_
    exact hk2 v1 x6 _ _ h
def l59_2 : Nat → Int32 × Int32 × Mem → Option (Mem) :=
  fixN (fun self x => b59_2 (fun v1 v2 μ => self (v1, v2, μ)) (x.1) (x.2.1) (x.2.2))
theorem l59_2_ok {L : Nat} (n : Nat) (v1 : Int32) (v2 : Int32) (μ : Mem) (res : Mem) (h : l59_2 n (v1, v2, μ) = some res) : Sx 59 2 [(0, .ref 101), (1, .int v1), (2, .int v2)] [] 0 0 (mk L μ) (mk L res, none) := by
  have key := fixN_ind (P := fun x res => Sx 59 2 [(0, .ref 101), (1, .int (x.1)), (2, .int (x.2.1))] [] 0 0 (mk L (x.2.2)) (mk L res, none)) (F := fun self x => b59_2 (fun v1 v2 μ => self (v1, v2, μ)) (x.1) (x.2.1) (x.2.2)) (fun self hself x res h => b59_2_ok (fun v1 v2 μ => self (v1, v2, μ)) (fun v1 v2 μ res hh => hself (v1, v2, μ) res hh) (x.1) (x.2.1) (x.2.2) res h) n (v1, v2, μ) res h
  exact key
/-- Board.shiftAll(I)V -/
def f59 (p1 : Int32) (μ : Mem) : Option (Mem) :=
  l59_2 gF (p1, (0 : Int32), μ)
theorem ok59 {L : Nat} (p1 : Int32) (μ : Mem) (res : Mem) (h : f59 p1 μ = some res) : Mx 59 [.ref 101, .int p1] (mk L μ) (mk L res, none) := by
  refine Mx_of ml_59 (by rw [mx_59]; exact Nat.le_of_ble_eq_true rfl) ?_
  show Sx 59 0 [(0, .ref 101), (1, .int p1)] [] 0 0 (mk L μ) _
  unfold f59 at h
  refine sx_iconst (v := 0) k59_0 (by decide) ?_
  refine cx_istore_n (lo2 := [(2, .int (0 : Int32)), (0, .ref 101), (1, .int p1)]) k59_1 rfl (by rw [mx_59]; decide) rfl ?_
  refine sx_pick (lo2 := [(0, .ref 101), (1, .int p1), (2, .int (0 : Int32))]) [1, 2, 0] rfl ?_
  exact l59_2_ok gF p1 (0 : Int32) _ _ h
theorem k60_0 : decode (gb 60) 0 = .ok (.aload_n 0, 1) := by decide +kernel
theorem k60_1 : decode (gb 60) 1 = .ok (.getfield 20, 3) := by decide +kernel
theorem k60_4 : decode (gb 60) 4 = .ok (.getfield 75, 3) := by decide +kernel
theorem k60_7 : decode (gb 60) 7 = .ok (.bipush 8, 2) := by decide +kernel
theorem k60_9 : decode (gb 60) 9 = .ok (.invokestatic 147, 3) := by decide +kernel
theorem k60_12 : decode (gb 60) 12 = .ok (.istore_n 1, 1) := by decide +kernel
theorem k60_13 : decode (gb 60) 13 = .ok (.aload_n 0, 1) := by decide +kernel
theorem k60_14 : decode (gb 60) 14 = .ok (.getfield 51, 3) := by decide +kernel
theorem k60_17 : decode (gb 60) 17 = .ok (.bipush 11, 2) := by decide +kernel
theorem k60_19 : decode (gb 60) 19 = .ok (.bipush 17, 2) := by decide +kernel
theorem k60_21 : decode (gb 60) 21 = .ok (.invokevirtual 116, 3) := by decide +kernel
theorem k60_24 : decode (gb 60) 24 = .ok (.aload_n 0, 1) := by decide +kernel
theorem k60_25 : decode (gb 60) 25 = .ok (.getfield 51, 3) := by decide +kernel
theorem k60_28 : decode (gb 60) 28 = .ok (.getfield 119, 3) := by decide +kernel
theorem k60_31 : decode (gb 60) 31 = .ok (.iload_n 1, 1) := by decide +kernel
theorem k60_32 : decode (gb 60) 32 = .ok (.invokevirtual 122, 3) := by decide +kernel
theorem k60_35 : decode (gb 60) 35 = .ok (.iconst 0, 1) := by decide +kernel
theorem k60_36 : decode (gb 60) 36 = .ok (.istore_n 2, 1) := by decide +kernel
theorem k60_37 : decode (gb 60) 37 = .ok (.iload_n 2, 1) := by decide +kernel
theorem k60_38 : decode (gb 60) 38 = .ok (.iload_n 1, 1) := by decide +kernel
theorem k60_39 : decode (gb 60) 39 = .ok (.if_icmp .ge 48, 3) := by decide +kernel
theorem k60_42 : decode (gb 60) 42 = .ok (.aload_n 0, 1) := by decide +kernel
theorem k60_43 : decode (gb 60) 43 = .ok (.iload_n 2, 1) := by decide +kernel
theorem k60_44 : decode (gb 60) 44 = .ok (.invokevirtual 318, 3) := by decide +kernel
theorem k60_47 : decode (gb 60) 47 = .ok (.istore_n 3, 1) := by decide +kernel
theorem k60_48 : decode (gb 60) 48 = .ok (.aload_n 0, 1) := by decide +kernel
theorem k60_49 : decode (gb 60) 49 = .ok (.getfield 51, 3) := by decide +kernel
theorem k60_52 : decode (gb 60) 52 = .ok (.getfield 119, 3) := by decide +kernel
theorem k60_55 : decode (gb 60) 55 = .ok (.aload_n 0, 1) := by decide +kernel
theorem k60_56 : decode (gb 60) 56 = .ok (.getfield 20, 3) := by decide +kernel
theorem k60_59 : decode (gb 60) 59 = .ok (.iload_n 3, 1) := by decide +kernel
theorem k60_60 : decode (gb 60) 60 = .ok (.invokevirtual 152, 3) := by decide +kernel
theorem k60_63 : decode (gb 60) 63 = .ok (.invokevirtual 259, 3) := by decide +kernel
theorem k60_66 : decode (gb 60) 66 = .ok (.aload_n 0, 1) := by decide +kernel
theorem k60_67 : decode (gb 60) 67 = .ok (.getfield 51, 3) := by decide +kernel
theorem k60_70 : decode (gb 60) 70 = .ok (.getfield 119, 3) := by decide +kernel
theorem k60_73 : decode (gb 60) 73 = .ok (.aload_n 0, 1) := by decide +kernel
theorem k60_74 : decode (gb 60) 74 = .ok (.iload_n 3, 1) := by decide +kernel
theorem k60_75 : decode (gb 60) 75 = .ok (.invokevirtual 341, 3) := by decide +kernel
theorem k60_78 : decode (gb 60) 78 = .ok (.invokevirtual 268, 3) := by decide +kernel
theorem k60_81 : decode (gb 60) 81 = .ok (.iinc 2 1, 3) := by decide +kernel
theorem k60_84 : decode (gb 60) 84 = .ok (.goto (-47), 3) := by decide +kernel
theorem k60_87 : decode (gb 60) 87 = .ok (.return_, 1) := by decide +kernel
def b60_37 (kl37 : Int32 → Int32 → Mem → Option (Mem)) (v1 : Int32) (v2 : Int32) (μ : Mem) : Option (Mem) :=
  if v1 ≤ v2 then
    some μ
  else
    (f50 v2 μ).bind fun r2 =>
    (f167 108 r2.2 r2.1).bind fun r4 =>
    (f67 87 r4.2 r4.1).bind fun r6 =>
    (f56 r2.2 r6).bind fun r8 =>
    (f66 87 r8.2 r8.1).bind fun r10 =>
    nm (v2 + (1 : Int32)) fun x12 =>
    kl37 v1 x12 r10
theorem b60_37_ok {L : Nat} (kl37 : Int32 → Int32 → Mem → Option (Mem)) (hk37 : (∀ (v1 : Int32) (v2 : Int32) (μ : Mem) (res : Mem), kl37 v1 v2 μ = some res → Sx 60 37 [(0, .ref 101), (1, .int v1), (2, .int v2)] [] 0 0 (mk L μ) (mk L res, none))) (v1 : Int32) (v2 : Int32) (μ : Mem) (res : Mem) (h : b60_37 kl37 v1 v2 μ = some res) : Sx 60 37 [(0, .ref 101), (1, .int v1), (2, .int v2)] [] 0 0 (mk L μ) (mk L res, none) := by
  unfold b60_37 at h
  refine sx_iload_n (i := 2) k60_37 rfl rfl ?_
  refine sx_iload_n (i := 1) k60_38 rfl rfl ?_
  by_cases hb1 : v1 ≤ v2
  · rw [if_pos hb1] at h
    refine sx_icmp_ge (tgt := 87) k60_39 (by decide) (fun _ => ?_) (fun q => absurd hb1 q)
    exact cx_retv k60_87 rt_60 h
  · rw [if_neg hb1] at h
    refine sx_icmp_ge (tgt := 87) k60_39 (by decide) (fun q => absurd q hb1) (fun _ => ?_)
    refine sx_aload_n (i := 0) k60_42 rfl rfl ?_
    refine sx_iload_n (i := 2) k60_43 rfl rfl ?_
    obtain ⟨r2, e3, h⟩ := Option.bind_eq_some_iff.mp h
    refine cx_V (sk := []) (vs := [.int v2]) st_60_50 k60_44 ow_60 cl_1_318 (by decide) rfl (Nat.le_of_ble_eq_true rfl) sk_101 (ok50 v2 _ _ e3) (sk3 := [.int r2.2]) rfl rfl ?_
    refine cx_istore_n (lo2 := [(3, .int r2.2), (0, .ref 101), (1, .int v1), (2, .int v2)]) k60_47 rfl (by rw [mx_60]; decide) rfl ?_
    refine sx_aload_n (i := 0) k60_48 rfl rfl ?_
    refine cx_getR (k := 0) k60_49 ow_60 fl_1_51 (by decide) sk_101 ft_0_0 sr_101_0 ?_
    refine cx_getR (k := 5) k60_52 ow_60 fl_1_119 (by decide) sk_57 ft_5_5 sr_57_5 ?_
    refine sx_aload_n (i := 0) k60_55 rfl rfl ?_
    refine cx_getR (k := 3) k60_56 ow_60 fl_1_20 (by decide) sk_101 ft_0_3 sr_101_3 ?_
    refine sx_iload_n (i := 3) k60_59 rfl rfl ?_
    obtain ⟨r4, e5, h⟩ := Option.bind_eq_some_iff.mp h
    refine cx_V (sk := [.ref 87]) (vs := [.int r2.2]) st_60_167 k60_60 ow_60 cl_1_152 (by decide) rfl (Nat.le_of_ble_eq_true rfl) sk_108 (ok167 108 r2.2 sk_108 _ _ e5) (sk3 := [.int r4.2, .ref 87]) rfl rfl ?_
    obtain ⟨r6, e7, h⟩ := Option.bind_eq_some_iff.mp h
    refine cx_V (sk := []) (vs := [.int r4.2]) st_60_67 k60_63 ow_60 cl_1_259 (by decide) rfl (Nat.le_of_ble_eq_true rfl) sk_87 (ok67 87 r4.2 sk_87 _ _ e7) (sk3 := []) rfl rfl ?_
    refine sx_aload_n (i := 0) k60_66 rfl rfl ?_
    refine cx_getR (k := 0) k60_67 ow_60 fl_1_51 (by decide) sk_101 ft_0_0 sr_101_0 ?_
    refine cx_getR (k := 5) k60_70 ow_60 fl_1_119 (by decide) sk_57 ft_5_5 sr_57_5 ?_
    refine sx_aload_n (i := 0) k60_73 rfl rfl ?_
    refine sx_iload_n (i := 3) k60_74 rfl rfl ?_
    obtain ⟨r8, e9, h⟩ := Option.bind_eq_some_iff.mp h
    refine cx_V (sk := [.ref 87]) (vs := [.int r2.2]) st_60_56 k60_75 ow_60 cl_1_341 (by decide) rfl (Nat.le_of_ble_eq_true rfl) sk_101 (ok56 r2.2 _ _ e9) (sk3 := [.int r8.2, .ref 87]) rfl rfl ?_
    obtain ⟨r10, e11, h⟩ := Option.bind_eq_some_iff.mp h
    refine cx_V (sk := []) (vs := [.int r8.2]) st_60_66 k60_78 ow_60 cl_1_268 (by decide) rfl (Nat.le_of_ble_eq_true rfl) sk_87 (ok66 87 r8.2 sk_87 _ _ e11) (sk3 := []) rfl rfl ?_
    refine cx_iinc (c := 1) (lo2 := fun x12 => [(2, .int x12), (3, .int r2.2), (0, .ref 101), (1, .int v1)]) k60_81 rfl (by decide) (by rw [mx_60]; decide) (fun _ => rfl) h (fun x12 h => ?_)
    refine sx_goto (tgt := 37) k60_84 (by decide) ?_
    refine sx_pick (lo2 := [(0, .ref 101), (1, .int v1), (2, .int x12)]) [2, 3, 0] rfl ?_
    exact hk37 v1 x12 _ _ h
def l60_37 : Nat → Int32 × Int32 × Mem → Option (Mem) :=
  fixN (fun self x => b60_37 (fun v1 v2 μ => self (v1, v2, μ)) (x.1) (x.2.1) (x.2.2))
theorem l60_37_ok {L : Nat} (n : Nat) (v1 : Int32) (v2 : Int32) (μ : Mem) (res : Mem) (h : l60_37 n (v1, v2, μ) = some res) : Sx 60 37 [(0, .ref 101), (1, .int v1), (2, .int v2)] [] 0 0 (mk L μ) (mk L res, none) := by
  have key := fixN_ind (P := fun x res => Sx 60 37 [(0, .ref 101), (1, .int (x.1)), (2, .int (x.2.1))] [] 0 0 (mk L (x.2.2)) (mk L res, none)) (F := fun self x => b60_37 (fun v1 v2 μ => self (v1, v2, μ)) (x.1) (x.2.1) (x.2.2)) (fun self hself x res h => b60_37_ok (fun v1 v2 μ => self (v1, v2, μ)) (fun v1 v2 μ res hh => hself (v1, v2, μ) res hh) (x.1) (x.2.1) (x.2.2) res h) n (v1, v2, μ) res h
  exact key
/-- Board.beginScheduleReport()V -/
def f60 (μ : Mem) : Option (Mem) :=
  nm (jmin (μ.1 108 5) (8 : Int32)) fun x1 =>
  (f117 (11 : Int32) (17 : Int32) μ).bind fun r2 =>
  (f65 87 x1 r2).bind fun r4 =>
  l60_37 gF (x1, (0 : Int32), r4)
theorem ok60 {L : Nat} (μ : Mem) (res : Mem) (h : f60 μ = some res) : Mx 60 [.ref 101] (mk L μ) (mk L res, none) := by
  refine Mx_of ml_60 (by rw [mx_60]; exact Nat.le_of_ble_eq_true rfl) ?_
  show Sx 60 0 [(0, .ref 101)] [] 0 0 (mk L μ) _
  unfold f60 at h
  refine sx_aload_n (i := 0) k60_0 rfl rfl ?_
  refine cx_getR (k := 3) k60_1 ow_60 fl_1_20 (by decide) sk_101 ft_0_3 sr_101_3 ?_
  refine cx_getI (k := 5) k60_4 ow_60 fl_1_75 (by decide) sk_108 ft_7_5 ?_
  refine sx_bipush (v := 8) k60_7 (by decide) ?_
  refine cx_min k60_9 ow_60 yl_1_147 (by decide) (by decide +kernel) (Nat.le_of_ble_eq_true rfl) ?_
  refine cx_nm h (fun x1 h => ?_)
  refine cx_istore_n (lo2 := [(1, .int x1), (0, .ref 101)]) k60_12 rfl (by rw [mx_60]; decide) rfl ?_
  refine sx_aload_n (i := 0) k60_13 rfl rfl ?_
  refine cx_getR (k := 0) k60_14 ow_60 fl_1_51 (by decide) sk_101 ft_0_0 sr_101_0 ?_
  refine sx_bipush (v := 11) k60_17 (by decide) ?_
  refine sx_bipush (v := 17) k60_19 (by decide) ?_
  obtain ⟨r2, e3, h⟩ := Option.bind_eq_some_iff.mp h
  refine cx_V (sk := []) (vs := [.int (11 : Int32), .int (17 : Int32)]) st_60_117 k60_21 ow_60 cl_1_116 (by decide) rfl (Nat.le_of_ble_eq_true rfl) sk_57 (ok117 (11 : Int32) (17 : Int32) _ _ e3) (sk3 := []) rfl rfl ?_
  refine sx_aload_n (i := 0) k60_24 rfl rfl ?_
  refine cx_getR (k := 0) k60_25 ow_60 fl_1_51 (by decide) sk_101 ft_0_0 sr_101_0 ?_
  refine cx_getR (k := 5) k60_28 ow_60 fl_1_119 (by decide) sk_57 ft_5_5 sr_57_5 ?_
  refine sx_iload_n (i := 1) k60_31 rfl rfl ?_
  obtain ⟨r4, e5, h⟩ := Option.bind_eq_some_iff.mp h
  refine cx_V (sk := []) (vs := [.int x1]) st_60_65 k60_32 ow_60 cl_1_122 (by decide) rfl (Nat.le_of_ble_eq_true rfl) sk_87 (ok65 87 x1 sk_87 _ _ e5) (sk3 := []) rfl rfl ?_
  refine sx_iconst (v := 0) k60_35 (by decide) ?_
  refine cx_istore_n (lo2 := [(2, .int (0 : Int32)), (1, .int x1), (0, .ref 101)]) k60_36 rfl (by rw [mx_60]; decide) rfl ?_
  refine sx_pick (lo2 := [(0, .ref 101), (1, .int x1), (2, .int (0 : Int32))]) [2, 1, 0] rfl ?_
  exact l60_37_ok gF x1 (0 : Int32) _ _ h
theorem k58_0 : decode (gb 58) 0 = .ok (.aload_n 0, 1) := by decide +kernel
theorem k58_1 : decode (gb 58) 1 = .ok (.invokevirtual 247, 3) := by decide +kernel
theorem k58_4 : decode (gb 58) 4 = .ok (.tableswitch 243 1 21 #[100, 108, 116, 126, 165, 243, 243, 243, 243, 243, 243, 243, 243, 243, 184, 196, 243, 243, 243, 203, 224], 100) := by decide +kernel
theorem k58_104 : decode (gb 58) 104 = .ok (.aload_n 0, 1) := by decide +kernel
theorem k58_105 : decode (gb 58) 105 = .ok (.iconst 1, 1) := by decide +kernel
theorem k58_106 : decode (gb 58) 106 = .ok (.putfield 89, 3) := by decide +kernel
theorem k58_109 : decode (gb 58) 109 = .ok (.goto 138, 3) := by decide +kernel
theorem k58_112 : decode (gb 58) 112 = .ok (.aload_n 0, 1) := by decide +kernel
theorem k58_113 : decode (gb 58) 113 = .ok (.iconst 0, 1) := by decide +kernel
theorem k58_114 : decode (gb 58) 114 = .ok (.putfield 89, 3) := by decide +kernel
theorem k58_117 : decode (gb 58) 117 = .ok (.goto 130, 3) := by decide +kernel
theorem k58_120 : decode (gb 58) 120 = .ok (.aload_n 0, 1) := by decide +kernel
theorem k58_121 : decode (gb 58) 121 = .ok (.getfield 20, 3) := by decide +kernel
theorem k58_124 : decode (gb 58) 124 = .ok (.invokevirtual 344, 3) := by decide +kernel
theorem k58_127 : decode (gb 58) 127 = .ok (.goto 120, 3) := by decide +kernel
theorem k58_130 : decode (gb 58) 130 = .ok (.aload_n 0, 1) := by decide +kernel
theorem k58_131 : decode (gb 58) 131 = .ok (.getfield 20, 3) := by decide +kernel
theorem k58_134 : decode (gb 58) 134 = .ok (.aload_n 0, 1) := by decide +kernel
theorem k58_135 : decode (gb 58) 135 = .ok (.getfield 35, 3) := by decide +kernel
theorem k58_138 : decode (gb 58) 138 = .ok (.bipush 16, 2) := by decide +kernel
theorem k58_140 : decode (gb 58) 140 = .ok (.aload_n 0, 1) := by decide +kernel
theorem k58_141 : decode (gb 58) 141 = .ok (.getfield 35, 3) := by decide +kernel
theorem k58_144 : decode (gb 58) 144 = .ok (.getfield 109, 3) := by decide +kernel
theorem k58_147 : decode (gb 58) 147 = .ok (.bipush 13, 2) := by decide +kernel
theorem k58_149 : decode (gb 58) 149 = .ok (.isub, 1) := by decide +kernel
theorem k58_150 : decode (gb 58) 150 = .ok (.iconst 5, 1) := by decide +kernel
theorem k58_151 : decode (gb 58) 151 = .ok (.isub, 1) := by decide +kernel
theorem k58_152 : decode (gb 58) 152 = .ok (.aload_n 0, 1) := by decide +kernel
theorem k58_153 : decode (gb 58) 153 = .ok (.iconst 1, 1) := by decide +kernel
theorem k58_154 : decode (gb 58) 154 = .ok (.invokevirtual 180, 3) := by decide +kernel
theorem k58_157 : decode (gb 58) 157 = .ok (.aload_n 0, 1) := by decide +kernel
theorem k58_158 : decode (gb 58) 158 = .ok (.iconst 0, 1) := by decide +kernel
theorem k58_159 : decode (gb 58) 159 = .ok (.invokevirtual 193, 3) := by decide +kernel
theorem k58_162 : decode (gb 58) 162 = .ok (.invokevirtual 112, 3) := by decide +kernel
theorem k58_165 : decode (gb 58) 165 = .ok (.pop, 1) := by decide +kernel
theorem k58_166 : decode (gb 58) 166 = .ok (.goto 81, 3) := by decide +kernel
theorem k58_169 : decode (gb 58) 169 = .ok (.aload_n 0, 1) := by decide +kernel
theorem k58_170 : decode (gb 58) 170 = .ok (.getfield 20, 3) := by decide +kernel
theorem k58_173 : decode (gb 58) 173 = .ok (.aload_n 0, 1) := by decide +kernel
theorem k58_174 : decode (gb 58) 174 = .ok (.aload_n 0, 1) := by decide +kernel
theorem k58_175 : decode (gb 58) 175 = .ok (.iconst 0, 1) := by decide +kernel
theorem k58_176 : decode (gb 58) 176 = .ok (.invokevirtual 262, 3) := by decide +kernel
theorem k58_179 : decode (gb 58) 179 = .ok (.invokevirtual 324, 3) := by decide +kernel
theorem k58_182 : decode (gb 58) 182 = .ok (.invokevirtual 159, 3) := by decide +kernel
theorem k58_185 : decode (gb 58) 185 = .ok (.goto 62, 3) := by decide +kernel
theorem k58_188 : decode (gb 58) 188 = .ok (.aload_n 0, 1) := by decide +kernel
theorem k58_189 : decode (gb 58) 189 = .ok (.aload_n 0, 1) := by decide +kernel
theorem k58_190 : decode (gb 58) 190 = .ok (.iconst 0, 1) := by decide +kernel
theorem k58_191 : decode (gb 58) 191 = .ok (.invokevirtual 180, 3) := by decide +kernel
theorem k58_194 : decode (gb 58) 194 = .ok (.invokevirtual 347, 3) := by decide +kernel
theorem k58_197 : decode (gb 58) 197 = .ok (.goto 50, 3) := by decide +kernel
theorem k58_200 : decode (gb 58) 200 = .ok (.aload_n 0, 1) := by decide +kernel
theorem k58_201 : decode (gb 58) 201 = .ok (.invokevirtual 350, 3) := by decide +kernel
theorem k58_204 : decode (gb 58) 204 = .ok (.goto 43, 3) := by decide +kernel
theorem k58_207 : decode (gb 58) 207 = .ok (.aload_n 0, 1) := by decide +kernel
theorem k58_208 : decode (gb 58) 208 = .ok (.dup, 1) := by decide +kernel
theorem k58_209 : decode (gb 58) 209 = .ok (.getfield 86, 3) := by decide +kernel
theorem k58_212 : decode (gb 58) 212 = .ok (.iconst 1, 1) := by decide +kernel
theorem k58_213 : decode (gb 58) 213 = .ok (.aload_n 0, 1) := by decide +kernel
theorem k58_214 : decode (gb 58) 214 = .ok (.iconst 0, 1) := by decide +kernel
theorem k58_215 : decode (gb 58) 215 = .ok (.invokevirtual 193, 3) := by decide +kernel
theorem k58_218 : decode (gb 58) 218 = .ok (.ishl, 1) := by decide +kernel
theorem k58_219 : decode (gb 58) 219 = .ok (.iconst (-1), 1) := by decide +kernel
theorem k58_220 : decode (gb 58) 220 = .ok (.ixor, 1) := by decide +kernel
theorem k58_221 : decode (gb 58) 221 = .ok (.iand, 1) := by decide +kernel
theorem k58_222 : decode (gb 58) 222 = .ok (.putfield 86, 3) := by decide +kernel
theorem k58_225 : decode (gb 58) 225 = .ok (.goto 22, 3) := by decide +kernel
theorem k58_228 : decode (gb 58) 228 = .ok (.aload_n 0, 1) := by decide +kernel
theorem k58_229 : decode (gb 58) 229 = .ok (.dup, 1) := by decide +kernel
theorem k58_230 : decode (gb 58) 230 = .ok (.getfield 86, 3) := by decide +kernel
theorem k58_233 : decode (gb 58) 233 = .ok (.iconst 1, 1) := by decide +kernel
theorem k58_234 : decode (gb 58) 234 = .ok (.aload_n 0, 1) := by decide +kernel
theorem k58_235 : decode (gb 58) 235 = .ok (.iconst 0, 1) := by decide +kernel
theorem k58_236 : decode (gb 58) 236 = .ok (.invokevirtual 193, 3) := by decide +kernel
theorem k58_239 : decode (gb 58) 239 = .ok (.ishl, 1) := by decide +kernel
theorem k58_240 : decode (gb 58) 240 = .ok (.ior, 1) := by decide +kernel
theorem k58_241 : decode (gb 58) 241 = .ok (.putfield 86, 3) := by decide +kernel
theorem k58_244 : decode (gb 58) 244 = .ok (.goto 3, 3) := by decide +kernel
theorem k58_247 : decode (gb 58) 247 = .ok (.return_, 1) := by decide +kernel
/-- Board.actSchedule()V -/
def f58 (μ : Mem) : Option (Mem) :=
  (f23 μ).bind fun r1 =>
  if r1.2 = (1 : Int32) then
    (pfZ 101 13 (1 : Int32) r1.1).bind fun m3 =>
    some m3
  else if r1.2 = (2 : Int32) then
    (pfZ 101 13 (0 : Int32) r1.1).bind fun m6 =>
    some m6
  else if r1.2 = (3 : Int32) then
    (f163 108 r1.1).bind fun r9 =>
    some r9
  else if r1.2 = (4 : Int32) then
    (f22 (1 : Int32) r1.1).bind fun r12 =>
    (f20 (0 : Int32) r12.1).bind fun r14 =>
    (f161 108 122 (16 : Int32) (((r1.1.1 122 1) - (13 : Int32)) - (5 : Int32)) r12.2 r14.2 r14.1).bind fun r16 =>
    some r16.1
  else if r1.2 = (5 : Int32) then
    (f21 (0 : Int32) r1.1).bind fun r19 =>
    (f57 r19.2 r19.1).bind fun r21 =>
    (f162 108 r21.2 r21.1).bind fun r23 =>
    some r23
  else if r1.2 = (6 : Int32) then
    some r1.1
  else if r1.2 = (7 : Int32) then
    some r1.1
  else if r1.2 = (8 : Int32) then
    some r1.1
  else if r1.2 = (9 : Int32) then
    some r1.1
  else if r1.2 = (10 : Int32) then
    some r1.1
  else if r1.2 = (11 : Int32) then
    some r1.1
  else if r1.2 = (12 : Int32) then
    some r1.1
  else if r1.2 = (13 : Int32) then
    some r1.1
  else if r1.2 = (14 : Int32) then
    some r1.1
  else if r1.2 = (15 : Int32) then
    (f22 (0 : Int32) r1.1).bind fun r35 =>
    (f59 r35.2 r35.1).bind fun r37 =>
    some r37
  else if r1.2 = (16 : Int32) then
    (f60 r1.1).bind fun r40 =>
    some r40
  else if r1.2 = (17 : Int32) then
    some r1.1
  else if r1.2 = (18 : Int32) then
    some r1.1
  else if r1.2 = (19 : Int32) then
    some r1.1
  else if r1.2 = (20 : Int32) then
    (f20 (0 : Int32) r1.1).bind fun r46 =>
    (pfI 101 12 ((r1.1.1 101 12) &&& ((jshl (1 : Int32) r46.2) ^^^ (-1 : Int32))) r46.1).bind fun m48 =>
    some m48
  else if r1.2 = (21 : Int32) then
    (f20 (0 : Int32) r1.1).bind fun r51 =>
    (pfI 101 12 ((r1.1.1 101 12) ||| (jshl (1 : Int32) r51.2)) r51.1).bind fun m53 =>
    some m53
  else 
    some r1.1
theorem ok58 {L : Nat} (μ : Mem) (res : Mem) (h : f58 μ = some res) : Mx 58 [.ref 101] (mk L μ) (mk L res, none) := by
  refine Mx_of ml_58 (by rw [mx_58]; exact Nat.le_of_ble_eq_true rfl) ?_
  show Sx 58 0 [(0, .ref 101)] [] 0 0 (mk L μ) _
  unfold f58 at h
  refine sx_aload_n (i := 0) k58_0 rfl rfl ?_
  obtain ⟨r1, e2, h⟩ := Option.bind_eq_some_iff.mp h
  refine cx_V (sk := []) (vs := []) st_58_23 k58_1 ow_58 cl_1_247 (by decide) rfl (Nat.le_of_ble_eq_true rfl) sk_101 (ok23 _ _ e2) (sk3 := [.int r1.2]) rfl rfl ?_
  by_cases hb5 : r1.2 = (1 : Int32)
  · rw [if_pos hb5] at h
    refine sx_tableIn (off := 100) (tgt := 104) k58_4 (by rw [hb5]; decide) (by rw [hb5]; decide) (by rw [hb5]; rfl) (by decide) ?_
    refine sx_aload_n (i := 0) k58_104 rfl rfl ?_
    refine sx_iconst (v := 1) k58_105 (by decide) ?_
    obtain ⟨m3, e4, h⟩ := Option.bind_eq_some_iff.mp h
    refine cx_putZ (k := 13) k58_106 ow_58 fl_1_89 (by decide) sk_101 nf_0_13 fu_0_13 e4 ?_
    refine sx_goto (tgt := 247) k58_109 (by decide) ?_
    exact cx_retv k58_247 rt_58 h
  · rw [if_neg hb5] at h
    by_cases hb8 : r1.2 = (2 : Int32)
    · rw [if_pos hb8] at h
      refine sx_tableIn (off := 108) (tgt := 112) k58_4 (by rw [hb8]; decide) (by rw [hb8]; decide) (by rw [hb8]; rfl) (by decide) ?_
      refine sx_aload_n (i := 0) k58_112 rfl rfl ?_
      refine sx_iconst (v := 0) k58_113 (by decide) ?_
      obtain ⟨m6, e7, h⟩ := Option.bind_eq_some_iff.mp h
      refine cx_putZ (k := 13) k58_114 ow_58 fl_1_89 (by decide) sk_101 nf_0_13 fu_0_13 e7 ?_
      refine sx_goto (tgt := 247) k58_117 (by decide) ?_
      exact cx_retv k58_247 rt_58 h
    · rw [if_neg hb8] at h
      by_cases hb11 : r1.2 = (3 : Int32)
      · rw [if_pos hb11] at h
        refine sx_tableIn (off := 116) (tgt := 120) k58_4 (by rw [hb11]; decide) (by rw [hb11]; decide) (by rw [hb11]; rfl) (by decide) ?_
        refine sx_aload_n (i := 0) k58_120 rfl rfl ?_
        refine cx_getR (k := 3) k58_121 ow_58 fl_1_20 (by decide) sk_101 ft_0_3 sr_101_3 ?_
        obtain ⟨r9, e10, h⟩ := Option.bind_eq_some_iff.mp h
        refine cx_V (sk := []) (vs := []) st_58_163 k58_124 ow_58 cl_1_344 (by decide) rfl (Nat.le_of_ble_eq_true rfl) sk_108 (ok163 108 sk_108 _ _ e10) (sk3 := []) rfl rfl ?_
        refine sx_goto (tgt := 247) k58_127 (by decide) ?_
        exact cx_retv k58_247 rt_58 h
      · rw [if_neg hb11] at h
        by_cases hb18 : r1.2 = (4 : Int32)
        · rw [if_pos hb18] at h
          refine sx_tableIn (off := 126) (tgt := 130) k58_4 (by rw [hb18]; decide) (by rw [hb18]; decide) (by rw [hb18]; rfl) (by decide) ?_
          refine sx_aload_n (i := 0) k58_130 rfl rfl ?_
          refine cx_getR (k := 3) k58_131 ow_58 fl_1_20 (by decide) sk_101 ft_0_3 sr_101_3 ?_
          refine sx_aload_n (i := 0) k58_134 rfl rfl ?_
          refine cx_getR (k := 6) k58_135 ow_58 fl_1_35 (by decide) sk_101 ft_0_6 sr_101_6 ?_
          refine sx_bipush (v := 16) k58_138 (by decide) ?_
          refine sx_aload_n (i := 0) k58_140 rfl rfl ?_
          refine cx_getR (k := 6) k58_141 ow_58 fl_1_35 (by decide) sk_101 ft_0_6 sr_101_6 ?_
          refine cx_getI (k := 1) k58_144 ow_58 fl_1_109 (by decide) sk_122 ft_1_1 ?_
          refine sx_bipush (v := 13) k58_147 (by decide) ?_
          refine sx_isub k58_149 ?_
          refine sx_iconst (v := 5) k58_150 (by decide) ?_
          refine sx_isub k58_151 ?_
          refine sx_aload_n (i := 0) k58_152 rfl rfl ?_
          refine sx_iconst (v := 1) k58_153 (by decide) ?_
          obtain ⟨r12, e13, h⟩ := Option.bind_eq_some_iff.mp h
          refine cx_V (sk := [.int (((r1.1.1 122 1) - (13 : Int32)) - (5 : Int32)), .int (16 : Int32), .ref 122, .ref 108]) (vs := [.int (1 : Int32)]) st_58_22 k58_154 ow_58 cl_1_180 (by decide) rfl (Nat.le_of_ble_eq_true rfl) sk_101 (ok22 (1 : Int32) _ _ e13) (sk3 := [.int r12.2, .int (((r1.1.1 122 1) - (13 : Int32)) - (5 : Int32)), .int (16 : Int32), .ref 122, .ref 108]) rfl rfl ?_
          refine sx_aload_n (i := 0) k58_157 rfl rfl ?_
          refine sx_iconst (v := 0) k58_158 (by decide) ?_
          obtain ⟨r14, e15, h⟩ := Option.bind_eq_some_iff.mp h
          refine cx_V (sk := [.int r12.2, .int (((r1.1.1 122 1) - (13 : Int32)) - (5 : Int32)), .int (16 : Int32), .ref 122, .ref 108]) (vs := [.int (0 : Int32)]) st_58_20 k58_159 ow_58 cl_1_193 (by decide) rfl (Nat.le_of_ble_eq_true rfl) sk_101 (ok20 (0 : Int32) _ _ e15) (sk3 := [.int r14.2, .int r12.2, .int (((r1.1.1 122 1) - (13 : Int32)) - (5 : Int32)), .int (16 : Int32), .ref 122, .ref 108]) rfl rfl ?_
          obtain ⟨r16, e17, h⟩ := Option.bind_eq_some_iff.mp h
          refine cx_V (sk := []) (vs := [.ref 122, .int (16 : Int32), .int (((r1.1.1 122 1) - (13 : Int32)) - (5 : Int32)), .int r12.2, .int r14.2]) st_58_161 k58_162 ow_58 cl_1_112 (by decide) rfl (Nat.le_of_ble_eq_true rfl) sk_108 (ok161 108 122 (16 : Int32) (((r1.1.1 122 1) - (13 : Int32)) - (5 : Int32)) r12.2 r14.2 sk_108 sk_122 _ _ e17) (sk3 := [.int r16.2]) rfl rfl ?_
          refine sx_pop k58_165 rfl ?_
          refine sx_goto (tgt := 247) k58_166 (by decide) ?_
          exact cx_retv k58_247 rt_58 h
        · rw [if_neg hb18] at h
          by_cases hb25 : r1.2 = (5 : Int32)
          · rw [if_pos hb25] at h
            refine sx_tableIn (off := 165) (tgt := 169) k58_4 (by rw [hb25]; decide) (by rw [hb25]; decide) (by rw [hb25]; rfl) (by decide) ?_
            refine sx_aload_n (i := 0) k58_169 rfl rfl ?_
            refine cx_getR (k := 3) k58_170 ow_58 fl_1_20 (by decide) sk_101 ft_0_3 sr_101_3 ?_
            refine sx_aload_n (i := 0) k58_173 rfl rfl ?_
            refine sx_aload_n (i := 0) k58_174 rfl rfl ?_
            refine sx_iconst (v := 0) k58_175 (by decide) ?_
            obtain ⟨r19, e20, h⟩ := Option.bind_eq_some_iff.mp h
            refine cx_V (sk := [.ref 101, .ref 108]) (vs := [.int (0 : Int32)]) st_58_21 k58_176 ow_58 cl_1_262 (by decide) rfl (Nat.le_of_ble_eq_true rfl) sk_101 (ok21 (0 : Int32) _ _ e20) (sk3 := [.int r19.2, .ref 101, .ref 108]) rfl rfl ?_
            obtain ⟨r21, e22, h⟩ := Option.bind_eq_some_iff.mp h
            refine cx_V (sk := [.ref 108]) (vs := [.int r19.2]) st_58_57 k58_179 ow_58 cl_1_324 (by decide) rfl (Nat.le_of_ble_eq_true rfl) sk_101 (ok57 r19.2 _ _ e22) (sk3 := [.int r21.2, .ref 108]) rfl rfl ?_
            obtain ⟨r23, e24, h⟩ := Option.bind_eq_some_iff.mp h
            refine cx_V (sk := []) (vs := [.int r21.2]) st_58_162 k58_182 ow_58 cl_1_159 (by decide) rfl (Nat.le_of_ble_eq_true rfl) sk_108 (ok162 108 r21.2 sk_108 _ _ e24) (sk3 := []) rfl rfl ?_
            refine sx_goto (tgt := 247) k58_185 (by decide) ?_
            exact cx_retv k58_247 rt_58 h
          · rw [if_neg hb25] at h
            by_cases hb26 : r1.2 = (6 : Int32)
            · rw [if_pos hb26] at h
              refine sx_tableIn (off := 243) (tgt := 247) k58_4 (by rw [hb26]; decide) (by rw [hb26]; decide) (by rw [hb26]; rfl) (by decide) ?_
              exact cx_retv k58_247 rt_58 h
            · rw [if_neg hb26] at h
              by_cases hb27 : r1.2 = (7 : Int32)
              · rw [if_pos hb27] at h
                refine sx_tableIn (off := 243) (tgt := 247) k58_4 (by rw [hb27]; decide) (by rw [hb27]; decide) (by rw [hb27]; rfl) (by decide) ?_
                exact cx_retv k58_247 rt_58 h
              · rw [if_neg hb27] at h
                by_cases hb28 : r1.2 = (8 : Int32)
                · rw [if_pos hb28] at h
                  refine sx_tableIn (off := 243) (tgt := 247) k58_4 (by rw [hb28]; decide) (by rw [hb28]; decide) (by rw [hb28]; rfl) (by decide) ?_
                  exact cx_retv k58_247 rt_58 h
                · rw [if_neg hb28] at h
                  by_cases hb29 : r1.2 = (9 : Int32)
                  · rw [if_pos hb29] at h
                    refine sx_tableIn (off := 243) (tgt := 247) k58_4 (by rw [hb29]; decide) (by rw [hb29]; decide) (by rw [hb29]; rfl) (by decide) ?_
                    exact cx_retv k58_247 rt_58 h
                  · rw [if_neg hb29] at h
                    by_cases hb30 : r1.2 = (10 : Int32)
                    · rw [if_pos hb30] at h
                      refine sx_tableIn (off := 243) (tgt := 247) k58_4 (by rw [hb30]; decide) (by rw [hb30]; decide) (by rw [hb30]; rfl) (by decide) ?_
                      exact cx_retv k58_247 rt_58 h
                    · rw [if_neg hb30] at h
                      by_cases hb31 : r1.2 = (11 : Int32)
                      · rw [if_pos hb31] at h
                        refine sx_tableIn (off := 243) (tgt := 247) k58_4 (by rw [hb31]; decide) (by rw [hb31]; decide) (by rw [hb31]; rfl) (by decide) ?_
                        exact cx_retv k58_247 rt_58 h
                      · rw [if_neg hb31] at h
                        by_cases hb32 : r1.2 = (12 : Int32)
                        · rw [if_pos hb32] at h
                          refine sx_tableIn (off := 243) (tgt := 247) k58_4 (by rw [hb32]; decide) (by rw [hb32]; decide) (by rw [hb32]; rfl) (by decide) ?_
                          exact cx_retv k58_247 rt_58 h
                        · rw [if_neg hb32] at h
                          by_cases hb33 : r1.2 = (13 : Int32)
                          · rw [if_pos hb33] at h
                            refine sx_tableIn (off := 243) (tgt := 247) k58_4 (by rw [hb33]; decide) (by rw [hb33]; decide) (by rw [hb33]; rfl) (by decide) ?_
                            exact cx_retv k58_247 rt_58 h
                          · rw [if_neg hb33] at h
                            by_cases hb34 : r1.2 = (14 : Int32)
                            · rw [if_pos hb34] at h
                              refine sx_tableIn (off := 243) (tgt := 247) k58_4 (by rw [hb34]; decide) (by rw [hb34]; decide) (by rw [hb34]; rfl) (by decide) ?_
                              exact cx_retv k58_247 rt_58 h
                            · rw [if_neg hb34] at h
                              by_cases hb39 : r1.2 = (15 : Int32)
                              · rw [if_pos hb39] at h
                                refine sx_tableIn (off := 184) (tgt := 188) k58_4 (by rw [hb39]; decide) (by rw [hb39]; decide) (by rw [hb39]; rfl) (by decide) ?_
                                refine sx_aload_n (i := 0) k58_188 rfl rfl ?_
                                refine sx_aload_n (i := 0) k58_189 rfl rfl ?_
                                refine sx_iconst (v := 0) k58_190 (by decide) ?_
                                obtain ⟨r35, e36, h⟩ := Option.bind_eq_some_iff.mp h
                                refine cx_V (sk := [.ref 101]) (vs := [.int (0 : Int32)]) st_58_22 k58_191 ow_58 cl_1_180 (by decide) rfl (Nat.le_of_ble_eq_true rfl) sk_101 (ok22 (0 : Int32) _ _ e36) (sk3 := [.int r35.2, .ref 101]) rfl rfl ?_
                                obtain ⟨r37, e38, h⟩ := Option.bind_eq_some_iff.mp h
                                refine cx_V (sk := []) (vs := [.int r35.2]) st_58_59 k58_194 ow_58 cl_1_347 (by decide) rfl (Nat.le_of_ble_eq_true rfl) sk_101 (ok59 r35.2 _ _ e38) (sk3 := []) rfl rfl ?_
                                refine sx_goto (tgt := 247) k58_197 (by decide) ?_
                                exact cx_retv k58_247 rt_58 h
                              · rw [if_neg hb39] at h
                                by_cases hb42 : r1.2 = (16 : Int32)
                                · rw [if_pos hb42] at h
                                  refine sx_tableIn (off := 196) (tgt := 200) k58_4 (by rw [hb42]; decide) (by rw [hb42]; decide) (by rw [hb42]; rfl) (by decide) ?_
                                  refine sx_aload_n (i := 0) k58_200 rfl rfl ?_
                                  obtain ⟨r40, e41, h⟩ := Option.bind_eq_some_iff.mp h
                                  refine cx_V (sk := []) (vs := []) st_58_60 k58_201 ow_58 cl_1_350 (by decide) rfl (Nat.le_of_ble_eq_true rfl) sk_101 (ok60 _ _ e41) (sk3 := []) rfl rfl ?_
                                  refine sx_goto (tgt := 247) k58_204 (by decide) ?_
                                  exact cx_retv k58_247 rt_58 h
                                · rw [if_neg hb42] at h
                                  by_cases hb43 : r1.2 = (17 : Int32)
                                  · rw [if_pos hb43] at h
                                    refine sx_tableIn (off := 243) (tgt := 247) k58_4 (by rw [hb43]; decide) (by rw [hb43]; decide) (by rw [hb43]; rfl) (by decide) ?_
                                    exact cx_retv k58_247 rt_58 h
                                  · rw [if_neg hb43] at h
                                    by_cases hb44 : r1.2 = (18 : Int32)
                                    · rw [if_pos hb44] at h
                                      refine sx_tableIn (off := 243) (tgt := 247) k58_4 (by rw [hb44]; decide) (by rw [hb44]; decide) (by rw [hb44]; rfl) (by decide) ?_
                                      exact cx_retv k58_247 rt_58 h
                                    · rw [if_neg hb44] at h
                                      by_cases hb45 : r1.2 = (19 : Int32)
                                      · rw [if_pos hb45] at h
                                        refine sx_tableIn (off := 243) (tgt := 247) k58_4 (by rw [hb45]; decide) (by rw [hb45]; decide) (by rw [hb45]; rfl) (by decide) ?_
                                        exact cx_retv k58_247 rt_58 h
                                      · rw [if_neg hb45] at h
                                        by_cases hb50 : r1.2 = (20 : Int32)
                                        · rw [if_pos hb50] at h
                                          refine sx_tableIn (off := 203) (tgt := 207) k58_4 (by rw [hb50]; decide) (by rw [hb50]; decide) (by rw [hb50]; rfl) (by decide) ?_
                                          refine sx_aload_n (i := 0) k58_207 rfl rfl ?_
                                          refine sx_dup k58_208 rfl ?_
                                          refine cx_getI (k := 12) k58_209 ow_58 fl_1_86 (by decide) sk_101 ft_0_12 ?_
                                          refine sx_iconst (v := 1) k58_212 (by decide) ?_
                                          refine sx_aload_n (i := 0) k58_213 rfl rfl ?_
                                          refine sx_iconst (v := 0) k58_214 (by decide) ?_
                                          obtain ⟨r46, e47, h⟩ := Option.bind_eq_some_iff.mp h
                                          refine cx_V (sk := [.int (1 : Int32), .int (r1.1.1 101 12), .ref 101]) (vs := [.int (0 : Int32)]) st_58_20 k58_215 ow_58 cl_1_193 (by decide) rfl (Nat.le_of_ble_eq_true rfl) sk_101 (ok20 (0 : Int32) _ _ e47) (sk3 := [.int r46.2, .int (1 : Int32), .int (r1.1.1 101 12), .ref 101]) rfl rfl ?_
                                          refine sx_ishl k58_218 ?_
                                          refine sx_iconst (v := -1) k58_219 (by decide) ?_
                                          refine sx_ixor k58_220 ?_
                                          refine sx_iand k58_221 ?_
                                          obtain ⟨m48, e49, h⟩ := Option.bind_eq_some_iff.mp h
                                          refine cx_putI (k := 12) k58_222 ow_58 fl_1_86 (by decide) sk_101 nf_0_12 fu_0_12 e49 ?_
                                          refine sx_goto (tgt := 247) k58_225 (by decide) ?_
                                          exact cx_retv k58_247 rt_58 h
                                        · rw [if_neg hb50] at h
                                          by_cases hb55 : r1.2 = (21 : Int32)
                                          · rw [if_pos hb55] at h
                                            refine sx_tableIn (off := 224) (tgt := 228) k58_4 (by rw [hb55]; decide) (by rw [hb55]; decide) (by rw [hb55]; rfl) (by decide) ?_
                                            refine sx_aload_n (i := 0) k58_228 rfl rfl ?_
                                            refine sx_dup k58_229 rfl ?_
                                            refine cx_getI (k := 12) k58_230 ow_58 fl_1_86 (by decide) sk_101 ft_0_12 ?_
                                            refine sx_iconst (v := 1) k58_233 (by decide) ?_
                                            refine sx_aload_n (i := 0) k58_234 rfl rfl ?_
                                            refine sx_iconst (v := 0) k58_235 (by decide) ?_
                                            obtain ⟨r51, e52, h⟩ := Option.bind_eq_some_iff.mp h
                                            refine cx_V (sk := [.int (1 : Int32), .int (r1.1.1 101 12), .ref 101]) (vs := [.int (0 : Int32)]) st_58_20 k58_236 ow_58 cl_1_193 (by decide) rfl (Nat.le_of_ble_eq_true rfl) sk_101 (ok20 (0 : Int32) _ _ e52) (sk3 := [.int r51.2, .int (1 : Int32), .int (r1.1.1 101 12), .ref 101]) rfl rfl ?_
                                            refine sx_ishl k58_239 ?_
                                            refine sx_ior k58_240 ?_
                                            obtain ⟨m53, e54, h⟩ := Option.bind_eq_some_iff.mp h
                                            refine cx_putI (k := 12) k58_241 ow_58 fl_1_86 (by decide) sk_101 nf_0_12 fu_0_12 e54 ?_
                                            refine sx_goto (tgt := 247) k58_244 (by decide) ?_
                                            exact cx_retv k58_247 rt_58 h
                                          · rw [if_neg hb55] at h
                                            refine sx_tableOut (tgt := 247) k58_4 (sw_out (n := 21) (fun j hj => ?_)) (by decide) ?_
                                            · intro hj2
                                              exact sw_no [(1 : Int32), (2 : Int32), (3 : Int32), (4 : Int32), (5 : Int32), (6 : Int32), (7 : Int32), (8 : Int32), (9 : Int32), (10 : Int32), (11 : Int32), (12 : Int32), (13 : Int32), (14 : Int32), (15 : Int32), (16 : Int32), (17 : Int32), (18 : Int32), (19 : Int32), (20 : Int32), (21 : Int32)] (by decide) hj hj2 ⟨hb5, hb8, hb11, hb18, hb25, hb26, hb27, hb28, hb29, hb30, hb31, hb32, hb33, hb34, hb39, hb42, hb43, hb44, hb45, hb50, hb55, trivial⟩
                                            ·
                                              exact cx_retv k58_247 rt_58 h
theorem k47_0 : decode (gb 47) 0 = .ok (.aload_n 0, 1) := by decide +kernel
theorem k47_1 : decode (gb 47) 1 = .ok (.getfield 51, 3) := by decide +kernel
theorem k47_4 : decode (gb 47) 4 = .ok (.bipush 12, 2) := by decide +kernel
theorem k47_6 : decode (gb 47) 6 = .ok (.bipush 14, 2) := by decide +kernel
theorem k47_8 : decode (gb 47) 8 = .ok (.invokevirtual 116, 3) := by decide +kernel
theorem k47_11 : decode (gb 47) 11 = .ok (.iconst 0, 1) := by decide +kernel
theorem k47_12 : decode (gb 47) 12 = .ok (.istore_n 1, 1) := by decide +kernel
theorem k47_13 : decode (gb 47) 13 = .ok (.iload_n 1, 1) := by decide +kernel
theorem k47_14 : decode (gb 47) 14 = .ok (.bipush 6, 2) := by decide +kernel
theorem k47_16 : decode (gb 47) 16 = .ok (.if_icmp .ge 30, 3) := by decide +kernel
theorem k47_19 : decode (gb 47) 19 = .ok (.aload_n 0, 1) := by decide +kernel
theorem k47_20 : decode (gb 47) 20 = .ok (.getfield 51, 3) := by decide +kernel
theorem k47_23 : decode (gb 47) 23 = .ok (.getfield 119, 3) := by decide +kernel
theorem k47_26 : decode (gb 47) 26 = .ok (.aload_n 0, 1) := by decide +kernel
theorem k47_27 : decode (gb 47) 27 = .ok (.getfield 45, 3) := by decide +kernel
theorem k47_30 : decode (gb 47) 30 = .ok (.iload_n 1, 1) := by decide +kernel
theorem k47_31 : decode (gb 47) 31 = .ok (.bipush 8, 2) := by decide +kernel
theorem k47_33 : decode (gb 47) 33 = .ok (.imul, 1) := by decide +kernel
theorem k47_34 : decode (gb 47) 34 = .ok (.iconst 0, 1) := by decide +kernel
theorem k47_35 : decode (gb 47) 35 = .ok (.iadd, 1) := by decide +kernel
theorem k47_36 : decode (gb 47) 36 = .ok (.iaload, 1) := by decide +kernel
theorem k47_37 : decode (gb 47) 37 = .ok (.invokevirtual 122, 3) := by decide +kernel
theorem k47_40 : decode (gb 47) 40 = .ok (.iinc 1 1, 3) := by decide +kernel
theorem k47_43 : decode (gb 47) 43 = .ok (.goto (-30), 3) := by decide +kernel
theorem k47_46 : decode (gb 47) 46 = .ok (.return_, 1) := by decide +kernel
def b47_13 (kl13 : Int32 → Mem → Option (Mem)) (v1 : Int32) (μ : Mem) : Option (Mem) :=
  if (6 : Int32) ≤ v1 then
    some μ
  else
    (ldA 126 ((v1 * (8 : Int32)) + (0 : Int32)) μ).bind fun x2 =>
    (f65 87 x2 μ).bind fun r4 =>
    nm (v1 + (1 : Int32)) fun x6 =>
    kl13 x6 r4
theorem b47_13_ok {L : Nat} (kl13 : Int32 → Mem → Option (Mem)) (hk13 : (∀ (v1 : Int32) (μ : Mem) (res : Mem), kl13 v1 μ = some res → Sx 47 13 [(0, .ref 101), (1, .int v1)] [] 0 0 (mk L μ) (mk L res, none))) (v1 : Int32) (μ : Mem) (res : Mem) (h : b47_13 kl13 v1 μ = some res) : Sx 47 13 [(0, .ref 101), (1, .int v1)] [] 0 0 (mk L μ) (mk L res, none) := by
  unfold b47_13 at h
  refine sx_iload_n (i := 1) k47_13 rfl rfl ?_
  refine sx_bipush (v := 6) k47_14 (by decide) ?_
  by_cases hb1 : (6 : Int32) ≤ v1
  · rw [if_pos hb1] at h
    refine sx_icmp_ge (tgt := 46) k47_16 (by decide) (fun _ => ?_) (fun q => absurd hb1 q)
    exact cx_retv k47_46 rt_47 h
  · rw [if_neg hb1] at h
    refine sx_icmp_ge (tgt := 46) k47_16 (by decide) (fun q => absurd q hb1) (fun _ => ?_)
    refine sx_aload_n (i := 0) k47_19 rfl rfl ?_
    refine cx_getR (k := 0) k47_20 ow_47 fl_1_51 (by decide) sk_101 ft_0_0 sr_101_0 ?_
    refine cx_getR (k := 5) k47_23 ow_47 fl_1_119 (by decide) sk_57 ft_5_5 sr_57_5 ?_
    refine sx_aload_n (i := 0) k47_26 rfl rfl ?_
    refine cx_getR (k := 9) k47_27 ow_47 fl_1_45 (by decide) sk_101 ft_0_9 sr_101_9 ?_
    refine sx_iload_n (i := 1) k47_30 rfl rfl ?_
    refine sx_bipush (v := 8) k47_31 (by decide) ?_
    refine sx_imul k47_33 ?_
    refine sx_iconst (v := 0) k47_34 (by decide) ?_
    refine sx_iadd k47_35 ?_
    obtain ⟨x2, e3, h⟩ := Option.bind_eq_some_iff.mp h
    refine cx_iald k47_36 sk_126 e3 ?_
    obtain ⟨r4, e5, h⟩ := Option.bind_eq_some_iff.mp h
    refine cx_V (sk := []) (vs := [.int x2]) st_47_65 k47_37 ow_47 cl_1_122 (by decide) rfl (Nat.le_of_ble_eq_true rfl) sk_87 (ok65 87 x2 sk_87 _ _ e5) (sk3 := []) rfl rfl ?_
    refine cx_iinc (c := 1) (lo2 := fun x6 => [(1, .int x6), (0, .ref 101)]) k47_40 rfl (by decide) (by rw [mx_47]; decide) (fun _ => rfl) h (fun x6 h => ?_)
    refine sx_goto (tgt := 13) k47_43 (by decide) ?_
    refine sx_pick (lo2 := [(0, .ref 101), (1, .int x6)]) [1, 0] rfl ?_
    exact hk13 x6 _ _ h
def l47_13 : Nat → Int32 × Mem → Option (Mem) :=
  fixN (fun self x => b47_13 (fun v1 μ => self (v1, μ)) (x.1) (x.2))
theorem l47_13_ok {L : Nat} (n : Nat) (v1 : Int32) (μ : Mem) (res : Mem) (h : l47_13 n (v1, μ) = some res) : Sx 47 13 [(0, .ref 101), (1, .int v1)] [] 0 0 (mk L μ) (mk L res, none) := by
  have key := fixN_ind (P := fun x res => Sx 47 13 [(0, .ref 101), (1, .int (x.1))] [] 0 0 (mk L (x.2)) (mk L res, none)) (F := fun self x => b47_13 (fun v1 μ => self (v1, μ)) (x.1) (x.2)) (fun self hself x res h => b47_13_ok (fun v1 μ => self (v1, μ)) (fun v1 μ res hh => hself (v1, μ) res hh) (x.1) (x.2) res h) n (v1, μ) res h
  exact key
/-- Board.beginWatchReport()V -/
def f47 (μ : Mem) : Option (Mem) :=
  (f117 (12 : Int32) (14 : Int32) μ).bind fun r1 =>
  l47_13 gF ((0 : Int32), r1)
theorem ok47 {L : Nat} (μ : Mem) (res : Mem) (h : f47 μ = some res) : Mx 47 [.ref 101] (mk L μ) (mk L res, none) := by
  refine Mx_of ml_47 (by rw [mx_47]; exact Nat.le_of_ble_eq_true rfl) ?_
  show Sx 47 0 [(0, .ref 101)] [] 0 0 (mk L μ) _
  unfold f47 at h
  refine sx_aload_n (i := 0) k47_0 rfl rfl ?_
  refine cx_getR (k := 0) k47_1 ow_47 fl_1_51 (by decide) sk_101 ft_0_0 sr_101_0 ?_
  refine sx_bipush (v := 12) k47_4 (by decide) ?_
  refine sx_bipush (v := 14) k47_6 (by decide) ?_
  obtain ⟨r1, e2, h⟩ := Option.bind_eq_some_iff.mp h
  refine cx_V (sk := []) (vs := [.int (12 : Int32), .int (14 : Int32)]) st_47_117 k47_8 ow_47 cl_1_116 (by decide) rfl (Nat.le_of_ble_eq_true rfl) sk_57 (ok117 (12 : Int32) (14 : Int32) _ _ e2) (sk3 := []) rfl rfl ?_
  refine sx_iconst (v := 0) k47_11 (by decide) ?_
  refine cx_istore_n (lo2 := [(1, .int (0 : Int32)), (0, .ref 101)]) k47_12 rfl (by rw [mx_47]; decide) rfl ?_
  refine sx_pick (lo2 := [(0, .ref 101), (1, .int (0 : Int32))]) [1, 0] rfl ?_
  exact l47_13_ok gF (0 : Int32) _ _ h
theorem k46_0 : decode (gb 46) 0 = .ok (.iload_n 1, 1) := by decide +kernel
theorem k46_1 : decode (gb 46) 1 = .ok (.ifCond .lt 15, 3) := by decide +kernel
theorem k46_4 : decode (gb 46) 4 = .ok (.iload_n 1, 1) := by decide +kernel
theorem k46_5 : decode (gb 46) 5 = .ok (.bipush 8, 2) := by decide +kernel
theorem k46_7 : decode (gb 46) 7 = .ok (.iadd, 1) := by decide +kernel
theorem k46_8 : decode (gb 46) 8 = .ok (.aload_n 0, 1) := by decide +kernel
theorem k46_9 : decode (gb 46) 9 = .ok (.getfield 45, 3) := by decide +kernel
theorem k46_12 : decode (gb 46) 12 = .ok (.arraylength, 1) := by decide +kernel
theorem k46_13 : decode (gb 46) 13 = .ok (.if_icmp .le 4, 3) := by decide +kernel
theorem k46_16 : decode (gb 46) 16 = .ok (.return_, 1) := by decide +kernel
theorem k46_17 : decode (gb 46) 17 = .ok (.aload_n 0, 1) := by decide +kernel
theorem k46_18 : decode (gb 46) 18 = .ok (.getfield 45, 3) := by decide +kernel
theorem k46_21 : decode (gb 46) 21 = .ok (.iload_n 1, 1) := by decide +kernel
theorem k46_22 : decode (gb 46) 22 = .ok (.iconst 0, 1) := by decide +kernel
theorem k46_23 : decode (gb 46) 23 = .ok (.iadd, 1) := by decide +kernel
theorem k46_24 : decode (gb 46) 24 = .ok (.iconst 1, 1) := by decide +kernel
theorem k46_25 : decode (gb 46) 25 = .ok (.iastore, 1) := by decide +kernel
theorem k46_26 : decode (gb 46) 26 = .ok (.aload_n 0, 1) := by decide +kernel
theorem k46_27 : decode (gb 46) 27 = .ok (.getfield 45, 3) := by decide +kernel
theorem k46_30 : decode (gb 46) 30 = .ok (.iload_n 1, 1) := by decide +kernel
theorem k46_31 : decode (gb 46) 31 = .ok (.iconst 1, 1) := by decide +kernel
theorem k46_32 : decode (gb 46) 32 = .ok (.iadd, 1) := by decide +kernel
theorem k46_33 : decode (gb 46) 33 = .ok (.aload_n 0, 1) := by decide +kernel
theorem k46_34 : decode (gb 46) 34 = .ok (.iconst 1, 1) := by decide +kernel
theorem k46_35 : decode (gb 46) 35 = .ok (.invokevirtual 193, 3) := by decide +kernel
theorem k46_38 : decode (gb 46) 38 = .ok (.iastore, 1) := by decide +kernel
theorem k46_39 : decode (gb 46) 39 = .ok (.aload_n 0, 1) := by decide +kernel
theorem k46_40 : decode (gb 46) 40 = .ok (.getfield 45, 3) := by decide +kernel
theorem k46_43 : decode (gb 46) 43 = .ok (.iload_n 1, 1) := by decide +kernel
theorem k46_44 : decode (gb 46) 44 = .ok (.iconst 2, 1) := by decide +kernel
theorem k46_45 : decode (gb 46) 45 = .ok (.iadd, 1) := by decide +kernel
theorem k46_46 : decode (gb 46) 46 = .ok (.aload_n 0, 1) := by decide +kernel
theorem k46_47 : decode (gb 46) 47 = .ok (.iconst 2, 1) := by decide +kernel
theorem k46_48 : decode (gb 46) 48 = .ok (.invokevirtual 180, 3) := by decide +kernel
theorem k46_51 : decode (gb 46) 51 = .ok (.iastore, 1) := by decide +kernel
theorem k46_52 : decode (gb 46) 52 = .ok (.aload_n 0, 1) := by decide +kernel
theorem k46_53 : decode (gb 46) 53 = .ok (.getfield 45, 3) := by decide +kernel
theorem k46_56 : decode (gb 46) 56 = .ok (.iload_n 1, 1) := by decide +kernel
theorem k46_57 : decode (gb 46) 57 = .ok (.iconst 3, 1) := by decide +kernel
theorem k46_58 : decode (gb 46) 58 = .ok (.iadd, 1) := by decide +kernel
theorem k46_59 : decode (gb 46) 59 = .ok (.aload_n 0, 1) := by decide +kernel
theorem k46_60 : decode (gb 46) 60 = .ok (.bipush 6, 2) := by decide +kernel
theorem k46_62 : decode (gb 46) 62 = .ok (.invokevirtual 180, 3) := by decide +kernel
theorem k46_65 : decode (gb 46) 65 = .ok (.iastore, 1) := by decide +kernel
theorem k46_66 : decode (gb 46) 66 = .ok (.aload_n 0, 1) := by decide +kernel
theorem k46_67 : decode (gb 46) 67 = .ok (.getfield 45, 3) := by decide +kernel
theorem k46_70 : decode (gb 46) 70 = .ok (.iload_n 1, 1) := by decide +kernel
theorem k46_71 : decode (gb 46) 71 = .ok (.iconst 4, 1) := by decide +kernel
theorem k46_72 : decode (gb 46) 72 = .ok (.iadd, 1) := by decide +kernel
theorem k46_73 : decode (gb 46) 73 = .ok (.aload_n 0, 1) := by decide +kernel
theorem k46_74 : decode (gb 46) 74 = .ok (.bipush 10, 2) := by decide +kernel
theorem k46_76 : decode (gb 46) 76 = .ok (.invokevirtual 193, 3) := by decide +kernel
theorem k46_79 : decode (gb 46) 79 = .ok (.iastore, 1) := by decide +kernel
theorem k46_80 : decode (gb 46) 80 = .ok (.aload_n 0, 1) := by decide +kernel
theorem k46_81 : decode (gb 46) 81 = .ok (.getfield 45, 3) := by decide +kernel
theorem k46_84 : decode (gb 46) 84 = .ok (.iload_n 1, 1) := by decide +kernel
theorem k46_85 : decode (gb 46) 85 = .ok (.iconst 5, 1) := by decide +kernel
theorem k46_86 : decode (gb 46) 86 = .ok (.iadd, 1) := by decide +kernel
theorem k46_87 : decode (gb 46) 87 = .ok (.aload_n 0, 1) := by decide +kernel
theorem k46_88 : decode (gb 46) 88 = .ok (.bipush 11, 2) := by decide +kernel
theorem k46_90 : decode (gb 46) 90 = .ok (.invokevirtual 193, 3) := by decide +kernel
theorem k46_93 : decode (gb 46) 93 = .ok (.iastore, 1) := by decide +kernel
theorem k46_94 : decode (gb 46) 94 = .ok (.return_, 1) := by decide +kernel
/-- Board.defineWatch(I)V -/
def f46 (p1 : Int32) (μ : Mem) : Option (Mem) :=
  if p1 < 0 then
    some μ
  else
    if (p1 + (8 : Int32)) ≤ (nI (gln 126)) then
      (stA 126 (p1 + (0 : Int32)) (1 : Int32) μ).bind fun m3 =>
      (f20 (1 : Int32) m3).bind fun r5 =>
      (stA 126 (p1 + (1 : Int32)) r5.2 r5.1).bind fun m7 =>
      (f22 (2 : Int32) m7).bind fun r9 =>
      (stA 126 (p1 + (2 : Int32)) r9.2 r9.1).bind fun m11 =>
      (f22 (6 : Int32) m11).bind fun r13 =>
      (stA 126 (p1 + (3 : Int32)) r13.2 r13.1).bind fun m15 =>
      (f20 (10 : Int32) m15).bind fun r17 =>
      (stA 126 (p1 + (4 : Int32)) r17.2 r17.1).bind fun m19 =>
      (f20 (11 : Int32) m19).bind fun r21 =>
      (stA 126 (p1 + (5 : Int32)) r21.2 r21.1).bind fun m23 =>
      some m23
    else
      some μ
theorem ok46 {L : Nat} (p1 : Int32) (μ : Mem) (res : Mem) (h : f46 p1 μ = some res) : Mx 46 [.ref 101, .int p1] (mk L μ) (mk L res, none) := by
  refine Mx_of ml_46 (by rw [mx_46]; exact Nat.le_of_ble_eq_true rfl) ?_
  show Sx 46 0 [(0, .ref 101), (1, .int p1)] [] 0 0 (mk L μ) _
  unfold f46 at h
  refine sx_iload_n (i := 1) k46_0 rfl rfl ?_
  by_cases hb1 : p1 < 0
  · rw [if_pos hb1] at h
    refine sx_if_lt (tgt := 16) k46_1 (by decide) (fun _ => ?_) (fun q => absurd hb1 q)
    exact cx_retv k46_16 rt_46 h
  · rw [if_neg hb1] at h
    refine sx_if_lt (tgt := 16) k46_1 (by decide) (fun q => absurd q hb1) (fun _ => ?_)
    refine sx_iload_n (i := 1) k46_4 rfl rfl ?_
    refine sx_bipush (v := 8) k46_5 (by decide) ?_
    refine sx_iadd k46_7 ?_
    refine sx_aload_n (i := 0) k46_8 rfl rfl ?_
    refine cx_getR (k := 9) k46_9 ow_46 fl_1_45 (by decide) sk_101 ft_0_9 sr_101_9 ?_
    refine cx_alen (t := 0) k46_12 (by decide) sk_126 ?_
    by_cases hb2 : (p1 + (8 : Int32)) ≤ (nI (gln 126))
    · rw [if_pos hb2] at h
      refine sx_icmp_le (tgt := 17) k46_13 (by decide) (fun _ => ?_) (fun q => absurd hb2 q)
      refine sx_aload_n (i := 0) k46_17 rfl rfl ?_
      refine cx_getR (k := 9) k46_18 ow_46 fl_1_45 (by decide) sk_101 ft_0_9 sr_101_9 ?_
      refine sx_iload_n (i := 1) k46_21 rfl rfl ?_
      refine sx_iconst (v := 0) k46_22 (by decide) ?_
      refine sx_iadd k46_23 ?_
      refine sx_iconst (v := 1) k46_24 (by decide) ?_
      obtain ⟨m3, e4, h⟩ := Option.bind_eq_some_iff.mp h
      refine cx_iast k46_25 sk_126 e4 ?_
      refine sx_aload_n (i := 0) k46_26 rfl rfl ?_
      refine cx_getR (k := 9) k46_27 ow_46 fl_1_45 (by decide) sk_101 ft_0_9 sr_101_9 ?_
      refine sx_iload_n (i := 1) k46_30 rfl rfl ?_
      refine sx_iconst (v := 1) k46_31 (by decide) ?_
      refine sx_iadd k46_32 ?_
      refine sx_aload_n (i := 0) k46_33 rfl rfl ?_
      refine sx_iconst (v := 1) k46_34 (by decide) ?_
      obtain ⟨r5, e6, h⟩ := Option.bind_eq_some_iff.mp h
      refine cx_V (sk := [.int (p1 + (1 : Int32)), .ref 126]) (vs := [.int (1 : Int32)]) st_46_20 k46_35 ow_46 cl_1_193 (by decide) rfl (Nat.le_of_ble_eq_true rfl) sk_101 (ok20 (1 : Int32) _ _ e6) (sk3 := [.int r5.2, .int (p1 + (1 : Int32)), .ref 126]) rfl rfl ?_
      obtain ⟨m7, e8, h⟩ := Option.bind_eq_some_iff.mp h
      refine cx_iast k46_38 sk_126 e8 ?_
      refine sx_aload_n (i := 0) k46_39 rfl rfl ?_
      refine cx_getR (k := 9) k46_40 ow_46 fl_1_45 (by decide) sk_101 ft_0_9 sr_101_9 ?_
      refine sx_iload_n (i := 1) k46_43 rfl rfl ?_
      refine sx_iconst (v := 2) k46_44 (by decide) ?_
      refine sx_iadd k46_45 ?_
      refine sx_aload_n (i := 0) k46_46 rfl rfl ?_
      refine sx_iconst (v := 2) k46_47 (by decide) ?_
      obtain ⟨r9, e10, h⟩ := Option.bind_eq_some_iff.mp h
      refine cx_V (sk := [.int (p1 + (2 : Int32)), .ref 126]) (vs := [.int (2 : Int32)]) st_46_22 k46_48 ow_46 cl_1_180 (by decide) rfl (Nat.le_of_ble_eq_true rfl) sk_101 (ok22 (2 : Int32) _ _ e10) (sk3 := [.int r9.2, .int (p1 + (2 : Int32)), .ref 126]) rfl rfl ?_
      obtain ⟨m11, e12, h⟩ := Option.bind_eq_some_iff.mp h
      refine cx_iast k46_51 sk_126 e12 ?_
      refine sx_aload_n (i := 0) k46_52 rfl rfl ?_
      refine cx_getR (k := 9) k46_53 ow_46 fl_1_45 (by decide) sk_101 ft_0_9 sr_101_9 ?_
      refine sx_iload_n (i := 1) k46_56 rfl rfl ?_
      refine sx_iconst (v := 3) k46_57 (by decide) ?_
      refine sx_iadd k46_58 ?_
      refine sx_aload_n (i := 0) k46_59 rfl rfl ?_
      refine sx_bipush (v := 6) k46_60 (by decide) ?_
      obtain ⟨r13, e14, h⟩ := Option.bind_eq_some_iff.mp h
      refine cx_V (sk := [.int (p1 + (3 : Int32)), .ref 126]) (vs := [.int (6 : Int32)]) st_46_22 k46_62 ow_46 cl_1_180 (by decide) rfl (Nat.le_of_ble_eq_true rfl) sk_101 (ok22 (6 : Int32) _ _ e14) (sk3 := [.int r13.2, .int (p1 + (3 : Int32)), .ref 126]) rfl rfl ?_
      obtain ⟨m15, e16, h⟩ := Option.bind_eq_some_iff.mp h
      refine cx_iast k46_65 sk_126 e16 ?_
      refine sx_aload_n (i := 0) k46_66 rfl rfl ?_
      refine cx_getR (k := 9) k46_67 ow_46 fl_1_45 (by decide) sk_101 ft_0_9 sr_101_9 ?_
      refine sx_iload_n (i := 1) k46_70 rfl rfl ?_
      refine sx_iconst (v := 4) k46_71 (by decide) ?_
      refine sx_iadd k46_72 ?_
      refine sx_aload_n (i := 0) k46_73 rfl rfl ?_
      refine sx_bipush (v := 10) k46_74 (by decide) ?_
      obtain ⟨r17, e18, h⟩ := Option.bind_eq_some_iff.mp h
      refine cx_V (sk := [.int (p1 + (4 : Int32)), .ref 126]) (vs := [.int (10 : Int32)]) st_46_20 k46_76 ow_46 cl_1_193 (by decide) rfl (Nat.le_of_ble_eq_true rfl) sk_101 (ok20 (10 : Int32) _ _ e18) (sk3 := [.int r17.2, .int (p1 + (4 : Int32)), .ref 126]) rfl rfl ?_
      obtain ⟨m19, e20, h⟩ := Option.bind_eq_some_iff.mp h
      refine cx_iast k46_79 sk_126 e20 ?_
      refine sx_aload_n (i := 0) k46_80 rfl rfl ?_
      refine cx_getR (k := 9) k46_81 ow_46 fl_1_45 (by decide) sk_101 ft_0_9 sr_101_9 ?_
      refine sx_iload_n (i := 1) k46_84 rfl rfl ?_
      refine sx_iconst (v := 5) k46_85 (by decide) ?_
      refine sx_iadd k46_86 ?_
      refine sx_aload_n (i := 0) k46_87 rfl rfl ?_
      refine sx_bipush (v := 11) k46_88 (by decide) ?_
      obtain ⟨r21, e22, h⟩ := Option.bind_eq_some_iff.mp h
      refine cx_V (sk := [.int (p1 + (5 : Int32)), .ref 126]) (vs := [.int (11 : Int32)]) st_46_20 k46_90 ow_46 cl_1_193 (by decide) rfl (Nat.le_of_ble_eq_true rfl) sk_101 (ok20 (11 : Int32) _ _ e22) (sk3 := [.int r21.2, .int (p1 + (5 : Int32)), .ref 126]) rfl rfl ?_
      obtain ⟨m23, e24, h⟩ := Option.bind_eq_some_iff.mp h
      refine cx_iast k46_93 sk_126 e24 ?_
      exact cx_retv k46_94 rt_46 h
    · rw [if_neg hb2] at h
      refine sx_icmp_le (tgt := 17) k46_13 (by decide) (fun q => absurd q hb2) (fun _ => ?_)
      exact cx_retv k46_16 rt_46 h
theorem k45_0 : decode (gb 45) 0 = .ok (.aload_n 0, 1) := by decide +kernel
theorem k45_1 : decode (gb 45) 1 = .ok (.invokevirtual 247, 3) := by decide +kernel
theorem k45_4 : decode (gb 45) 4 = .ok (.bipush 13, 2) := by decide +kernel
theorem k45_6 : decode (gb 45) 6 = .ok (.if_icmp .ne 8, 3) := by decide +kernel
theorem k45_9 : decode (gb 45) 9 = .ok (.aload_n 0, 1) := by decide +kernel
theorem k45_10 : decode (gb 45) 10 = .ok (.invokevirtual 303, 3) := by decide +kernel
theorem k45_13 : decode (gb 45) 13 = .ok (.return_, 1) := by decide +kernel
theorem k45_14 : decode (gb 45) 14 = .ok (.aload_n 0, 1) := by decide +kernel
theorem k45_15 : decode (gb 45) 15 = .ok (.iconst 0, 1) := by decide +kernel
theorem k45_16 : decode (gb 45) 16 = .ok (.invokevirtual 193, 3) := by decide +kernel
theorem k45_19 : decode (gb 45) 19 = .ok (.bipush 6, 2) := by decide +kernel
theorem k45_21 : decode (gb 45) 21 = .ok (.if_icmp .lt 4, 3) := by decide +kernel
theorem k45_24 : decode (gb 45) 24 = .ok (.return_, 1) := by decide +kernel
theorem k45_25 : decode (gb 45) 25 = .ok (.aload_n 0, 1) := by decide +kernel
theorem k45_26 : decode (gb 45) 26 = .ok (.iconst 0, 1) := by decide +kernel
theorem k45_27 : decode (gb 45) 27 = .ok (.invokevirtual 193, 3) := by decide +kernel
theorem k45_30 : decode (gb 45) 30 = .ok (.bipush 8, 2) := by decide +kernel
theorem k45_32 : decode (gb 45) 32 = .ok (.imul, 1) := by decide +kernel
theorem k45_33 : decode (gb 45) 33 = .ok (.istore_n 1, 1) := by decide +kernel
theorem k45_34 : decode (gb 45) 34 = .ok (.aload_n 0, 1) := by decide +kernel
theorem k45_35 : decode (gb 45) 35 = .ok (.getfield 45, 3) := by decide +kernel
theorem k45_38 : decode (gb 45) 38 = .ok (.iload_n 1, 1) := by decide +kernel
theorem k45_39 : decode (gb 45) 39 = .ok (.bipush 6, 2) := by decide +kernel
theorem k45_41 : decode (gb 45) 41 = .ok (.iadd, 1) := by decide +kernel
theorem k45_42 : decode (gb 45) 42 = .ok (.iconst 0, 1) := by decide +kernel
theorem k45_43 : decode (gb 45) 43 = .ok (.iastore, 1) := by decide +kernel
theorem k45_44 : decode (gb 45) 44 = .ok (.aload_n 0, 1) := by decide +kernel
theorem k45_45 : decode (gb 45) 45 = .ok (.invokevirtual 247, 3) := by decide +kernel
theorem k45_48 : decode (gb 45) 48 = .ok (.lookupswitch 68 #[(1, 36), (5, 60), (6, 48)], 36) := by decide +kernel
theorem k45_84 : decode (gb 45) 84 = .ok (.aload_n 0, 1) := by decide +kernel
theorem k45_85 : decode (gb 45) 85 = .ok (.getfield 45, 3) := by decide +kernel
theorem k45_88 : decode (gb 45) 88 = .ok (.iload_n 1, 1) := by decide +kernel
theorem k45_89 : decode (gb 45) 89 = .ok (.iconst 0, 1) := by decide +kernel
theorem k45_90 : decode (gb 45) 90 = .ok (.iadd, 1) := by decide +kernel
theorem k45_91 : decode (gb 45) 91 = .ok (.iconst 2, 1) := by decide +kernel
theorem k45_92 : decode (gb 45) 92 = .ok (.iastore, 1) := by decide +kernel
theorem k45_93 : decode (gb 45) 93 = .ok (.goto 32, 3) := by decide +kernel
theorem k45_96 : decode (gb 45) 96 = .ok (.aload_n 0, 1) := by decide +kernel
theorem k45_97 : decode (gb 45) 97 = .ok (.getfield 45, 3) := by decide +kernel
theorem k45_100 : decode (gb 45) 100 = .ok (.iload_n 1, 1) := by decide +kernel
theorem k45_101 : decode (gb 45) 101 = .ok (.iconst 0, 1) := by decide +kernel
theorem k45_102 : decode (gb 45) 102 = .ok (.iadd, 1) := by decide +kernel
theorem k45_103 : decode (gb 45) 103 = .ok (.iconst 0, 1) := by decide +kernel
theorem k45_104 : decode (gb 45) 104 = .ok (.iastore, 1) := by decide +kernel
theorem k45_105 : decode (gb 45) 105 = .ok (.goto 20, 3) := by decide +kernel
theorem k45_108 : decode (gb 45) 108 = .ok (.aload_n 0, 1) := by decide +kernel
theorem k45_109 : decode (gb 45) 109 = .ok (.iload_n 1, 1) := by decide +kernel
theorem k45_110 : decode (gb 45) 110 = .ok (.invokevirtual 306, 3) := by decide +kernel
theorem k45_113 : decode (gb 45) 113 = .ok (.goto 12, 3) := by decide +kernel
theorem k45_116 : decode (gb 45) 116 = .ok (.aload_n 0, 1) := by decide +kernel
theorem k45_117 : decode (gb 45) 117 = .ok (.getfield 45, 3) := by decide +kernel
theorem k45_120 : decode (gb 45) 120 = .ok (.iload_n 1, 1) := by decide +kernel
theorem k45_121 : decode (gb 45) 121 = .ok (.iconst 0, 1) := by decide +kernel
theorem k45_122 : decode (gb 45) 122 = .ok (.iadd, 1) := by decide +kernel
theorem k45_123 : decode (gb 45) 123 = .ok (.iconst 1, 1) := by decide +kernel
theorem k45_124 : decode (gb 45) 124 = .ok (.iastore, 1) := by decide +kernel
theorem k45_125 : decode (gb 45) 125 = .ok (.return_, 1) := by decide +kernel
/-- Board.actWatches()V -/
def f45 (μ : Mem) : Option (Mem) :=
  (f23 μ).bind fun r1 =>
  if r1.2 = (13 : Int32) then
    (f47 r1.1).bind fun r25 =>
    some r25
  else
    (f20 (0 : Int32) r1.1).bind fun r4 =>
    if r4.2 < (6 : Int32) then
      (f20 (0 : Int32) r4.1).bind fun r7 =>
      nm (r7.2 * (8 : Int32)) fun x9 =>
      (stA 126 (x9 + (6 : Int32)) (0 : Int32) r7.1).bind fun m10 =>
      (f23 m10).bind fun r12 =>
      if r12.2 = (1 : Int32) then
        (stA 126 (x9 + (0 : Int32)) (2 : Int32) r12.1).bind fun m14 =>
        some m14
      else if r12.2 = (5 : Int32) then
        (f46 x9 r12.1).bind fun r17 =>
        some r17
      else if r12.2 = (6 : Int32) then
        (stA 126 (x9 + (0 : Int32)) (0 : Int32) r12.1).bind fun m20 =>
        some m20
      else 
        (stA 126 (x9 + (0 : Int32)) (1 : Int32) r12.1).bind fun m23 =>
        some m23
    else
      some r4.1
theorem ok45 {L : Nat} (μ : Mem) (res : Mem) (h : f45 μ = some res) : Mx 45 [.ref 101] (mk L μ) (mk L res, none) := by
  refine Mx_of ml_45 (by rw [mx_45]; exact Nat.le_of_ble_eq_true rfl) ?_
  show Sx 45 0 [(0, .ref 101)] [] 0 0 (mk L μ) _
  unfold f45 at h
  refine sx_aload_n (i := 0) k45_0 rfl rfl ?_
  obtain ⟨r1, e2, h⟩ := Option.bind_eq_some_iff.mp h
  refine cx_V (sk := []) (vs := []) st_45_23 k45_1 ow_45 cl_1_247 (by decide) rfl (Nat.le_of_ble_eq_true rfl) sk_101 (ok23 _ _ e2) (sk3 := [.int r1.2]) rfl rfl ?_
  refine sx_bipush (v := 13) k45_4 (by decide) ?_
  by_cases hb3 : r1.2 = (13 : Int32)
  · rw [if_pos hb3] at h
    refine sx_icmp_ne (tgt := 14) k45_6 (by decide) (fun q => absurd hb3 q) (fun _ => ?_)
    refine sx_aload_n (i := 0) k45_9 rfl rfl ?_
    obtain ⟨r25, e26, h⟩ := Option.bind_eq_some_iff.mp h
    refine cx_V (sk := []) (vs := []) st_45_47 k45_10 ow_45 cl_1_303 (by decide) rfl (Nat.le_of_ble_eq_true rfl) sk_101 (ok47 _ _ e26) (sk3 := []) rfl rfl ?_
    exact cx_retv k45_13 rt_45 h
  · rw [if_neg hb3] at h
    refine sx_icmp_ne (tgt := 14) k45_6 (by decide) (fun _ => ?_) (fun q => absurd q hb3)
    refine sx_aload_n (i := 0) k45_14 rfl rfl ?_
    refine sx_iconst (v := 0) k45_15 (by decide) ?_
    obtain ⟨r4, e5, h⟩ := Option.bind_eq_some_iff.mp h
    refine cx_V (sk := []) (vs := [.int (0 : Int32)]) st_45_20 k45_16 ow_45 cl_1_193 (by decide) rfl (Nat.le_of_ble_eq_true rfl) sk_101 (ok20 (0 : Int32) _ _ e5) (sk3 := [.int r4.2]) rfl rfl ?_
    refine sx_bipush (v := 6) k45_19 (by decide) ?_
    by_cases hb6 : r4.2 < (6 : Int32)
    · rw [if_pos hb6] at h
      refine sx_icmp_lt (tgt := 25) k45_21 (by decide) (fun _ => ?_) (fun q => absurd hb6 q)
      refine sx_aload_n (i := 0) k45_25 rfl rfl ?_
      refine sx_iconst (v := 0) k45_26 (by decide) ?_
      obtain ⟨r7, e8, h⟩ := Option.bind_eq_some_iff.mp h
      refine cx_V (sk := []) (vs := [.int (0 : Int32)]) st_45_20 k45_27 ow_45 cl_1_193 (by decide) rfl (Nat.le_of_ble_eq_true rfl) sk_101 (ok20 (0 : Int32) _ _ e8) (sk3 := [.int r7.2]) rfl rfl ?_
      refine sx_bipush (v := 8) k45_30 (by decide) ?_
      refine sx_imul k45_32 ?_
      refine cx_nm h (fun x9 h => ?_)
      refine cx_istore_n (lo2 := [(1, .int x9), (0, .ref 101)]) k45_33 rfl (by rw [mx_45]; decide) rfl ?_
      refine sx_aload_n (i := 0) k45_34 rfl rfl ?_
      refine cx_getR (k := 9) k45_35 ow_45 fl_1_45 (by decide) sk_101 ft_0_9 sr_101_9 ?_
      refine sx_iload_n (i := 1) k45_38 rfl rfl ?_
      refine sx_bipush (v := 6) k45_39 (by decide) ?_
      refine sx_iadd k45_41 ?_
      refine sx_iconst (v := 0) k45_42 (by decide) ?_
      obtain ⟨m10, e11, h⟩ := Option.bind_eq_some_iff.mp h
      refine cx_iast k45_43 sk_126 e11 ?_
      refine sx_aload_n (i := 0) k45_44 rfl rfl ?_
      obtain ⟨r12, e13, h⟩ := Option.bind_eq_some_iff.mp h
      refine cx_V (sk := []) (vs := []) st_45_23 k45_45 ow_45 cl_1_247 (by decide) rfl (Nat.le_of_ble_eq_true rfl) sk_101 (ok23 _ _ e13) (sk3 := [.int r12.2]) rfl rfl ?_
      by_cases hb16 : r12.2 = (1 : Int32)
      · rw [if_pos hb16] at h
        refine sx_lookup (off := 36) (tgt := 84) k45_48 (by decide) (by rw [hb16]; rfl) (by decide) ?_
        refine sx_aload_n (i := 0) k45_84 rfl rfl ?_
        refine cx_getR (k := 9) k45_85 ow_45 fl_1_45 (by decide) sk_101 ft_0_9 sr_101_9 ?_
        refine sx_iload_n (i := 1) k45_88 rfl rfl ?_
        refine sx_iconst (v := 0) k45_89 (by decide) ?_
        refine sx_iadd k45_90 ?_
        refine sx_iconst (v := 2) k45_91 (by decide) ?_
        obtain ⟨m14, e15, h⟩ := Option.bind_eq_some_iff.mp h
        refine cx_iast k45_92 sk_126 e15 ?_
        refine sx_goto (tgt := 125) k45_93 (by decide) ?_
        exact cx_retv k45_125 rt_45 h
      · rw [if_neg hb16] at h
        by_cases hb19 : r12.2 = (5 : Int32)
        · rw [if_pos hb19] at h
          refine sx_lookup (off := 60) (tgt := 108) k45_48 (by decide) (by rw [hb19]; rfl) (by decide) ?_
          refine sx_aload_n (i := 0) k45_108 rfl rfl ?_
          refine sx_iload_n (i := 1) k45_109 rfl rfl ?_
          obtain ⟨r17, e18, h⟩ := Option.bind_eq_some_iff.mp h
          refine cx_V (sk := []) (vs := [.int x9]) st_45_46 k45_110 ow_45 cl_1_306 (by decide) rfl (Nat.le_of_ble_eq_true rfl) sk_101 (ok46 x9 _ _ e18) (sk3 := []) rfl rfl ?_
          refine sx_goto (tgt := 125) k45_113 (by decide) ?_
          exact cx_retv k45_125 rt_45 h
        · rw [if_neg hb19] at h
          by_cases hb22 : r12.2 = (6 : Int32)
          · rw [if_pos hb22] at h
            refine sx_lookup (off := 48) (tgt := 96) k45_48 (by decide) (by rw [hb22]; rfl) (by decide) ?_
            refine sx_aload_n (i := 0) k45_96 rfl rfl ?_
            refine cx_getR (k := 9) k45_97 ow_45 fl_1_45 (by decide) sk_101 ft_0_9 sr_101_9 ?_
            refine sx_iload_n (i := 1) k45_100 rfl rfl ?_
            refine sx_iconst (v := 0) k45_101 (by decide) ?_
            refine sx_iadd k45_102 ?_
            refine sx_iconst (v := 0) k45_103 (by decide) ?_
            obtain ⟨m20, e21, h⟩ := Option.bind_eq_some_iff.mp h
            refine cx_iast k45_104 sk_126 e21 ?_
            refine sx_goto (tgt := 125) k45_105 (by decide) ?_
            exact cx_retv k45_125 rt_45 h
          · rw [if_neg hb22] at h
            refine sx_lookup (off := 68) (tgt := 116) k45_48 (by decide) (lsw_out (cs := [(1 : Int32), (5 : Int32), (6 : Int32)]) (by decide) ⟨hb16, hb19, hb22, trivial⟩) (by decide) ?_
            refine sx_aload_n (i := 0) k45_116 rfl rfl ?_
            refine cx_getR (k := 9) k45_117 ow_45 fl_1_45 (by decide) sk_101 ft_0_9 sr_101_9 ?_
            refine sx_iload_n (i := 1) k45_120 rfl rfl ?_
            refine sx_iconst (v := 0) k45_121 (by decide) ?_
            refine sx_iadd k45_122 ?_
            refine sx_iconst (v := 1) k45_123 (by decide) ?_
            obtain ⟨m23, e24, h⟩ := Option.bind_eq_some_iff.mp h
            refine cx_iast k45_124 sk_126 e24 ?_
            exact cx_retv k45_125 rt_45 h
    · rw [if_neg hb6] at h
      refine sx_icmp_lt (tgt := 25) k45_21 (by decide) (fun q => absurd q hb6) (fun _ => ?_)
      exact cx_retv k45_24 rt_45 h
theorem k62_0 : decode (gb 62) 0 = .ok (.aload_n 0, 1) := by decide +kernel
theorem k62_1 : decode (gb 62) 1 = .ok (.iconst 0, 1) := by decide +kernel
theorem k62_2 : decode (gb 62) 2 = .ok (.invokevirtual 193, 3) := by decide +kernel
theorem k62_5 : decode (gb 62) 5 = .ok (.iconst 2, 1) := by decide +kernel
theorem k62_6 : decode (gb 62) 6 = .ok (.if_icmp .lt 4, 3) := by decide +kernel
theorem k62_9 : decode (gb 62) 9 = .ok (.return_, 1) := by decide +kernel
theorem k62_10 : decode (gb 62) 10 = .ok (.aload_n 0, 1) := by decide +kernel
theorem k62_11 : decode (gb 62) 11 = .ok (.getfield 51, 3) := by decide +kernel
theorem k62_14 : decode (gb 62) 14 = .ok (.getfield 356, 3) := by decide +kernel
theorem k62_17 : decode (gb 62) 17 = .ok (.aload_n 0, 1) := by decide +kernel
theorem k62_18 : decode (gb 62) 18 = .ok (.iconst 0, 1) := by decide +kernel
theorem k62_19 : decode (gb 62) 19 = .ok (.invokevirtual 193, 3) := by decide +kernel
theorem k62_22 : decode (gb 62) 22 = .ok (.aaload, 1) := by decide +kernel
theorem k62_23 : decode (gb 62) 23 = .ok (.astore_n 1, 1) := by decide +kernel
theorem k62_24 : decode (gb 62) 24 = .ok (.aload_n 0, 1) := by decide +kernel
theorem k62_25 : decode (gb 62) 25 = .ok (.invokevirtual 247, 3) := by decide +kernel
theorem k62_28 : decode (gb 62) 28 = .ok (.tableswitch 137 1 12 #[64, 72, 80, 137, 137, 137, 137, 137, 92, 137, 113, 125], 64) := by decide +kernel
theorem k62_92 : decode (gb 62) 92 = .ok (.aload_n 1, 1) := by decide +kernel
theorem k62_93 : decode (gb 62) 93 = .ok (.iconst 1, 1) := by decide +kernel
theorem k62_94 : decode (gb 62) 94 = .ok (.putfield 368, 3) := by decide +kernel
theorem k62_97 : decode (gb 62) 97 = .ok (.goto 68, 3) := by decide +kernel
theorem k62_100 : decode (gb 62) 100 = .ok (.aload_n 1, 1) := by decide +kernel
theorem k62_101 : decode (gb 62) 101 = .ok (.iconst 0, 1) := by decide +kernel
theorem k62_102 : decode (gb 62) 102 = .ok (.putfield 368, 3) := by decide +kernel
theorem k62_105 : decode (gb 62) 105 = .ok (.goto 60, 3) := by decide +kernel
theorem k62_108 : decode (gb 62) 108 = .ok (.aload_n 1, 1) := by decide +kernel
theorem k62_109 : decode (gb 62) 109 = .ok (.aload_n 0, 1) := by decide +kernel
theorem k62_110 : decode (gb 62) 110 = .ok (.iconst 1, 1) := by decide +kernel
theorem k62_111 : decode (gb 62) 111 = .ok (.invokevirtual 262, 3) := by decide +kernel
theorem k62_114 : decode (gb 62) 114 = .ok (.invokevirtual 371, 3) := by decide +kernel
theorem k62_117 : decode (gb 62) 117 = .ok (.goto 48, 3) := by decide +kernel
theorem k62_120 : decode (gb 62) 120 = .ok (.aload_n 0, 1) := by decide +kernel
theorem k62_121 : decode (gb 62) 121 = .ok (.getfield 51, 3) := by decide +kernel
theorem k62_124 : decode (gb 62) 124 = .ok (.aload_n 1, 1) := by decide +kernel
theorem k62_125 : decode (gb 62) 125 = .ok (.aload_n 0, 1) := by decide +kernel
theorem k62_126 : decode (gb 62) 126 = .ok (.iconst 1, 1) := by decide +kernel
theorem k62_127 : decode (gb 62) 127 = .ok (.invokevirtual 180, 3) := by decide +kernel
theorem k62_130 : decode (gb 62) 130 = .ok (.aload_n 0, 1) := by decide +kernel
theorem k62_131 : decode (gb 62) 131 = .ok (.iconst 5, 1) := by decide +kernel
theorem k62_132 : decode (gb 62) 132 = .ok (.invokevirtual 180, 3) := by decide +kernel
theorem k62_135 : decode (gb 62) 135 = .ok (.invokevirtual 374, 3) := by decide +kernel
theorem k62_138 : decode (gb 62) 138 = .ok (.goto 27, 3) := by decide +kernel
theorem k62_141 : decode (gb 62) 141 = .ok (.aload_n 1, 1) := by decide +kernel
theorem k62_142 : decode (gb 62) 142 = .ok (.aload_n 0, 1) := by decide +kernel
theorem k62_143 : decode (gb 62) 143 = .ok (.iconst 1, 1) := by decide +kernel
theorem k62_144 : decode (gb 62) 144 = .ok (.invokevirtual 180, 3) := by decide +kernel
theorem k62_147 : decode (gb 62) 147 = .ok (.invokevirtual 378, 3) := by decide +kernel
theorem k62_150 : decode (gb 62) 150 = .ok (.goto 15, 3) := by decide +kernel
theorem k62_153 : decode (gb 62) 153 = .ok (.aload_n 1, 1) := by decide +kernel
theorem k62_154 : decode (gb 62) 154 = .ok (.aload_n 0, 1) := by decide +kernel
theorem k62_155 : decode (gb 62) 155 = .ok (.iconst 1, 1) := by decide +kernel
theorem k62_156 : decode (gb 62) 156 = .ok (.invokevirtual 193, 3) := by decide +kernel
theorem k62_159 : decode (gb 62) 159 = .ok (.invokevirtual 381, 3) := by decide +kernel
theorem k62_162 : decode (gb 62) 162 = .ok (.goto 3, 3) := by decide +kernel
theorem k62_165 : decode (gb 62) 165 = .ok (.return_, 1) := by decide +kernel
/-- Board.actStores()V -/
def f62 (μ : Mem) : Option (Mem) :=
  (f20 (0 : Int32) μ).bind fun r1 =>
  if r1.2 < (2 : Int32) then
    (f20 (0 : Int32) r1.1).bind fun r4 =>
    (ldR 58 r4.2).bind fun o6 =>
    (f23 r4.1).bind fun r8 =>
    if r8.2 = (1 : Int32) then
      (pfZ o6 4 (1 : Int32) r8.1).bind fun m10 =>
      some m10
    else if r8.2 = (2 : Int32) then
      (pfZ o6 4 (0 : Int32) r8.1).bind fun m13 =>
      some m13
    else if r8.2 = (3 : Int32) then
      (f21 (1 : Int32) r8.1).bind fun r16 =>
      (f177 o6 r16.2 r16.1).bind fun r18 =>
      some r18
    else if r8.2 = (4 : Int32) then
      some r8.1
    else if r8.2 = (5 : Int32) then
      some r8.1
    else if r8.2 = (6 : Int32) then
      some r8.1
    else if r8.2 = (7 : Int32) then
      some r8.1
    else if r8.2 = (8 : Int32) then
      some r8.1
    else if r8.2 = (9 : Int32) then
      (f22 (1 : Int32) r8.1).bind fun r26 =>
      (f22 (5 : Int32) r26.1).bind fun r28 =>
      (f120 o6 r26.2 r28.2 r28.1).bind fun r30 =>
      some r30
    else if r8.2 = (10 : Int32) then
      some r8.1
    else if r8.2 = (11 : Int32) then
      (f22 (1 : Int32) r8.1).bind fun r34 =>
      (f179 o6 r34.2 r34.1).bind fun r36 =>
      some r36
    else if r8.2 = (12 : Int32) then
      (f20 (1 : Int32) r8.1).bind fun r39 =>
      (f174 o6 r39.2 r39.1).bind fun r41 =>
      some r41
    else 
      some r8.1
  else
    some r1.1
theorem ok62 {L : Nat} (μ : Mem) (res : Mem) (h : f62 μ = some res) : Mx 62 [.ref 101] (mk L μ) (mk L res, none) := by
  refine Mx_of ml_62 (by rw [mx_62]; exact Nat.le_of_ble_eq_true rfl) ?_
  show Sx 62 0 [(0, .ref 101)] [] 0 0 (mk L μ) _
  unfold f62 at h
  refine sx_aload_n (i := 0) k62_0 rfl rfl ?_
  refine sx_iconst (v := 0) k62_1 (by decide) ?_
  obtain ⟨r1, e2, h⟩ := Option.bind_eq_some_iff.mp h
  refine cx_V (sk := []) (vs := [.int (0 : Int32)]) st_62_20 k62_2 ow_62 cl_1_193 (by decide) rfl (Nat.le_of_ble_eq_true rfl) sk_101 (ok20 (0 : Int32) _ _ e2) (sk3 := [.int r1.2]) rfl rfl ?_
  refine sx_iconst (v := 2) k62_5 (by decide) ?_
  by_cases hb3 : r1.2 < (2 : Int32)
  · rw [if_pos hb3] at h
    refine sx_icmp_lt (tgt := 10) k62_6 (by decide) (fun _ => ?_) (fun q => absurd hb3 q)
    refine sx_aload_n (i := 0) k62_10 rfl rfl ?_
    refine cx_getR (k := 0) k62_11 ow_62 fl_1_51 (by decide) sk_101 ft_0_0 sr_101_0 ?_
    refine cx_getR (k := 2) k62_14 ow_62 fl_1_356 (by decide) sk_57 ft_5_2 sr_57_2 ?_
    refine sx_aload_n (i := 0) k62_17 rfl rfl ?_
    refine sx_iconst (v := 0) k62_18 (by decide) ?_
    obtain ⟨r4, e5, h⟩ := Option.bind_eq_some_iff.mp h
    refine cx_V (sk := [.ref 58]) (vs := [.int (0 : Int32)]) st_62_20 k62_19 ow_62 cl_1_193 (by decide) rfl (Nat.le_of_ble_eq_true rfl) sk_101 (ok20 (0 : Int32) _ _ e5) (sk3 := [.int r4.2, .ref 58]) rfl rfl ?_
    obtain ⟨o6, e7, h⟩ := Option.bind_eq_some_iff.mp h
    refine cx_aald (t := 1) k62_22 (by decide) sk_58 e7 ?_
    refine cx_astore_n (lo2 := [(1, .ref o6), (0, .ref 101)]) k62_23 rfl (by rw [mx_62]; decide) rfl ?_
    refine sx_aload_n (i := 0) k62_24 rfl rfl ?_
    obtain ⟨r8, e9, h⟩ := Option.bind_eq_some_iff.mp h
    refine cx_V (sk := []) (vs := []) st_62_23 k62_25 ow_62 cl_1_247 (by decide) rfl (Nat.le_of_ble_eq_true rfl) sk_101 (ok23 _ _ e9) (sk3 := [.int r8.2]) rfl rfl ?_
    by_cases hb12 : r8.2 = (1 : Int32)
    · rw [if_pos hb12] at h
      refine sx_tableIn (off := 64) (tgt := 92) k62_28 (by rw [hb12]; decide) (by rw [hb12]; decide) (by rw [hb12]; rfl) (by decide) ?_
      refine sx_aload_n (i := 1) k62_92 rfl rfl ?_
      refine sx_iconst (v := 1) k62_93 (by decide) ?_
      obtain ⟨m10, e11, h⟩ := Option.bind_eq_some_iff.mp h
      refine cx_putZ (k := 4) k62_94 ow_62 fl_1_368 (by decide) (lk_58 e7) nf_8_4 fu_8_4 e11 ?_
      refine sx_goto (tgt := 165) k62_97 (by decide) ?_
      exact cx_retv k62_165 rt_62 h
    · rw [if_neg hb12] at h
      by_cases hb15 : r8.2 = (2 : Int32)
      · rw [if_pos hb15] at h
        refine sx_tableIn (off := 72) (tgt := 100) k62_28 (by rw [hb15]; decide) (by rw [hb15]; decide) (by rw [hb15]; rfl) (by decide) ?_
        refine sx_aload_n (i := 1) k62_100 rfl rfl ?_
        refine sx_iconst (v := 0) k62_101 (by decide) ?_
        obtain ⟨m13, e14, h⟩ := Option.bind_eq_some_iff.mp h
        refine cx_putZ (k := 4) k62_102 ow_62 fl_1_368 (by decide) (lk_58 e7) nf_8_4 fu_8_4 e14 ?_
        refine sx_goto (tgt := 165) k62_105 (by decide) ?_
        exact cx_retv k62_165 rt_62 h
      · rw [if_neg hb15] at h
        by_cases hb20 : r8.2 = (3 : Int32)
        · rw [if_pos hb20] at h
          refine sx_tableIn (off := 80) (tgt := 108) k62_28 (by rw [hb20]; decide) (by rw [hb20]; decide) (by rw [hb20]; rfl) (by decide) ?_
          refine sx_aload_n (i := 1) k62_108 rfl rfl ?_
          refine sx_aload_n (i := 0) k62_109 rfl rfl ?_
          refine sx_iconst (v := 1) k62_110 (by decide) ?_
          obtain ⟨r16, e17, h⟩ := Option.bind_eq_some_iff.mp h
          refine cx_V (sk := [.ref o6]) (vs := [.int (1 : Int32)]) st_62_21 k62_111 ow_62 cl_1_262 (by decide) rfl (Nat.le_of_ble_eq_true rfl) sk_101 (ok21 (1 : Int32) _ _ e17) (sk3 := [.int r16.2, .ref o6]) rfl rfl ?_
          obtain ⟨r18, e19, h⟩ := Option.bind_eq_some_iff.mp h
          refine cx_V (sk := []) (vs := [.int r16.2]) st_62_177 k62_114 ow_62 cl_1_371 (by decide) rfl (Nat.le_of_ble_eq_true rfl) (lk_58 e7) (ok177 o6 r16.2 (lk_58 e7) _ _ e19) (sk3 := []) rfl rfl ?_
          refine sx_goto (tgt := 165) k62_117 (by decide) ?_
          exact cx_retv k62_165 rt_62 h
        · rw [if_neg hb20] at h
          by_cases hb21 : r8.2 = (4 : Int32)
          · rw [if_pos hb21] at h
            refine sx_tableIn (off := 137) (tgt := 165) k62_28 (by rw [hb21]; decide) (by rw [hb21]; decide) (by rw [hb21]; rfl) (by decide) ?_
            exact cx_retv k62_165 rt_62 h
          · rw [if_neg hb21] at h
            by_cases hb22 : r8.2 = (5 : Int32)
            · rw [if_pos hb22] at h
              refine sx_tableIn (off := 137) (tgt := 165) k62_28 (by rw [hb22]; decide) (by rw [hb22]; decide) (by rw [hb22]; rfl) (by decide) ?_
              exact cx_retv k62_165 rt_62 h
            · rw [if_neg hb22] at h
              by_cases hb23 : r8.2 = (6 : Int32)
              · rw [if_pos hb23] at h
                refine sx_tableIn (off := 137) (tgt := 165) k62_28 (by rw [hb23]; decide) (by rw [hb23]; decide) (by rw [hb23]; rfl) (by decide) ?_
                exact cx_retv k62_165 rt_62 h
              · rw [if_neg hb23] at h
                by_cases hb24 : r8.2 = (7 : Int32)
                · rw [if_pos hb24] at h
                  refine sx_tableIn (off := 137) (tgt := 165) k62_28 (by rw [hb24]; decide) (by rw [hb24]; decide) (by rw [hb24]; rfl) (by decide) ?_
                  exact cx_retv k62_165 rt_62 h
                · rw [if_neg hb24] at h
                  by_cases hb25 : r8.2 = (8 : Int32)
                  · rw [if_pos hb25] at h
                    refine sx_tableIn (off := 137) (tgt := 165) k62_28 (by rw [hb25]; decide) (by rw [hb25]; decide) (by rw [hb25]; rfl) (by decide) ?_
                    exact cx_retv k62_165 rt_62 h
                  · rw [if_neg hb25] at h
                    by_cases hb32 : r8.2 = (9 : Int32)
                    · rw [if_pos hb32] at h
                      refine sx_tableIn (off := 92) (tgt := 120) k62_28 (by rw [hb32]; decide) (by rw [hb32]; decide) (by rw [hb32]; rfl) (by decide) ?_
                      refine sx_aload_n (i := 0) k62_120 rfl rfl ?_
                      refine cx_getR (k := 0) k62_121 ow_62 fl_1_51 (by decide) sk_101 ft_0_0 sr_101_0 ?_
                      refine sx_aload_n (i := 1) k62_124 rfl rfl ?_
                      refine sx_aload_n (i := 0) k62_125 rfl rfl ?_
                      refine sx_iconst (v := 1) k62_126 (by decide) ?_
                      obtain ⟨r26, e27, h⟩ := Option.bind_eq_some_iff.mp h
                      refine cx_V (sk := [.ref o6, .ref 57]) (vs := [.int (1 : Int32)]) st_62_22 k62_127 ow_62 cl_1_180 (by decide) rfl (Nat.le_of_ble_eq_true rfl) sk_101 (ok22 (1 : Int32) _ _ e27) (sk3 := [.int r26.2, .ref o6, .ref 57]) rfl rfl ?_
                      refine sx_aload_n (i := 0) k62_130 rfl rfl ?_
                      refine sx_iconst (v := 5) k62_131 (by decide) ?_
                      obtain ⟨r28, e29, h⟩ := Option.bind_eq_some_iff.mp h
                      refine cx_V (sk := [.int r26.2, .ref o6, .ref 57]) (vs := [.int (5 : Int32)]) st_62_22 k62_132 ow_62 cl_1_180 (by decide) rfl (Nat.le_of_ble_eq_true rfl) sk_101 (ok22 (5 : Int32) _ _ e29) (sk3 := [.int r28.2, .int r26.2, .ref o6, .ref 57]) rfl rfl ?_
                      obtain ⟨r30, e31, h⟩ := Option.bind_eq_some_iff.mp h
                      refine cx_V (sk := []) (vs := [.ref o6, .int r26.2, .int r28.2]) st_62_120 k62_135 ow_62 cl_1_374 (by decide) rfl (Nat.le_of_ble_eq_true rfl) sk_57 (ok120 o6 r26.2 r28.2 (lk_58 e7) _ _ e31) (sk3 := []) rfl rfl ?_
                      refine sx_goto (tgt := 165) k62_138 (by decide) ?_
                      exact cx_retv k62_165 rt_62 h
                    · rw [if_neg hb32] at h
                      by_cases hb33 : r8.2 = (10 : Int32)
                      · rw [if_pos hb33] at h
                        refine sx_tableIn (off := 137) (tgt := 165) k62_28 (by rw [hb33]; decide) (by rw [hb33]; decide) (by rw [hb33]; rfl) (by decide) ?_
                        exact cx_retv k62_165 rt_62 h
                      · rw [if_neg hb33] at h
                        by_cases hb38 : r8.2 = (11 : Int32)
                        · rw [if_pos hb38] at h
                          refine sx_tableIn (off := 113) (tgt := 141) k62_28 (by rw [hb38]; decide) (by rw [hb38]; decide) (by rw [hb38]; rfl) (by decide) ?_
                          refine sx_aload_n (i := 1) k62_141 rfl rfl ?_
                          refine sx_aload_n (i := 0) k62_142 rfl rfl ?_
                          refine sx_iconst (v := 1) k62_143 (by decide) ?_
                          obtain ⟨r34, e35, h⟩ := Option.bind_eq_some_iff.mp h
                          refine cx_V (sk := [.ref o6]) (vs := [.int (1 : Int32)]) st_62_22 k62_144 ow_62 cl_1_180 (by decide) rfl (Nat.le_of_ble_eq_true rfl) sk_101 (ok22 (1 : Int32) _ _ e35) (sk3 := [.int r34.2, .ref o6]) rfl rfl ?_
                          obtain ⟨r36, e37, h⟩ := Option.bind_eq_some_iff.mp h
                          refine cx_V (sk := []) (vs := [.int r34.2]) st_62_179 k62_147 ow_62 cl_1_378 (by decide) rfl (Nat.le_of_ble_eq_true rfl) (lk_58 e7) (ok179 o6 r34.2 (lk_58 e7) _ _ e37) (sk3 := []) rfl rfl ?_
                          refine sx_goto (tgt := 165) k62_150 (by decide) ?_
                          exact cx_retv k62_165 rt_62 h
                        · rw [if_neg hb38] at h
                          by_cases hb43 : r8.2 = (12 : Int32)
                          · rw [if_pos hb43] at h
                            refine sx_tableIn (off := 125) (tgt := 153) k62_28 (by rw [hb43]; decide) (by rw [hb43]; decide) (by rw [hb43]; rfl) (by decide) ?_
                            refine sx_aload_n (i := 1) k62_153 rfl rfl ?_
                            refine sx_aload_n (i := 0) k62_154 rfl rfl ?_
                            refine sx_iconst (v := 1) k62_155 (by decide) ?_
                            obtain ⟨r39, e40, h⟩ := Option.bind_eq_some_iff.mp h
                            refine cx_V (sk := [.ref o6]) (vs := [.int (1 : Int32)]) st_62_20 k62_156 ow_62 cl_1_193 (by decide) rfl (Nat.le_of_ble_eq_true rfl) sk_101 (ok20 (1 : Int32) _ _ e40) (sk3 := [.int r39.2, .ref o6]) rfl rfl ?_
                            obtain ⟨r41, e42, h⟩ := Option.bind_eq_some_iff.mp h
                            refine cx_V (sk := []) (vs := [.int r39.2]) st_62_174 k62_159 ow_62 cl_1_381 (by decide) rfl (Nat.le_of_ble_eq_true rfl) (lk_58 e7) (ok174 o6 r39.2 (lk_58 e7) _ _ e42) (sk3 := []) rfl rfl ?_
                            refine sx_goto (tgt := 165) k62_162 (by decide) ?_
                            exact cx_retv k62_165 rt_62 h
                          · rw [if_neg hb43] at h
                            refine sx_tableOut (tgt := 165) k62_28 (sw_out (n := 12) (fun j hj => ?_)) (by decide) ?_
                            · intro hj2
                              exact sw_no [(1 : Int32), (2 : Int32), (3 : Int32), (4 : Int32), (5 : Int32), (6 : Int32), (7 : Int32), (8 : Int32), (9 : Int32), (10 : Int32), (11 : Int32), (12 : Int32)] (by decide) hj hj2 ⟨hb12, hb15, hb20, hb21, hb22, hb23, hb24, hb25, hb32, hb33, hb38, hb43, trivial⟩
                            ·
                              exact cx_retv k62_165 rt_62 h
  · rw [if_neg hb3] at h
    refine sx_icmp_lt (tgt := 10) k62_6 (by decide) (fun q => absurd q hb3) (fun _ => ?_)
    exact cx_retv k62_9 rt_62 h
theorem k42_0 : decode (gb 42) 0 = .ok (.aload_n 0, 1) := by decide +kernel
theorem k42_1 : decode (gb 42) 1 = .ok (.getfield 23, 3) := by decide +kernel
theorem k42_4 : decode (gb 42) 4 = .ok (.aload_n 0, 1) := by decide +kernel
theorem k42_5 : decode (gb 42) 5 = .ok (.iconst 0, 1) := by decide +kernel
theorem k42_6 : decode (gb 42) 6 = .ok (.invokevirtual 193, 3) := by decide +kernel
theorem k42_9 : decode (gb 42) 9 = .ok (.invokevirtual 291, 3) := by decide +kernel
theorem k42_12 : decode (gb 42) 12 = .ok (.istore_n 1, 1) := by decide +kernel
theorem k42_13 : decode (gb 42) 13 = .ok (.aload_n 0, 1) := by decide +kernel
theorem k42_14 : decode (gb 42) 14 = .ok (.invokevirtual 247, 3) := by decide +kernel
theorem k42_17 : decode (gb 42) 17 = .ok (.lookupswitch 77 #[(1, 27), (2, 66)], 27) := by decide +kernel
theorem k42_44 : decode (gb 42) 44 = .ok (.aload_n 0, 1) := by decide +kernel
theorem k42_45 : decode (gb 42) 45 = .ok (.getfield 23, 3) := by decide +kernel
theorem k42_48 : decode (gb 42) 48 = .ok (.aload_n 0, 1) := by decide +kernel
theorem k42_49 : decode (gb 42) 49 = .ok (.getfield 35, 3) := by decide +kernel
theorem k42_52 : decode (gb 42) 52 = .ok (.bipush 13, 2) := by decide +kernel
theorem k42_54 : decode (gb 42) 54 = .ok (.aload_n 0, 1) := by decide +kernel
theorem k42_55 : decode (gb 42) 55 = .ok (.getfield 35, 3) := by decide +kernel
theorem k42_58 : decode (gb 42) 58 = .ok (.getfield 109, 3) := by decide +kernel
theorem k42_61 : decode (gb 42) 61 = .ok (.bipush 13, 2) := by decide +kernel
theorem k42_63 : decode (gb 42) 63 = .ok (.isub, 1) := by decide +kernel
theorem k42_64 : decode (gb 42) 64 = .ok (.iconst 2, 1) := by decide +kernel
theorem k42_65 : decode (gb 42) 65 = .ok (.isub, 1) := by decide +kernel
theorem k42_66 : decode (gb 42) 66 = .ok (.aload_n 0, 1) := by decide +kernel
theorem k42_67 : decode (gb 42) 67 = .ok (.iconst 0, 1) := by decide +kernel
theorem k42_68 : decode (gb 42) 68 = .ok (.invokevirtual 193, 3) := by decide +kernel
theorem k42_71 : decode (gb 42) 71 = .ok (.aload_n 0, 1) := by decide +kernel
theorem k42_72 : decode (gb 42) 72 = .ok (.iconst 1, 1) := by decide +kernel
theorem k42_73 : decode (gb 42) 73 = .ok (.invokevirtual 193, 3) := by decide +kernel
theorem k42_76 : decode (gb 42) 76 = .ok (.invokevirtual 112, 3) := by decide +kernel
theorem k42_79 : decode (gb 42) 79 = .ok (.pop, 1) := by decide +kernel
theorem k42_80 : decode (gb 42) 80 = .ok (.goto 35, 3) := by decide +kernel
theorem k42_83 : decode (gb 42) 83 = .ok (.aload_n 0, 1) := by decide +kernel
theorem k42_84 : decode (gb 42) 84 = .ok (.getfield 23, 3) := by decide +kernel
theorem k42_87 : decode (gb 42) 87 = .ok (.iload_n 1, 1) := by decide +kernel
theorem k42_88 : decode (gb 42) 88 = .ok (.invokevirtual 159, 3) := by decide +kernel
theorem k42_91 : decode (gb 42) 91 = .ok (.goto 24, 3) := by decide +kernel
theorem k42_94 : decode (gb 42) 94 = .ok (.aload_n 0, 1) := by decide +kernel
theorem k42_95 : decode (gb 42) 95 = .ok (.getfield 23, 3) := by decide +kernel
theorem k42_98 : decode (gb 42) 98 = .ok (.iload_n 1, 1) := by decide +kernel
theorem k42_99 : decode (gb 42) 99 = .ok (.aload_n 0, 1) := by decide +kernel
theorem k42_100 : decode (gb 42) 100 = .ok (.invokevirtual 247, 3) := by decide +kernel
theorem k42_103 : decode (gb 42) 103 = .ok (.iconst 4, 1) := by decide +kernel
theorem k42_104 : decode (gb 42) 104 = .ok (.if_icmp .ne 7, 3) := by decide +kernel
theorem k42_107 : decode (gb 42) 107 = .ok (.iconst 1, 1) := by decide +kernel
theorem k42_108 : decode (gb 42) 108 = .ok (.goto 4, 3) := by decide +kernel
theorem k42_111 : decode (gb 42) 111 = .ok (.iconst 0, 1) := by decide +kernel
theorem k42_112 : decode (gb 42) 112 = .ok (.invokevirtual 297, 3) := by decide +kernel
theorem k42_115 : decode (gb 42) 115 = .ok (.return_, 1) := by decide +kernel
def c42_112 (s1 : Int32) (s2 : Int32) (μ : Mem) : Option (Mem) :=
  (f170 114 s1 s2 μ).bind fun r1 =>
  some r1
theorem c42_112_ok {L : Nat} (s1 : Int32) (s2 : Int32) (μ : Mem) (res : Mem) (h : c42_112 s1 s2 μ = some res) : Sx 42 112 [] [.int s2, .int s1, .ref 114] 0 0 (mk L μ) (mk L res, none) := by
  unfold c42_112 at h
  obtain ⟨r1, e2, h⟩ := Option.bind_eq_some_iff.mp h
  refine cx_V (sk := []) (vs := [.int s1, .int s2]) st_42_170 k42_112 ow_42 cl_1_297 (by decide) rfl (Nat.le_of_ble_eq_true rfl) sk_114 (ok170 114 s1 s2 sk_114 _ _ e2) (sk3 := []) rfl rfl ?_
  exact cx_retv k42_115 rt_42 h
/-- Board.actActions()V -/
def f42 (μ : Mem) : Option (Mem) :=
  (f20 (0 : Int32) μ).bind fun r1 =>
  (f165 114 r1.2 r1.1).bind fun r3 =>
  (f23 r3.1).bind fun r5 =>
  if r5.2 = (1 : Int32) then
    (f20 (0 : Int32) r5.1).bind fun r7 =>
    (f20 (1 : Int32) r7.1).bind fun r9 =>
    (f161 114 122 (13 : Int32) (((r5.1.1 122 1) - (13 : Int32)) - (2 : Int32)) r7.2 r9.2 r9.1).bind fun r11 =>
    some r11.1
  else if r5.2 = (2 : Int32) then
    (f162 114 r3.2 r5.1).bind fun r14 =>
    some r14
  else 
    (f23 r5.1).bind fun r17 =>
    if r17.2 = (4 : Int32) then
      c42_112 r3.2 (1 : Int32) r17.1
    else
      c42_112 r3.2 (0 : Int32) r17.1
theorem ok42 {L : Nat} (μ : Mem) (res : Mem) (h : f42 μ = some res) : Mx 42 [.ref 101] (mk L μ) (mk L res, none) := by
  refine Mx_of ml_42 (by rw [mx_42]; exact Nat.le_of_ble_eq_true rfl) ?_
  show Sx 42 0 [(0, .ref 101)] [] 0 0 (mk L μ) _
  unfold f42 at h
  refine sx_aload_n (i := 0) k42_0 rfl rfl ?_
  refine cx_getR (k := 4) k42_1 ow_42 fl_1_23 (by decide) sk_101 ft_0_4 sr_101_4 ?_
  refine sx_aload_n (i := 0) k42_4 rfl rfl ?_
  refine sx_iconst (v := 0) k42_5 (by decide) ?_
  obtain ⟨r1, e2, h⟩ := Option.bind_eq_some_iff.mp h
  refine cx_V (sk := [.ref 114]) (vs := [.int (0 : Int32)]) st_42_20 k42_6 ow_42 cl_1_193 (by decide) rfl (Nat.le_of_ble_eq_true rfl) sk_101 (ok20 (0 : Int32) _ _ e2) (sk3 := [.int r1.2, .ref 114]) rfl rfl ?_
  obtain ⟨r3, e4, h⟩ := Option.bind_eq_some_iff.mp h
  refine cx_V (sk := []) (vs := [.int r1.2]) st_42_165 k42_9 ow_42 cl_1_291 (by decide) rfl (Nat.le_of_ble_eq_true rfl) sk_114 (ok165 114 r1.2 sk_114 _ _ e4) (sk3 := [.int r3.2]) rfl rfl ?_
  refine cx_istore_n (lo2 := [(1, .int r3.2), (0, .ref 101)]) k42_12 rfl (by rw [mx_42]; decide) rfl ?_
  refine sx_aload_n (i := 0) k42_13 rfl rfl ?_
  obtain ⟨r5, e6, h⟩ := Option.bind_eq_some_iff.mp h
  refine cx_V (sk := []) (vs := []) st_42_23 k42_14 ow_42 cl_1_247 (by decide) rfl (Nat.le_of_ble_eq_true rfl) sk_101 (ok23 _ _ e6) (sk3 := [.int r5.2]) rfl rfl ?_
  by_cases hb13 : r5.2 = (1 : Int32)
  · rw [if_pos hb13] at h
    refine sx_lookup (off := 27) (tgt := 44) k42_17 (by decide) (by rw [hb13]; rfl) (by decide) ?_
    refine sx_aload_n (i := 0) k42_44 rfl rfl ?_
    refine cx_getR (k := 4) k42_45 ow_42 fl_1_23 (by decide) sk_101 ft_0_4 sr_101_4 ?_
    refine sx_aload_n (i := 0) k42_48 rfl rfl ?_
    refine cx_getR (k := 6) k42_49 ow_42 fl_1_35 (by decide) sk_101 ft_0_6 sr_101_6 ?_
    refine sx_bipush (v := 13) k42_52 (by decide) ?_
    refine sx_aload_n (i := 0) k42_54 rfl rfl ?_
    refine cx_getR (k := 6) k42_55 ow_42 fl_1_35 (by decide) sk_101 ft_0_6 sr_101_6 ?_
    refine cx_getI (k := 1) k42_58 ow_42 fl_1_109 (by decide) sk_122 ft_1_1 ?_
    refine sx_bipush (v := 13) k42_61 (by decide) ?_
    refine sx_isub k42_63 ?_
    refine sx_iconst (v := 2) k42_64 (by decide) ?_
    refine sx_isub k42_65 ?_
    refine sx_aload_n (i := 0) k42_66 rfl rfl ?_
    refine sx_iconst (v := 0) k42_67 (by decide) ?_
    obtain ⟨r7, e8, h⟩ := Option.bind_eq_some_iff.mp h
    refine cx_V (sk := [.int (((r5.1.1 122 1) - (13 : Int32)) - (2 : Int32)), .int (13 : Int32), .ref 122, .ref 114]) (vs := [.int (0 : Int32)]) st_42_20 k42_68 ow_42 cl_1_193 (by decide) rfl (Nat.le_of_ble_eq_true rfl) sk_101 (ok20 (0 : Int32) _ _ e8) (sk3 := [.int r7.2, .int (((r5.1.1 122 1) - (13 : Int32)) - (2 : Int32)), .int (13 : Int32), .ref 122, .ref 114]) rfl rfl ?_
    refine sx_aload_n (i := 0) k42_71 rfl rfl ?_
    refine sx_iconst (v := 1) k42_72 (by decide) ?_
    obtain ⟨r9, e10, h⟩ := Option.bind_eq_some_iff.mp h
    refine cx_V (sk := [.int r7.2, .int (((r5.1.1 122 1) - (13 : Int32)) - (2 : Int32)), .int (13 : Int32), .ref 122, .ref 114]) (vs := [.int (1 : Int32)]) st_42_20 k42_73 ow_42 cl_1_193 (by decide) rfl (Nat.le_of_ble_eq_true rfl) sk_101 (ok20 (1 : Int32) _ _ e10) (sk3 := [.int r9.2, .int r7.2, .int (((r5.1.1 122 1) - (13 : Int32)) - (2 : Int32)), .int (13 : Int32), .ref 122, .ref 114]) rfl rfl ?_
    obtain ⟨r11, e12, h⟩ := Option.bind_eq_some_iff.mp h
    refine cx_V (sk := []) (vs := [.ref 122, .int (13 : Int32), .int (((r5.1.1 122 1) - (13 : Int32)) - (2 : Int32)), .int r7.2, .int r9.2]) st_42_161 k42_76 ow_42 cl_1_112 (by decide) rfl (Nat.le_of_ble_eq_true rfl) sk_114 (ok161 114 122 (13 : Int32) (((r5.1.1 122 1) - (13 : Int32)) - (2 : Int32)) r7.2 r9.2 sk_114 sk_122 _ _ e12) (sk3 := [.int r11.2]) rfl rfl ?_
    refine sx_pop k42_79 rfl ?_
    refine sx_goto (tgt := 115) k42_80 (by decide) ?_
    exact cx_retv k42_115 rt_42 h
  · rw [if_neg hb13] at h
    by_cases hb16 : r5.2 = (2 : Int32)
    · rw [if_pos hb16] at h
      refine sx_lookup (off := 66) (tgt := 83) k42_17 (by decide) (by rw [hb16]; rfl) (by decide) ?_
      refine sx_aload_n (i := 0) k42_83 rfl rfl ?_
      refine cx_getR (k := 4) k42_84 ow_42 fl_1_23 (by decide) sk_101 ft_0_4 sr_101_4 ?_
      refine sx_iload_n (i := 1) k42_87 rfl rfl ?_
      obtain ⟨r14, e15, h⟩ := Option.bind_eq_some_iff.mp h
      refine cx_V (sk := []) (vs := [.int r3.2]) st_42_162 k42_88 ow_42 cl_1_159 (by decide) rfl (Nat.le_of_ble_eq_true rfl) sk_114 (ok162 114 r3.2 sk_114 _ _ e15) (sk3 := []) rfl rfl ?_
      refine sx_goto (tgt := 115) k42_91 (by decide) ?_
      exact cx_retv k42_115 rt_42 h
    · rw [if_neg hb16] at h
      refine sx_lookup (off := 77) (tgt := 94) k42_17 (by decide) (lsw_out (cs := [(1 : Int32), (2 : Int32)]) (by decide) ⟨hb13, hb16, trivial⟩) (by decide) ?_
      refine sx_aload_n (i := 0) k42_94 rfl rfl ?_
      refine cx_getR (k := 4) k42_95 ow_42 fl_1_23 (by decide) sk_101 ft_0_4 sr_101_4 ?_
      refine sx_iload_n (i := 1) k42_98 rfl rfl ?_
      refine sx_aload_n (i := 0) k42_99 rfl rfl ?_
      obtain ⟨r17, e18, h⟩ := Option.bind_eq_some_iff.mp h
      refine cx_V (sk := [.int r3.2, .ref 114]) (vs := []) st_42_23 k42_100 ow_42 cl_1_247 (by decide) rfl (Nat.le_of_ble_eq_true rfl) sk_101 (ok23 _ _ e18) (sk3 := [.int r17.2, .int r3.2, .ref 114]) rfl rfl ?_
      refine sx_iconst (v := 4) k42_103 (by decide) ?_
      by_cases hb19 : r17.2 = (4 : Int32)
      · rw [if_pos hb19] at h
        refine sx_icmp_ne (tgt := 111) k42_104 (by decide) (fun q => absurd hb19 q) (fun _ => ?_)
        refine sx_iconst (v := 1) k42_107 (by decide) ?_
        refine sx_goto (tgt := 112) k42_108 (by decide) ?_
        refine sx_pick (lo2 := []) [] rfl ?_
        exact c42_112_ok r3.2 (1 : Int32) _ _ h
      · rw [if_neg hb19] at h
        refine sx_icmp_ne (tgt := 111) k42_104 (by decide) (fun _ => ?_) (fun q => absurd q hb19)
        refine sx_iconst (v := 0) k42_111 (by decide) ?_
        refine sx_pick (lo2 := []) [] rfl ?_
        exact c42_112_ok r3.2 (0 : Int32) _ _ h
theorem k27_0 : decode (gb 27) 0 = .ok (.aload_n 0, 1) := by decide +kernel
theorem k27_1 : decode (gb 27) 1 = .ok (.iconst 0, 1) := by decide +kernel
theorem k27_2 : decode (gb 27) 2 = .ok (.invokevirtual 193, 3) := by decide +kernel
theorem k27_5 : decode (gb 27) 5 = .ok (.istore_n 1, 1) := by decide +kernel
theorem k27_6 : decode (gb 27) 6 = .ok (.aload_n 0, 1) := by decide +kernel
theorem k27_7 : decode (gb 27) 7 = .ok (.invokevirtual 247, 3) := by decide +kernel
theorem k27_10 : decode (gb 27) 10 = .ok (.iconst 3, 1) := by decide +kernel
theorem k27_11 : decode (gb 27) 11 = .ok (.if_icmp .ne 39, 3) := by decide +kernel
theorem k27_14 : decode (gb 27) 14 = .ok (.iconst 0, 1) := by decide +kernel
theorem k27_15 : decode (gb 27) 15 = .ok (.istore_n 2, 1) := by decide +kernel
theorem k27_16 : decode (gb 27) 16 = .ok (.iload_n 2, 1) := by decide +kernel
theorem k27_17 : decode (gb 27) 17 = .ok (.iload_n 1, 1) := by decide +kernel
theorem k27_18 : decode (gb 27) 18 = .ok (.if_icmp .ge 31, 3) := by decide +kernel
theorem k27_21 : decode (gb 27) 21 = .ok (.aload_n 0, 1) := by decide +kernel
theorem k27_22 : decode (gb 27) 22 = .ok (.aload_n 0, 1) := by decide +kernel
theorem k27_23 : decode (gb 27) 23 = .ok (.iconst 1, 1) := by decide +kernel
theorem k27_24 : decode (gb 27) 24 = .ok (.iconst 5, 1) := by decide +kernel
theorem k27_25 : decode (gb 27) 25 = .ok (.iload_n 2, 1) := by decide +kernel
theorem k27_26 : decode (gb 27) 26 = .ok (.imul, 1) := by decide +kernel
theorem k27_27 : decode (gb 27) 27 = .ok (.iadd, 1) := by decide +kernel
theorem k27_28 : decode (gb 27) 28 = .ok (.invokevirtual 193, 3) := by decide +kernel
theorem k27_31 : decode (gb 27) 31 = .ok (.aload_n 0, 1) := by decide +kernel
theorem k27_32 : decode (gb 27) 32 = .ok (.iconst 2, 1) := by decide +kernel
theorem k27_33 : decode (gb 27) 33 = .ok (.iconst 5, 1) := by decide +kernel
theorem k27_34 : decode (gb 27) 34 = .ok (.iload_n 2, 1) := by decide +kernel
theorem k27_35 : decode (gb 27) 35 = .ok (.imul, 1) := by decide +kernel
theorem k27_36 : decode (gb 27) 36 = .ok (.iadd, 1) := by decide +kernel
theorem k27_37 : decode (gb 27) 37 = .ok (.invokevirtual 180, 3) := by decide +kernel
theorem k27_40 : decode (gb 27) 40 = .ok (.invokevirtual 250, 3) := by decide +kernel
theorem k27_43 : decode (gb 27) 43 = .ok (.iinc 2 1, 3) := by decide +kernel
theorem k27_46 : decode (gb 27) 46 = .ok (.goto (-30), 3) := by decide +kernel
theorem k27_49 : decode (gb 27) 49 = .ok (.return_, 1) := by decide +kernel
theorem k27_50 : decode (gb 27) 50 = .ok (.aload_n 0, 1) := by decide +kernel
theorem k27_51 : decode (gb 27) 51 = .ok (.getfield 51, 3) := by decide +kernel
theorem k27_54 : decode (gb 27) 54 = .ok (.bipush 20, 2) := by decide +kernel
theorem k27_56 : decode (gb 27) 56 = .ok (.iconst 2, 1) := by decide +kernel
theorem k27_57 : decode (gb 27) 57 = .ok (.invokevirtual 116, 3) := by decide +kernel
theorem k27_60 : decode (gb 27) 60 = .ok (.aload_n 0, 1) := by decide +kernel
theorem k27_61 : decode (gb 27) 61 = .ok (.getfield 51, 3) := by decide +kernel
theorem k27_64 : decode (gb 27) 64 = .ok (.getfield 119, 3) := by decide +kernel
theorem k27_67 : decode (gb 27) 67 = .ok (.iload_n 1, 1) := by decide +kernel
theorem k27_68 : decode (gb 27) 68 = .ok (.invokevirtual 122, 3) := by decide +kernel
theorem k27_71 : decode (gb 27) 71 = .ok (.iconst 0, 1) := by decide +kernel
theorem k27_72 : decode (gb 27) 72 = .ok (.istore_n 2, 1) := by decide +kernel
theorem k27_73 : decode (gb 27) 73 = .ok (.iload_n 2, 1) := by decide +kernel
theorem k27_74 : decode (gb 27) 74 = .ok (.iload_n 1, 1) := by decide +kernel
theorem k27_75 : decode (gb 27) 75 = .ok (.if_icmp .ge 20, 3) := by decide +kernel
theorem k27_78 : decode (gb 27) 78 = .ok (.aload_n 0, 1) := by decide +kernel
theorem k27_79 : decode (gb 27) 79 = .ok (.aload_n 0, 1) := by decide +kernel
theorem k27_80 : decode (gb 27) 80 = .ok (.iconst 1, 1) := by decide +kernel
theorem k27_81 : decode (gb 27) 81 = .ok (.iload_n 2, 1) := by decide +kernel
theorem k27_82 : decode (gb 27) 82 = .ok (.iadd, 1) := by decide +kernel
theorem k27_83 : decode (gb 27) 83 = .ok (.invokevirtual 193, 3) := by decide +kernel
theorem k27_86 : decode (gb 27) 86 = .ok (.invokevirtual 253, 3) := by decide +kernel
theorem k27_89 : decode (gb 27) 89 = .ok (.iinc 2 1, 3) := by decide +kernel
theorem k27_92 : decode (gb 27) 92 = .ok (.goto (-19), 3) := by decide +kernel
theorem k27_95 : decode (gb 27) 95 = .ok (.return_, 1) := by decide +kernel
def b27_16 (kl16 : Int32 → Int32 → Mem → Option (Mem)) (v1 : Int32) (v2 : Int32) (μ : Mem) : Option (Mem) :=
  if v1 ≤ v2 then
    some μ
  else
    (f20 ((1 : Int32) + ((5 : Int32) * v2)) μ).bind fun r2 =>
    (f22 ((2 : Int32) + ((5 : Int32) * v2)) r2.1).bind fun r4 =>
    (f28 r2.2 r4.2 r4.1).bind fun r6 =>
    nm (v2 + (1 : Int32)) fun x8 =>
    kl16 v1 x8 r6
theorem b27_16_ok {L : Nat} (kl16 : Int32 → Int32 → Mem → Option (Mem)) (hk16 : (∀ (v1 : Int32) (v2 : Int32) (μ : Mem) (res : Mem), kl16 v1 v2 μ = some res → Sx 27 16 [(0, .ref 101), (1, .int v1), (2, .int v2)] [] 0 0 (mk L μ) (mk L res, none))) (v1 : Int32) (v2 : Int32) (μ : Mem) (res : Mem) (h : b27_16 kl16 v1 v2 μ = some res) : Sx 27 16 [(0, .ref 101), (1, .int v1), (2, .int v2)] [] 0 0 (mk L μ) (mk L res, none) := by
  unfold b27_16 at h
  refine sx_iload_n (i := 2) k27_16 rfl rfl ?_
  refine sx_iload_n (i := 1) k27_17 rfl rfl ?_
  by_cases hb1 : v1 ≤ v2
  · rw [if_pos hb1] at h
    refine sx_icmp_ge (tgt := 49) k27_18 (by decide) (fun _ => ?_) (fun q => absurd hb1 q)
    exact cx_retv k27_49 rt_27 h
  · rw [if_neg hb1] at h
    refine sx_icmp_ge (tgt := 49) k27_18 (by decide) (fun q => absurd q hb1) (fun _ => ?_)
    refine sx_aload_n (i := 0) k27_21 rfl rfl ?_
    refine sx_aload_n (i := 0) k27_22 rfl rfl ?_
    refine sx_iconst (v := 1) k27_23 (by decide) ?_
    refine sx_iconst (v := 5) k27_24 (by decide) ?_
    refine sx_iload_n (i := 2) k27_25 rfl rfl ?_
    refine sx_imul k27_26 ?_
    refine sx_iadd k27_27 ?_
    obtain ⟨r2, e3, h⟩ := Option.bind_eq_some_iff.mp h
    refine cx_V (sk := [.ref 101]) (vs := [.int ((1 : Int32) + ((5 : Int32) * v2))]) st_27_20 k27_28 ow_27 cl_1_193 (by decide) rfl (Nat.le_of_ble_eq_true rfl) sk_101 (ok20 ((1 : Int32) + ((5 : Int32) * v2)) _ _ e3) (sk3 := [.int r2.2, .ref 101]) rfl rfl ?_
    refine sx_aload_n (i := 0) k27_31 rfl rfl ?_
    refine sx_iconst (v := 2) k27_32 (by decide) ?_
    refine sx_iconst (v := 5) k27_33 (by decide) ?_
    refine sx_iload_n (i := 2) k27_34 rfl rfl ?_
    refine sx_imul k27_35 ?_
    refine sx_iadd k27_36 ?_
    obtain ⟨r4, e5, h⟩ := Option.bind_eq_some_iff.mp h
    refine cx_V (sk := [.int r2.2, .ref 101]) (vs := [.int ((2 : Int32) + ((5 : Int32) * v2))]) st_27_22 k27_37 ow_27 cl_1_180 (by decide) rfl (Nat.le_of_ble_eq_true rfl) sk_101 (ok22 ((2 : Int32) + ((5 : Int32) * v2)) _ _ e5) (sk3 := [.int r4.2, .int r2.2, .ref 101]) rfl rfl ?_
    obtain ⟨r6, e7, h⟩ := Option.bind_eq_some_iff.mp h
    refine cx_V (sk := []) (vs := [.int r2.2, .int r4.2]) st_27_28 k27_40 ow_27 cl_1_250 (by decide) rfl (Nat.le_of_ble_eq_true rfl) sk_101 (ok28 r2.2 r4.2 _ _ e7) (sk3 := []) rfl rfl ?_
    refine cx_iinc (c := 1) (lo2 := fun x8 => [(2, .int x8), (0, .ref 101), (1, .int v1)]) k27_43 rfl (by decide) (by rw [mx_27]; decide) (fun _ => rfl) h (fun x8 h => ?_)
    refine sx_goto (tgt := 16) k27_46 (by decide) ?_
    refine sx_pick (lo2 := [(0, .ref 101), (1, .int v1), (2, .int x8)]) [1, 2, 0] rfl ?_
    exact hk16 v1 x8 _ _ h
def l27_16 : Nat → Int32 × Int32 × Mem → Option (Mem) :=
  fixN (fun self x => b27_16 (fun v1 v2 μ => self (v1, v2, μ)) (x.1) (x.2.1) (x.2.2))
theorem l27_16_ok {L : Nat} (n : Nat) (v1 : Int32) (v2 : Int32) (μ : Mem) (res : Mem) (h : l27_16 n (v1, v2, μ) = some res) : Sx 27 16 [(0, .ref 101), (1, .int v1), (2, .int v2)] [] 0 0 (mk L μ) (mk L res, none) := by
  have key := fixN_ind (P := fun x res => Sx 27 16 [(0, .ref 101), (1, .int (x.1)), (2, .int (x.2.1))] [] 0 0 (mk L (x.2.2)) (mk L res, none)) (F := fun self x => b27_16 (fun v1 v2 μ => self (v1, v2, μ)) (x.1) (x.2.1) (x.2.2)) (fun self hself x res h => b27_16_ok (fun v1 v2 μ => self (v1, v2, μ)) (fun v1 v2 μ res hh => hself (v1, v2, μ) res hh) (x.1) (x.2.1) (x.2.2) res h) n (v1, v2, μ) res h
  exact key
def b27_73 (kl73 : Int32 → Int32 → Mem → Option (Mem)) (v1 : Int32) (v2 : Int32) (μ : Mem) : Option (Mem) :=
  if v1 ≤ v2 then
    some μ
  else
    (f20 ((1 : Int32) + v2) μ).bind fun r2 =>
    (f29 r2.2 r2.1).bind fun r4 =>
    nm (v2 + (1 : Int32)) fun x6 =>
    kl73 v1 x6 r4
theorem b27_73_ok {L : Nat} (kl73 : Int32 → Int32 → Mem → Option (Mem)) (hk73 : (∀ (v1 : Int32) (v2 : Int32) (μ : Mem) (res : Mem), kl73 v1 v2 μ = some res → Sx 27 73 [(0, .ref 101), (1, .int v1), (2, .int v2)] [] 0 0 (mk L μ) (mk L res, none))) (v1 : Int32) (v2 : Int32) (μ : Mem) (res : Mem) (h : b27_73 kl73 v1 v2 μ = some res) : Sx 27 73 [(0, .ref 101), (1, .int v1), (2, .int v2)] [] 0 0 (mk L μ) (mk L res, none) := by
  unfold b27_73 at h
  refine sx_iload_n (i := 2) k27_73 rfl rfl ?_
  refine sx_iload_n (i := 1) k27_74 rfl rfl ?_
  by_cases hb1 : v1 ≤ v2
  · rw [if_pos hb1] at h
    refine sx_icmp_ge (tgt := 95) k27_75 (by decide) (fun _ => ?_) (fun q => absurd hb1 q)
    exact cx_retv k27_95 rt_27 h
  · rw [if_neg hb1] at h
    refine sx_icmp_ge (tgt := 95) k27_75 (by decide) (fun q => absurd q hb1) (fun _ => ?_)
    refine sx_aload_n (i := 0) k27_78 rfl rfl ?_
    refine sx_aload_n (i := 0) k27_79 rfl rfl ?_
    refine sx_iconst (v := 1) k27_80 (by decide) ?_
    refine sx_iload_n (i := 2) k27_81 rfl rfl ?_
    refine sx_iadd k27_82 ?_
    obtain ⟨r2, e3, h⟩ := Option.bind_eq_some_iff.mp h
    refine cx_V (sk := [.ref 101]) (vs := [.int ((1 : Int32) + v2)]) st_27_20 k27_83 ow_27 cl_1_193 (by decide) rfl (Nat.le_of_ble_eq_true rfl) sk_101 (ok20 ((1 : Int32) + v2) _ _ e3) (sk3 := [.int r2.2, .ref 101]) rfl rfl ?_
    obtain ⟨r4, e5, h⟩ := Option.bind_eq_some_iff.mp h
    refine cx_V (sk := []) (vs := [.int r2.2]) st_27_29 k27_86 ow_27 cl_1_253 (by decide) rfl (Nat.le_of_ble_eq_true rfl) sk_101 (ok29 r2.2 _ _ e5) (sk3 := []) rfl rfl ?_
    refine cx_iinc (c := 1) (lo2 := fun x6 => [(2, .int x6), (0, .ref 101), (1, .int v1)]) k27_89 rfl (by decide) (by rw [mx_27]; decide) (fun _ => rfl) h (fun x6 h => ?_)
    refine sx_goto (tgt := 73) k27_92 (by decide) ?_
    refine sx_pick (lo2 := [(0, .ref 101), (1, .int v1), (2, .int x6)]) [1, 2, 0] rfl ?_
    exact hk73 v1 x6 _ _ h
def l27_73 : Nat → Int32 × Int32 × Mem → Option (Mem) :=
  fixN (fun self x => b27_73 (fun v1 v2 μ => self (v1, v2, μ)) (x.1) (x.2.1) (x.2.2))
theorem l27_73_ok {L : Nat} (n : Nat) (v1 : Int32) (v2 : Int32) (μ : Mem) (res : Mem) (h : l27_73 n (v1, v2, μ) = some res) : Sx 27 73 [(0, .ref 101), (1, .int v1), (2, .int v2)] [] 0 0 (mk L μ) (mk L res, none) := by
  have key := fixN_ind (P := fun x res => Sx 27 73 [(0, .ref 101), (1, .int (x.1)), (2, .int (x.2.1))] [] 0 0 (mk L (x.2.2)) (mk L res, none)) (F := fun self x => b27_73 (fun v1 v2 μ => self (v1, v2, μ)) (x.1) (x.2.1) (x.2.2)) (fun self hself x res h => b27_73_ok (fun v1 v2 μ => self (v1, v2, μ)) (fun v1 v2 μ res hh => hself (v1, v2, μ) res hh) (x.1) (x.2.1) (x.2.2) res h) n (v1, v2, μ) res h
  exact key
/-- Board.actParameters()V -/
def f27 (μ : Mem) : Option (Mem) :=
  (f20 (0 : Int32) μ).bind fun r1 =>
  (f23 r1.1).bind fun r3 =>
  if r3.2 = (3 : Int32) then
    l27_16 gF (r1.2, (0 : Int32), r3.1)
  else
    (f117 (20 : Int32) (2 : Int32) r3.1).bind fun r6 =>
    (f65 87 r1.2 r6).bind fun r8 =>
    l27_73 gF (r1.2, (0 : Int32), r8)
theorem ok27 {L : Nat} (μ : Mem) (res : Mem) (h : f27 μ = some res) : Mx 27 [.ref 101] (mk L μ) (mk L res, none) := by
  refine Mx_of ml_27 (by rw [mx_27]; exact Nat.le_of_ble_eq_true rfl) ?_
  show Sx 27 0 [(0, .ref 101)] [] 0 0 (mk L μ) _
  unfold f27 at h
  refine sx_aload_n (i := 0) k27_0 rfl rfl ?_
  refine sx_iconst (v := 0) k27_1 (by decide) ?_
  obtain ⟨r1, e2, h⟩ := Option.bind_eq_some_iff.mp h
  refine cx_V (sk := []) (vs := [.int (0 : Int32)]) st_27_20 k27_2 ow_27 cl_1_193 (by decide) rfl (Nat.le_of_ble_eq_true rfl) sk_101 (ok20 (0 : Int32) _ _ e2) (sk3 := [.int r1.2]) rfl rfl ?_
  refine cx_istore_n (lo2 := [(1, .int r1.2), (0, .ref 101)]) k27_5 rfl (by rw [mx_27]; decide) rfl ?_
  refine sx_aload_n (i := 0) k27_6 rfl rfl ?_
  obtain ⟨r3, e4, h⟩ := Option.bind_eq_some_iff.mp h
  refine cx_V (sk := []) (vs := []) st_27_23 k27_7 ow_27 cl_1_247 (by decide) rfl (Nat.le_of_ble_eq_true rfl) sk_101 (ok23 _ _ e4) (sk3 := [.int r3.2]) rfl rfl ?_
  refine sx_iconst (v := 3) k27_10 (by decide) ?_
  by_cases hb5 : r3.2 = (3 : Int32)
  · rw [if_pos hb5] at h
    refine sx_icmp_ne (tgt := 50) k27_11 (by decide) (fun q => absurd hb5 q) (fun _ => ?_)
    refine sx_iconst (v := 0) k27_14 (by decide) ?_
    refine cx_istore_n (lo2 := [(2, .int (0 : Int32)), (1, .int r1.2), (0, .ref 101)]) k27_15 rfl (by rw [mx_27]; decide) rfl ?_
    refine sx_pick (lo2 := [(0, .ref 101), (1, .int r1.2), (2, .int (0 : Int32))]) [2, 1, 0] rfl ?_
    exact l27_16_ok gF r1.2 (0 : Int32) _ _ h
  · rw [if_neg hb5] at h
    refine sx_icmp_ne (tgt := 50) k27_11 (by decide) (fun _ => ?_) (fun q => absurd q hb5)
    refine sx_aload_n (i := 0) k27_50 rfl rfl ?_
    refine cx_getR (k := 0) k27_51 ow_27 fl_1_51 (by decide) sk_101 ft_0_0 sr_101_0 ?_
    refine sx_bipush (v := 20) k27_54 (by decide) ?_
    refine sx_iconst (v := 2) k27_56 (by decide) ?_
    obtain ⟨r6, e7, h⟩ := Option.bind_eq_some_iff.mp h
    refine cx_V (sk := []) (vs := [.int (20 : Int32), .int (2 : Int32)]) st_27_117 k27_57 ow_27 cl_1_116 (by decide) rfl (Nat.le_of_ble_eq_true rfl) sk_57 (ok117 (20 : Int32) (2 : Int32) _ _ e7) (sk3 := []) rfl rfl ?_
    refine sx_aload_n (i := 0) k27_60 rfl rfl ?_
    refine cx_getR (k := 0) k27_61 ow_27 fl_1_51 (by decide) sk_101 ft_0_0 sr_101_0 ?_
    refine cx_getR (k := 5) k27_64 ow_27 fl_1_119 (by decide) sk_57 ft_5_5 sr_57_5 ?_
    refine sx_iload_n (i := 1) k27_67 rfl rfl ?_
    obtain ⟨r8, e9, h⟩ := Option.bind_eq_some_iff.mp h
    refine cx_V (sk := []) (vs := [.int r1.2]) st_27_65 k27_68 ow_27 cl_1_122 (by decide) rfl (Nat.le_of_ble_eq_true rfl) sk_87 (ok65 87 r1.2 sk_87 _ _ e9) (sk3 := []) rfl rfl ?_
    refine sx_iconst (v := 0) k27_71 (by decide) ?_
    refine cx_istore_n (lo2 := [(2, .int (0 : Int32)), (1, .int r1.2), (0, .ref 101)]) k27_72 rfl (by rw [mx_27]; decide) rfl ?_
    refine sx_pick (lo2 := [(0, .ref 101), (1, .int r1.2), (2, .int (0 : Int32))]) [2, 1, 0] rfl ?_
    exact l27_73_ok gF r1.2 (0 : Int32) _ _ h
theorem k25_0 : decode (gb 25) 0 = .ok (.aload_n 0, 1) := by decide +kernel
theorem k25_1 : decode (gb 25) 1 = .ok (.getfield 35, 3) := by decide +kernel
theorem k25_4 : decode (gb 25) 4 = .ok (.bipush 7, 2) := by decide +kernel
theorem k25_6 : decode (gb 25) 6 = .ok (.invokevirtual 105, 3) := by decide +kernel
theorem k25_9 : decode (gb 25) 9 = .ok (.tableswitch 163 3 20 #[87, 163, 94, 101, 163, 108, 163, 163, 115, 122, 163, 163, 129, 163, 136, 163, 149, 156], 87) := by decide +kernel
theorem k25_96 : decode (gb 25) 96 = .ok (.aload_n 0, 1) := by decide +kernel
theorem k25_97 : decode (gb 25) 97 = .ok (.invokevirtual 220, 3) := by decide +kernel
theorem k25_100 : decode (gb 25) 100 = .ok (.goto 72, 3) := by decide +kernel
theorem k25_103 : decode (gb 25) 103 = .ok (.aload_n 0, 1) := by decide +kernel
theorem k25_104 : decode (gb 25) 104 = .ok (.invokevirtual 223, 3) := by decide +kernel
theorem k25_107 : decode (gb 25) 107 = .ok (.goto 65, 3) := by decide +kernel
theorem k25_110 : decode (gb 25) 110 = .ok (.aload_n 0, 1) := by decide +kernel
theorem k25_111 : decode (gb 25) 111 = .ok (.invokevirtual 226, 3) := by decide +kernel
theorem k25_114 : decode (gb 25) 114 = .ok (.goto 58, 3) := by decide +kernel
theorem k25_117 : decode (gb 25) 117 = .ok (.aload_n 0, 1) := by decide +kernel
theorem k25_118 : decode (gb 25) 118 = .ok (.invokevirtual 229, 3) := by decide +kernel
theorem k25_121 : decode (gb 25) 121 = .ok (.goto 51, 3) := by decide +kernel
theorem k25_124 : decode (gb 25) 124 = .ok (.aload_n 0, 1) := by decide +kernel
theorem k25_125 : decode (gb 25) 125 = .ok (.invokevirtual 232, 3) := by decide +kernel
theorem k25_128 : decode (gb 25) 128 = .ok (.goto 44, 3) := by decide +kernel
theorem k25_131 : decode (gb 25) 131 = .ok (.aload_n 0, 1) := by decide +kernel
theorem k25_132 : decode (gb 25) 132 = .ok (.invokevirtual 235, 3) := by decide +kernel
theorem k25_135 : decode (gb 25) 135 = .ok (.goto 37, 3) := by decide +kernel
theorem k25_138 : decode (gb 25) 138 = .ok (.aload_n 0, 1) := by decide +kernel
theorem k25_139 : decode (gb 25) 139 = .ok (.invokevirtual 238, 3) := by decide +kernel
theorem k25_142 : decode (gb 25) 142 = .ok (.goto 30, 3) := by decide +kernel
theorem k25_145 : decode (gb 25) 145 = .ok (.aload_n 0, 1) := by decide +kernel
theorem k25_146 : decode (gb 25) 146 = .ok (.getfield 51, 3) := by decide +kernel
theorem k25_149 : decode (gb 25) 149 = .ok (.bipush 17, 2) := by decide +kernel
theorem k25_151 : decode (gb 25) 151 = .ok (.iconst 2, 1) := by decide +kernel
theorem k25_152 : decode (gb 25) 152 = .ok (.invokevirtual 116, 3) := by decide +kernel
theorem k25_155 : decode (gb 25) 155 = .ok (.goto 17, 3) := by decide +kernel
theorem k25_158 : decode (gb 25) 158 = .ok (.aload_n 0, 1) := by decide +kernel
theorem k25_159 : decode (gb 25) 159 = .ok (.invokevirtual 241, 3) := by decide +kernel
theorem k25_162 : decode (gb 25) 162 = .ok (.goto 10, 3) := by decide +kernel
theorem k25_165 : decode (gb 25) 165 = .ok (.aload_n 0, 1) := by decide +kernel
theorem k25_166 : decode (gb 25) 166 = .ok (.invokevirtual 244, 3) := by decide +kernel
theorem k25_169 : decode (gb 25) 169 = .ok (.goto 3, 3) := by decide +kernel
theorem k25_172 : decode (gb 25) 172 = .ok (.return_, 1) := by decide +kernel
/-- Board.act()V -/
def f25 (μ : Mem) : Option (Mem) :=
  (f75 122 (7 : Int32) μ).bind fun r1 =>
  if r1.2 = (3 : Int32) then
    (f35 r1.1).bind fun r3 =>
    some r3
  else if r1.2 = (4 : Int32) then
    some r1.1
  else if r1.2 = (5 : Int32) then
    (f39 r1.1).bind fun r7 =>
    some r7
  else if r1.2 = (6 : Int32) then
    (f32 r1.1).bind fun r10 =>
    some r10
  else if r1.2 = (7 : Int32) then
    some r1.1
  else if r1.2 = (8 : Int32) then
    (f30 r1.1).bind fun r14 =>
    some r14
  else if r1.2 = (9 : Int32) then
    some r1.1
  else if r1.2 = (10 : Int32) then
    some r1.1
  else if r1.2 = (11 : Int32) then
    (f58 r1.1).bind fun r19 =>
    some r19
  else if r1.2 = (12 : Int32) then
    (f45 r1.1).bind fun r22 =>
    some r22
  else if r1.2 = (13 : Int32) then
    some r1.1
  else if r1.2 = (14 : Int32) then
    some r1.1
  else if r1.2 = (15 : Int32) then
    (f62 r1.1).bind fun r27 =>
    some r27
  else if r1.2 = (16 : Int32) then
    some r1.1
  else if r1.2 = (17 : Int32) then
    (f117 (17 : Int32) (2 : Int32) r1.1).bind fun r31 =>
    some r31
  else if r1.2 = (18 : Int32) then
    some r1.1
  else if r1.2 = (19 : Int32) then
    (f42 r1.1).bind fun r35 =>
    some r35
  else if r1.2 = (20 : Int32) then
    (f27 r1.1).bind fun r38 =>
    some r38
  else 
    some r1.1
theorem ok25 {L : Nat} (μ : Mem) (res : Mem) (h : f25 μ = some res) : Mx 25 [.ref 101] (mk L μ) (mk L res, none) := by
  refine Mx_of ml_25 (by rw [mx_25]; exact Nat.le_of_ble_eq_true rfl) ?_
  show Sx 25 0 [(0, .ref 101)] [] 0 0 (mk L μ) _
  unfold f25 at h
  refine sx_aload_n (i := 0) k25_0 rfl rfl ?_
  refine cx_getR (k := 6) k25_1 ow_25 fl_1_35 (by decide) sk_101 ft_0_6 sr_101_6 ?_
  refine sx_bipush (v := 7) k25_4 (by decide) ?_
  obtain ⟨r1, e2, h⟩ := Option.bind_eq_some_iff.mp h
  refine cx_V (sk := []) (vs := [.int (7 : Int32)]) st_25_75 k25_6 ow_25 cl_1_105 (by decide) rfl (Nat.le_of_ble_eq_true rfl) sk_122 (ok75 122 (7 : Int32) sk_122 _ _ e2) (sk3 := [.int r1.2]) rfl rfl ?_
  by_cases hb5 : r1.2 = (3 : Int32)
  · rw [if_pos hb5] at h
    refine sx_tableIn (off := 87) (tgt := 96) k25_9 (by rw [hb5]; decide) (by rw [hb5]; decide) (by rw [hb5]; rfl) (by decide) ?_
    refine sx_aload_n (i := 0) k25_96 rfl rfl ?_
    obtain ⟨r3, e4, h⟩ := Option.bind_eq_some_iff.mp h
    refine cx_V (sk := []) (vs := []) st_25_35 k25_97 ow_25 cl_1_220 (by decide) rfl (Nat.le_of_ble_eq_true rfl) sk_101 (ok35 _ _ e4) (sk3 := []) rfl rfl ?_
    refine sx_goto (tgt := 172) k25_100 (by decide) ?_
    exact cx_retv k25_172 rt_25 h
  · rw [if_neg hb5] at h
    by_cases hb6 : r1.2 = (4 : Int32)
    · rw [if_pos hb6] at h
      refine sx_tableIn (off := 163) (tgt := 172) k25_9 (by rw [hb6]; decide) (by rw [hb6]; decide) (by rw [hb6]; rfl) (by decide) ?_
      exact cx_retv k25_172 rt_25 h
    · rw [if_neg hb6] at h
      by_cases hb9 : r1.2 = (5 : Int32)
      · rw [if_pos hb9] at h
        refine sx_tableIn (off := 94) (tgt := 103) k25_9 (by rw [hb9]; decide) (by rw [hb9]; decide) (by rw [hb9]; rfl) (by decide) ?_
        refine sx_aload_n (i := 0) k25_103 rfl rfl ?_
        obtain ⟨r7, e8, h⟩ := Option.bind_eq_some_iff.mp h
        refine cx_V (sk := []) (vs := []) st_25_39 k25_104 ow_25 cl_1_223 (by decide) rfl (Nat.le_of_ble_eq_true rfl) sk_101 (ok39 _ _ e8) (sk3 := []) rfl rfl ?_
        refine sx_goto (tgt := 172) k25_107 (by decide) ?_
        exact cx_retv k25_172 rt_25 h
      · rw [if_neg hb9] at h
        by_cases hb12 : r1.2 = (6 : Int32)
        · rw [if_pos hb12] at h
          refine sx_tableIn (off := 101) (tgt := 110) k25_9 (by rw [hb12]; decide) (by rw [hb12]; decide) (by rw [hb12]; rfl) (by decide) ?_
          refine sx_aload_n (i := 0) k25_110 rfl rfl ?_
          obtain ⟨r10, e11, h⟩ := Option.bind_eq_some_iff.mp h
          refine cx_V (sk := []) (vs := []) st_25_32 k25_111 ow_25 cl_1_226 (by decide) rfl (Nat.le_of_ble_eq_true rfl) sk_101 (ok32 _ _ e11) (sk3 := []) rfl rfl ?_
          refine sx_goto (tgt := 172) k25_114 (by decide) ?_
          exact cx_retv k25_172 rt_25 h
        · rw [if_neg hb12] at h
          by_cases hb13 : r1.2 = (7 : Int32)
          · rw [if_pos hb13] at h
            refine sx_tableIn (off := 163) (tgt := 172) k25_9 (by rw [hb13]; decide) (by rw [hb13]; decide) (by rw [hb13]; rfl) (by decide) ?_
            exact cx_retv k25_172 rt_25 h
          · rw [if_neg hb13] at h
            by_cases hb16 : r1.2 = (8 : Int32)
            · rw [if_pos hb16] at h
              refine sx_tableIn (off := 108) (tgt := 117) k25_9 (by rw [hb16]; decide) (by rw [hb16]; decide) (by rw [hb16]; rfl) (by decide) ?_
              refine sx_aload_n (i := 0) k25_117 rfl rfl ?_
              obtain ⟨r14, e15, h⟩ := Option.bind_eq_some_iff.mp h
              refine cx_V (sk := []) (vs := []) st_25_30 k25_118 ow_25 cl_1_229 (by decide) rfl (Nat.le_of_ble_eq_true rfl) sk_101 (ok30 _ _ e15) (sk3 := []) rfl rfl ?_
              refine sx_goto (tgt := 172) k25_121 (by decide) ?_
              exact cx_retv k25_172 rt_25 h
            · rw [if_neg hb16] at h
              by_cases hb17 : r1.2 = (9 : Int32)
              · rw [if_pos hb17] at h
                refine sx_tableIn (off := 163) (tgt := 172) k25_9 (by rw [hb17]; decide) (by rw [hb17]; decide) (by rw [hb17]; rfl) (by decide) ?_
                exact cx_retv k25_172 rt_25 h
              · rw [if_neg hb17] at h
                by_cases hb18 : r1.2 = (10 : Int32)
                · rw [if_pos hb18] at h
                  refine sx_tableIn (off := 163) (tgt := 172) k25_9 (by rw [hb18]; decide) (by rw [hb18]; decide) (by rw [hb18]; rfl) (by decide) ?_
                  exact cx_retv k25_172 rt_25 h
                · rw [if_neg hb18] at h
                  by_cases hb21 : r1.2 = (11 : Int32)
                  · rw [if_pos hb21] at h
                    refine sx_tableIn (off := 115) (tgt := 124) k25_9 (by rw [hb21]; decide) (by rw [hb21]; decide) (by rw [hb21]; rfl) (by decide) ?_
                    refine sx_aload_n (i := 0) k25_124 rfl rfl ?_
                    obtain ⟨r19, e20, h⟩ := Option.bind_eq_some_iff.mp h
                    refine cx_V (sk := []) (vs := []) st_25_58 k25_125 ow_25 cl_1_232 (by decide) rfl (Nat.le_of_ble_eq_true rfl) sk_101 (ok58 _ _ e20) (sk3 := []) rfl rfl ?_
                    refine sx_goto (tgt := 172) k25_128 (by decide) ?_
                    exact cx_retv k25_172 rt_25 h
                  · rw [if_neg hb21] at h
                    by_cases hb24 : r1.2 = (12 : Int32)
                    · rw [if_pos hb24] at h
                      refine sx_tableIn (off := 122) (tgt := 131) k25_9 (by rw [hb24]; decide) (by rw [hb24]; decide) (by rw [hb24]; rfl) (by decide) ?_
                      refine sx_aload_n (i := 0) k25_131 rfl rfl ?_
                      obtain ⟨r22, e23, h⟩ := Option.bind_eq_some_iff.mp h
                      refine cx_V (sk := []) (vs := []) st_25_45 k25_132 ow_25 cl_1_235 (by decide) rfl (Nat.le_of_ble_eq_true rfl) sk_101 (ok45 _ _ e23) (sk3 := []) rfl rfl ?_
                      refine sx_goto (tgt := 172) k25_135 (by decide) ?_
                      exact cx_retv k25_172 rt_25 h
                    · rw [if_neg hb24] at h
                      by_cases hb25 : r1.2 = (13 : Int32)
                      · rw [if_pos hb25] at h
                        refine sx_tableIn (off := 163) (tgt := 172) k25_9 (by rw [hb25]; decide) (by rw [hb25]; decide) (by rw [hb25]; rfl) (by decide) ?_
                        exact cx_retv k25_172 rt_25 h
                      · rw [if_neg hb25] at h
                        by_cases hb26 : r1.2 = (14 : Int32)
                        · rw [if_pos hb26] at h
                          refine sx_tableIn (off := 163) (tgt := 172) k25_9 (by rw [hb26]; decide) (by rw [hb26]; decide) (by rw [hb26]; rfl) (by decide) ?_
                          exact cx_retv k25_172 rt_25 h
                        · rw [if_neg hb26] at h
                          by_cases hb29 : r1.2 = (15 : Int32)
                          · rw [if_pos hb29] at h
                            refine sx_tableIn (off := 129) (tgt := 138) k25_9 (by rw [hb29]; decide) (by rw [hb29]; decide) (by rw [hb29]; rfl) (by decide) ?_
                            refine sx_aload_n (i := 0) k25_138 rfl rfl ?_
                            obtain ⟨r27, e28, h⟩ := Option.bind_eq_some_iff.mp h
                            refine cx_V (sk := []) (vs := []) st_25_62 k25_139 ow_25 cl_1_238 (by decide) rfl (Nat.le_of_ble_eq_true rfl) sk_101 (ok62 _ _ e28) (sk3 := []) rfl rfl ?_
                            refine sx_goto (tgt := 172) k25_142 (by decide) ?_
                            exact cx_retv k25_172 rt_25 h
                          · rw [if_neg hb29] at h
                            by_cases hb30 : r1.2 = (16 : Int32)
                            · rw [if_pos hb30] at h
                              refine sx_tableIn (off := 163) (tgt := 172) k25_9 (by rw [hb30]; decide) (by rw [hb30]; decide) (by rw [hb30]; rfl) (by decide) ?_
                              exact cx_retv k25_172 rt_25 h
                            · rw [if_neg hb30] at h
                              by_cases hb33 : r1.2 = (17 : Int32)
                              · rw [if_pos hb33] at h
                                refine sx_tableIn (off := 136) (tgt := 145) k25_9 (by rw [hb33]; decide) (by rw [hb33]; decide) (by rw [hb33]; rfl) (by decide) ?_
                                refine sx_aload_n (i := 0) k25_145 rfl rfl ?_
                                refine cx_getR (k := 0) k25_146 ow_25 fl_1_51 (by decide) sk_101 ft_0_0 sr_101_0 ?_
                                refine sx_bipush (v := 17) k25_149 (by decide) ?_
                                refine sx_iconst (v := 2) k25_151 (by decide) ?_
                                obtain ⟨r31, e32, h⟩ := Option.bind_eq_some_iff.mp h
                                refine cx_V (sk := []) (vs := [.int (17 : Int32), .int (2 : Int32)]) st_25_117 k25_152 ow_25 cl_1_116 (by decide) rfl (Nat.le_of_ble_eq_true rfl) sk_57 (ok117 (17 : Int32) (2 : Int32) _ _ e32) (sk3 := []) rfl rfl ?_
                                refine sx_goto (tgt := 172) k25_155 (by decide) ?_
                                exact cx_retv k25_172 rt_25 h
                              · rw [if_neg hb33] at h
                                by_cases hb34 : r1.2 = (18 : Int32)
                                · rw [if_pos hb34] at h
                                  refine sx_tableIn (off := 163) (tgt := 172) k25_9 (by rw [hb34]; decide) (by rw [hb34]; decide) (by rw [hb34]; rfl) (by decide) ?_
                                  exact cx_retv k25_172 rt_25 h
                                · rw [if_neg hb34] at h
                                  by_cases hb37 : r1.2 = (19 : Int32)
                                  · rw [if_pos hb37] at h
                                    refine sx_tableIn (off := 149) (tgt := 158) k25_9 (by rw [hb37]; decide) (by rw [hb37]; decide) (by rw [hb37]; rfl) (by decide) ?_
                                    refine sx_aload_n (i := 0) k25_158 rfl rfl ?_
                                    obtain ⟨r35, e36, h⟩ := Option.bind_eq_some_iff.mp h
                                    refine cx_V (sk := []) (vs := []) st_25_42 k25_159 ow_25 cl_1_241 (by decide) rfl (Nat.le_of_ble_eq_true rfl) sk_101 (ok42 _ _ e36) (sk3 := []) rfl rfl ?_
                                    refine sx_goto (tgt := 172) k25_162 (by decide) ?_
                                    exact cx_retv k25_172 rt_25 h
                                  · rw [if_neg hb37] at h
                                    by_cases hb40 : r1.2 = (20 : Int32)
                                    · rw [if_pos hb40] at h
                                      refine sx_tableIn (off := 156) (tgt := 165) k25_9 (by rw [hb40]; decide) (by rw [hb40]; decide) (by rw [hb40]; rfl) (by decide) ?_
                                      refine sx_aload_n (i := 0) k25_165 rfl rfl ?_
                                      obtain ⟨r38, e39, h⟩ := Option.bind_eq_some_iff.mp h
                                      refine cx_V (sk := []) (vs := []) st_25_27 k25_166 ow_25 cl_1_244 (by decide) rfl (Nat.le_of_ble_eq_true rfl) sk_101 (ok27 _ _ e39) (sk3 := []) rfl rfl ?_
                                      refine sx_goto (tgt := 172) k25_169 (by decide) ?_
                                      exact cx_retv k25_172 rt_25 h
                                    · rw [if_neg hb40] at h
                                      refine sx_tableOut (tgt := 172) k25_9 (sw_out (n := 18) (fun j hj => ?_)) (by decide) ?_
                                      · intro hj2
                                        exact sw_no [(3 : Int32), (4 : Int32), (5 : Int32), (6 : Int32), (7 : Int32), (8 : Int32), (9 : Int32), (10 : Int32), (11 : Int32), (12 : Int32), (13 : Int32), (14 : Int32), (15 : Int32), (16 : Int32), (17 : Int32), (18 : Int32), (19 : Int32), (20 : Int32)] (by decide) hj hj2 ⟨hb5, hb6, hb9, hb12, hb13, hb16, hb17, hb18, hb21, hb24, hb25, hb26, hb29, hb30, hb33, hb34, hb37, hb40, trivial⟩
                                      ·
                                        exact cx_retv k25_172 rt_25 h
theorem k19_0 : decode (gb 19) 0 = .ok (.aload_n 0, 1) := by decide +kernel
theorem k19_1 : decode (gb 19) 1 = .ok (.getfield 35, 3) := by decide +kernel
theorem k19_4 : decode (gb 19) 4 = .ok (.bipush 7, 2) := by decide +kernel
theorem k19_6 : decode (gb 19) 6 = .ok (.invokevirtual 128, 3) := by decide +kernel
theorem k19_9 : decode (gb 19) 9 = .ok (.sipush 2049, 3) := by decide +kernel
theorem k19_12 : decode (gb 19) 12 = .ok (.if_icmp .ne 16, 3) := by decide +kernel
theorem k19_15 : decode (gb 19) 15 = .ok (.aload_n 0, 1) := by decide +kernel
theorem k19_16 : decode (gb 19) 16 = .ok (.iconst 0, 1) := by decide +kernel
theorem k19_17 : decode (gb 19) 17 = .ok (.invokevirtual 193, 3) := by decide +kernel
theorem k19_20 : decode (gb 19) 20 = .ok (.iload_n 1, 1) := by decide +kernel
theorem k19_21 : decode (gb 19) 21 = .ok (.if_icmp .ne 7, 3) := by decide +kernel
theorem k19_24 : decode (gb 19) 24 = .ok (.iconst 1, 1) := by decide +kernel
theorem k19_25 : decode (gb 19) 25 = .ok (.goto 4, 3) := by decide +kernel
theorem k19_28 : decode (gb 19) 28 = .ok (.iconst 0, 1) := by decide +kernel
theorem k19_29 : decode (gb 19) 29 = .ok (.ireturn, 1) := by decide +kernel
/-- Board.isFunction(I)Z -/
def f19 (p1 : Int32) (μ : Mem) : Option (Mem × Int32) :=
  (f76 122 (7 : Int32) μ).bind fun r1 =>
  if r1.2 = (2049 : Int32) then
    (f20 (0 : Int32) r1.1).bind fun r4 =>
    if r4.2 = p1 then
      rtZ (1 : Int32) r4.1
    else
      rtZ (0 : Int32) r4.1
  else
    rtZ (0 : Int32) r1.1
theorem ok19 {L : Nat} (p1 : Int32) (μ : Mem) (res : Mem × Int32) (h : f19 p1 μ = some res) : Mx 19 [.ref 101, .int p1] (mk L μ) (mk L res.1, some (.int res.2)) := by
  refine Mx_of ml_19 (by rw [mx_19]; exact Nat.le_of_ble_eq_true rfl) ?_
  show Sx 19 0 [(0, .ref 101), (1, .int p1)] [] 0 0 (mk L μ) _
  unfold f19 at h
  refine sx_aload_n (i := 0) k19_0 rfl rfl ?_
  refine cx_getR (k := 6) k19_1 ow_19 fl_1_35 (by decide) sk_101 ft_0_6 sr_101_6 ?_
  refine sx_bipush (v := 7) k19_4 (by decide) ?_
  obtain ⟨r1, e2, h⟩ := Option.bind_eq_some_iff.mp h
  refine cx_V (sk := []) (vs := [.int (7 : Int32)]) st_19_76 k19_6 ow_19 cl_1_128 (by decide) rfl (Nat.le_of_ble_eq_true rfl) sk_122 (ok76 122 (7 : Int32) sk_122 _ _ e2) (sk3 := [.int r1.2]) rfl rfl ?_
  refine sx_sipush (v := 2049) k19_9 (by decide) ?_
  by_cases hb3 : r1.2 = (2049 : Int32)
  · rw [if_pos hb3] at h
    refine sx_icmp_ne (tgt := 28) k19_12 (by decide) (fun q => absurd hb3 q) (fun _ => ?_)
    refine sx_aload_n (i := 0) k19_15 rfl rfl ?_
    refine sx_iconst (v := 0) k19_16 (by decide) ?_
    obtain ⟨r4, e5, h⟩ := Option.bind_eq_some_iff.mp h
    refine cx_V (sk := []) (vs := [.int (0 : Int32)]) st_19_20 k19_17 ow_19 cl_1_193 (by decide) rfl (Nat.le_of_ble_eq_true rfl) sk_101 (ok20 (0 : Int32) _ _ e5) (sk3 := [.int r4.2]) rfl rfl ?_
    refine sx_iload_n (i := 1) k19_20 rfl rfl ?_
    by_cases hb6 : r4.2 = p1
    · rw [if_pos hb6] at h
      refine sx_icmp_ne (tgt := 28) k19_21 (by decide) (fun q => absurd hb6 q) (fun _ => ?_)
      refine sx_iconst (v := 1) k19_24 (by decide) ?_
      refine sx_goto (tgt := 29) k19_25 (by decide) ?_
      exact cx_retz k19_29 rt_19 h
    · rw [if_neg hb6] at h
      refine sx_icmp_ne (tgt := 28) k19_21 (by decide) (fun _ => ?_) (fun q => absurd q hb6)
      refine sx_iconst (v := 0) k19_28 (by decide) ?_
      exact cx_retz k19_29 rt_19 h
  · rw [if_neg hb3] at h
    refine sx_icmp_ne (tgt := 28) k19_12 (by decide) (fun _ => ?_) (fun q => absurd q hb3)
    refine sx_iconst (v := 0) k19_28 (by decide) ?_
    exact cx_retz k19_29 rt_19 h
theorem k40_0 : decode (gb 40) 0 = .ok (.aload_n 0, 1) := by decide +kernel
theorem k40_1 : decode (gb 40) 1 = .ok (.getfield 38, 3) := by decide +kernel
theorem k40_4 : decode (gb 40) 4 = .ok (.bipush 22, 2) := by decide +kernel
theorem k40_6 : decode (gb 40) 6 = .ok (.dup2, 1) := by decide +kernel
theorem k40_7 : decode (gb 40) 7 = .ok (.iaload, 1) := by decide +kernel
theorem k40_8 : decode (gb 40) 8 = .ok (.iconst 1, 1) := by decide +kernel
theorem k40_9 : decode (gb 40) 9 = .ok (.iadd, 1) := by decide +kernel
theorem k40_10 : decode (gb 40) 10 = .ok (.iastore, 1) := by decide +kernel
theorem k40_11 : decode (gb 40) 11 = .ok (.aload_n 0, 1) := by decide +kernel
theorem k40_12 : decode (gb 40) 12 = .ok (.iload_n 1, 1) := by decide +kernel
theorem k40_13 : decode (gb 40) 13 = .ok (.invokevirtual 288, 3) := by decide +kernel
theorem k40_16 : decode (gb 40) 16 = .ok (.ifCond .eq 46, 3) := by decide +kernel
theorem k40_19 : decode (gb 40) 19 = .ok (.aload_n 0, 1) := by decide +kernel
theorem k40_20 : decode (gb 40) 20 = .ok (.getfield 51, 3) := by decide +kernel
theorem k40_23 : decode (gb 40) 23 = .ok (.iconst 5, 1) := by decide +kernel
theorem k40_24 : decode (gb 40) 24 = .ok (.iconst 1, 1) := by decide +kernel
theorem k40_25 : decode (gb 40) 25 = .ok (.iload_n 1, 1) := by decide +kernel
theorem k40_26 : decode (gb 40) 26 = .ok (.bipush 8, 2) := by decide +kernel
theorem k40_28 : decode (gb 40) 28 = .ok (.idiv, 1) := by decide +kernel
theorem k40_29 : decode (gb 40) 29 = .ok (.iadd, 1) := by decide +kernel
theorem k40_30 : decode (gb 40) 30 = .ok (.invokevirtual 116, 3) := by decide +kernel
theorem k40_33 : decode (gb 40) 33 = .ok (.aload_n 0, 1) := by decide +kernel
theorem k40_34 : decode (gb 40) 34 = .ok (.getfield 51, 3) := by decide +kernel
theorem k40_37 : decode (gb 40) 37 = .ok (.getfield 119, 3) := by decide +kernel
theorem k40_40 : decode (gb 40) 40 = .ok (.iload_n 1, 1) := by decide +kernel
theorem k40_41 : decode (gb 40) 41 = .ok (.invokevirtual 122, 3) := by decide +kernel
theorem k40_44 : decode (gb 40) 44 = .ok (.aload_n 0, 1) := by decide +kernel
theorem k40_45 : decode (gb 40) 45 = .ok (.getfield 51, 3) := by decide +kernel
theorem k40_48 : decode (gb 40) 48 = .ok (.getfield 119, 3) := by decide +kernel
theorem k40_51 : decode (gb 40) 51 = .ok (.iload_n 2, 1) := by decide +kernel
theorem k40_52 : decode (gb 40) 52 = .ok (.invokevirtual 259, 3) := by decide +kernel
theorem k40_55 : decode (gb 40) 55 = .ok (.aload_n 0, 1) := by decide +kernel
theorem k40_56 : decode (gb 40) 56 = .ok (.getfield 51, 3) := by decide +kernel
theorem k40_59 : decode (gb 40) 59 = .ok (.invokevirtual 125, 3) := by decide +kernel
theorem k40_62 : decode (gb 40) 62 = .ok (.aload_n 0, 1) := by decide +kernel
theorem k40_63 : decode (gb 40) 63 = .ok (.getfield 23, 3) := by decide +kernel
theorem k40_66 : decode (gb 40) 66 = .ok (.iload_n 1, 1) := by decide +kernel
theorem k40_67 : decode (gb 40) 67 = .ok (.invokevirtual 291, 3) := by decide +kernel
theorem k40_70 : decode (gb 40) 70 = .ok (.istore 4, 2) := by decide +kernel
theorem k40_72 : decode (gb 40) 72 = .ok (.iload 4, 2) := by decide +kernel
theorem k40_74 : decode (gb 40) 74 = .ok (.ifCond .lt 20, 3) := by decide +kernel
theorem k40_77 : decode (gb 40) 77 = .ok (.aload_n 0, 1) := by decide +kernel
theorem k40_78 : decode (gb 40) 78 = .ok (.getfield 23, 3) := by decide +kernel
theorem k40_81 : decode (gb 40) 81 = .ok (.iload 4, 2) := by decide +kernel
theorem k40_83 : decode (gb 40) 83 = .ok (.invokevirtual 294, 3) := by decide +kernel
theorem k40_86 : decode (gb 40) 86 = .ok (.ifCond .eq 8, 3) := by decide +kernel
theorem k40_89 : decode (gb 40) 89 = .ok (.iload_n 3, 1) := by decide +kernel
theorem k40_90 : decode (gb 40) 90 = .ok (.iconst 4, 1) := by decide +kernel
theorem k40_91 : decode (gb 40) 91 = .ok (.if_icmp .lt 5, 3) := by decide +kernel
theorem k40_94 : decode (gb 40) 94 = .ok (.iconst 0, 1) := by decide +kernel
theorem k40_95 : decode (gb 40) 95 = .ok (.ireturn, 1) := by decide +kernel
theorem k40_96 : decode (gb 40) 96 = .ok (.aload_n 0, 1) := by decide +kernel
theorem k40_97 : decode (gb 40) 97 = .ok (.getfield 23, 3) := by decide +kernel
theorem k40_100 : decode (gb 40) 100 = .ok (.iload 4, 2) := by decide +kernel
theorem k40_102 : decode (gb 40) 102 = .ok (.aload_n 0, 1) := by decide +kernel
theorem k40_103 : decode (gb 40) 103 = .ok (.getfield 31, 3) := by decide +kernel
theorem k40_106 : decode (gb 40) 106 = .ok (.invokevirtual 155, 3) := by decide +kernel
theorem k40_109 : decode (gb 40) 109 = .ok (.iconst 1, 1) := by decide +kernel
theorem k40_110 : decode (gb 40) 110 = .ok (.ireturn, 1) := by decide +kernel
def c40_62 (v1 : Int32) (v3 : Int32) (μ : Mem) : Option (Mem × Int32) :=
  (f165 114 v1 μ).bind fun r1 =>
  if r1.2 < 0 then
    rtZ (0 : Int32) r1.1
  else
    (f168 114 r1.2 r1.1).bind fun r4 =>
    if r4.2 = 0 then
      rtZ (0 : Int32) r4.1
    else
      if v3 < (4 : Int32) then
        (f164 114 r1.2 120 r4.1).bind fun r8 =>
        rtZ (1 : Int32) r8
      else
        rtZ (0 : Int32) r4.1
theorem c40_62_ok {L : Nat} (v1 : Int32) (v3 : Int32) (μ : Mem) (res : Mem × Int32) (h : c40_62 v1 v3 μ = some res) : Sx 40 62 [(0, .ref 101), (1, .int v1), (3, .int v3)] [] 0 0 (mk L μ) (mk L res.1, some (.int res.2)) := by
  unfold c40_62 at h
  refine sx_aload_n (i := 0) k40_62 rfl rfl ?_
  refine cx_getR (k := 4) k40_63 ow_40 fl_1_23 (by decide) sk_101 ft_0_4 sr_101_4 ?_
  refine sx_iload_n (i := 1) k40_66 rfl rfl ?_
  obtain ⟨r1, e2, h⟩ := Option.bind_eq_some_iff.mp h
  refine cx_V (sk := []) (vs := [.int v1]) st_40_165 k40_67 ow_40 cl_1_291 (by decide) rfl (Nat.le_of_ble_eq_true rfl) sk_114 (ok165 114 v1 sk_114 _ _ e2) (sk3 := [.int r1.2]) rfl rfl ?_
  refine cx_istore (lo2 := [(4, .int r1.2), (0, .ref 101), (1, .int v1), (3, .int v3)]) k40_70 (by rw [mx_40]; decide) rfl ?_
  refine sx_iload k40_72 rfl ?_
  by_cases hb3 : r1.2 < 0
  · rw [if_pos hb3] at h
    refine sx_if_lt (tgt := 94) k40_74 (by decide) (fun _ => ?_) (fun q => absurd hb3 q)
    refine sx_iconst (v := 0) k40_94 (by decide) ?_
    exact cx_retz k40_95 rt_40 h
  · rw [if_neg hb3] at h
    refine sx_if_lt (tgt := 94) k40_74 (by decide) (fun q => absurd q hb3) (fun _ => ?_)
    refine sx_aload_n (i := 0) k40_77 rfl rfl ?_
    refine cx_getR (k := 4) k40_78 ow_40 fl_1_23 (by decide) sk_101 ft_0_4 sr_101_4 ?_
    refine sx_iload k40_81 rfl ?_
    obtain ⟨r4, e5, h⟩ := Option.bind_eq_some_iff.mp h
    refine cx_V (sk := []) (vs := [.int r1.2]) st_40_168 k40_83 ow_40 cl_1_294 (by decide) rfl (Nat.le_of_ble_eq_true rfl) sk_114 (ok168 114 r1.2 sk_114 _ _ e5) (sk3 := [.int r4.2]) rfl rfl ?_
    by_cases hb6 : r4.2 = 0
    · rw [if_pos hb6] at h
      refine sx_if_eq (tgt := 94) k40_86 (by decide) (fun _ => ?_) (fun q => absurd hb6 q)
      refine sx_iconst (v := 0) k40_94 (by decide) ?_
      exact cx_retz k40_95 rt_40 h
    · rw [if_neg hb6] at h
      refine sx_if_eq (tgt := 94) k40_86 (by decide) (fun q => absurd q hb6) (fun _ => ?_)
      refine sx_iload_n (i := 3) k40_89 rfl rfl ?_
      refine sx_iconst (v := 4) k40_90 (by decide) ?_
      by_cases hb7 : v3 < (4 : Int32)
      · rw [if_pos hb7] at h
        refine sx_icmp_lt (tgt := 96) k40_91 (by decide) (fun _ => ?_) (fun q => absurd hb7 q)
        refine sx_aload_n (i := 0) k40_96 rfl rfl ?_
        refine cx_getR (k := 4) k40_97 ow_40 fl_1_23 (by decide) sk_101 ft_0_4 sr_101_4 ?_
        refine sx_iload k40_100 rfl ?_
        refine sx_aload_n (i := 0) k40_102 rfl rfl ?_
        refine cx_getR (k := 5) k40_103 ow_40 fl_1_31 (by decide) sk_101 ft_0_5 sr_101_5 ?_
        obtain ⟨r8, e9, h⟩ := Option.bind_eq_some_iff.mp h
        refine cx_V (sk := []) (vs := [.int r1.2, .ref 120]) st_40_164 k40_106 ow_40 cl_1_155 (by decide) rfl (Nat.le_of_ble_eq_true rfl) sk_114 (ok164 114 r1.2 120 sk_114 sk_120 _ _ e9) (sk3 := []) rfl rfl ?_
        refine sx_iconst (v := 1) k40_109 (by decide) ?_
        exact cx_retz k40_110 rt_40 h
      · rw [if_neg hb7] at h
        refine sx_icmp_lt (tgt := 96) k40_91 (by decide) (fun q => absurd q hb7) (fun _ => ?_)
        refine sx_iconst (v := 0) k40_94 (by decide) ?_
        exact cx_retz k40_95 rt_40 h
/-- Board.happen(III)Z -/
def f40 (p1 : Int32) (p2 : Int32) (p3 : Int32) (μ : Mem) : Option (Mem × Int32) :=
  (ldA 124 (22 : Int32) μ).bind fun x1 =>
  (stA 124 (22 : Int32) (x1 + (1 : Int32)) μ).bind fun m3 =>
  (f7 p1 m3).bind fun r5 =>
  if r5.2 = 0 then
    c40_62 p1 p3 r5.1
  else
    (f117 (5 : Int32) ((1 : Int32) + (p1 / (8 : Int32))) r5.1).bind fun r8 =>
    (f65 87 p1 r8).bind fun r10 =>
    (f67 87 p2 r10).bind fun r12 =>
    (f119 r12).bind fun r14 =>
    c40_62 p1 p3 r14
theorem ok40 {L : Nat} (p1 : Int32) (p2 : Int32) (p3 : Int32) (μ : Mem) (res : Mem × Int32) (h : f40 p1 p2 p3 μ = some res) : Mx 40 [.ref 101, .int p1, .int p2, .int p3] (mk L μ) (mk L res.1, some (.int res.2)) := by
  refine Mx_of ml_40 (by rw [mx_40]; exact Nat.le_of_ble_eq_true rfl) ?_
  show Sx 40 0 [(0, .ref 101), (1, .int p1), (2, .int p2), (3, .int p3)] [] 0 0 (mk L μ) _
  unfold f40 at h
  refine sx_aload_n (i := 0) k40_0 rfl rfl ?_
  refine cx_getR (k := 7) k40_1 ow_40 fl_1_38 (by decide) sk_101 ft_0_7 sr_101_7 ?_
  refine sx_bipush (v := 22) k40_4 (by decide) ?_
  refine sx_dup2 k40_6 rfl rfl ?_
  obtain ⟨x1, e2, h⟩ := Option.bind_eq_some_iff.mp h
  refine cx_iald k40_7 sk_124 e2 ?_
  refine sx_iconst (v := 1) k40_8 (by decide) ?_
  refine sx_iadd k40_9 ?_
  obtain ⟨m3, e4, h⟩ := Option.bind_eq_some_iff.mp h
  refine cx_iast k40_10 sk_124 e4 ?_
  refine sx_aload_n (i := 0) k40_11 rfl rfl ?_
  refine sx_iload_n (i := 1) k40_12 rfl rfl ?_
  obtain ⟨r5, e6, h⟩ := Option.bind_eq_some_iff.mp h
  refine cx_V (sk := []) (vs := [.int p1]) st_40_7 k40_13 ow_40 cl_1_288 (by decide) rfl (Nat.le_of_ble_eq_true rfl) sk_101 (ok7 p1 _ _ e6) (sk3 := [.int r5.2]) rfl rfl ?_
  by_cases hb7 : r5.2 = 0
  · rw [if_pos hb7] at h
    refine sx_if_eq (tgt := 62) k40_16 (by decide) (fun _ => ?_) (fun q => absurd hb7 q)
    refine sx_pick (lo2 := [(0, .ref 101), (1, .int p1), (3, .int p3)]) [0, 1, 3] rfl ?_
    exact c40_62_ok p1 p3 _ _ h
  · rw [if_neg hb7] at h
    refine sx_if_eq (tgt := 62) k40_16 (by decide) (fun q => absurd q hb7) (fun _ => ?_)
    refine sx_aload_n (i := 0) k40_19 rfl rfl ?_
    refine cx_getR (k := 0) k40_20 ow_40 fl_1_51 (by decide) sk_101 ft_0_0 sr_101_0 ?_
    refine sx_iconst (v := 5) k40_23 (by decide) ?_
    refine sx_iconst (v := 1) k40_24 (by decide) ?_
    refine sx_iload_n (i := 1) k40_25 rfl rfl ?_
    refine sx_bipush (v := 8) k40_26 (by decide) ?_
    refine sx_idiv k40_28 (by decide) ?_
    refine sx_iadd k40_29 ?_
    obtain ⟨r8, e9, h⟩ := Option.bind_eq_some_iff.mp h
    refine cx_V (sk := []) (vs := [.int (5 : Int32), .int ((1 : Int32) + (p1 / (8 : Int32)))]) st_40_117 k40_30 ow_40 cl_1_116 (by decide) rfl (Nat.le_of_ble_eq_true rfl) sk_57 (ok117 (5 : Int32) ((1 : Int32) + (p1 / (8 : Int32))) _ _ e9) (sk3 := []) rfl rfl ?_
    refine sx_aload_n (i := 0) k40_33 rfl rfl ?_
    refine cx_getR (k := 0) k40_34 ow_40 fl_1_51 (by decide) sk_101 ft_0_0 sr_101_0 ?_
    refine cx_getR (k := 5) k40_37 ow_40 fl_1_119 (by decide) sk_57 ft_5_5 sr_57_5 ?_
    refine sx_iload_n (i := 1) k40_40 rfl rfl ?_
    obtain ⟨r10, e11, h⟩ := Option.bind_eq_some_iff.mp h
    refine cx_V (sk := []) (vs := [.int p1]) st_40_65 k40_41 ow_40 cl_1_122 (by decide) rfl (Nat.le_of_ble_eq_true rfl) sk_87 (ok65 87 p1 sk_87 _ _ e11) (sk3 := []) rfl rfl ?_
    refine sx_aload_n (i := 0) k40_44 rfl rfl ?_
    refine cx_getR (k := 0) k40_45 ow_40 fl_1_51 (by decide) sk_101 ft_0_0 sr_101_0 ?_
    refine cx_getR (k := 5) k40_48 ow_40 fl_1_119 (by decide) sk_57 ft_5_5 sr_57_5 ?_
    refine sx_iload_n (i := 2) k40_51 rfl rfl ?_
    obtain ⟨r12, e13, h⟩ := Option.bind_eq_some_iff.mp h
    refine cx_V (sk := []) (vs := [.int p2]) st_40_67 k40_52 ow_40 cl_1_259 (by decide) rfl (Nat.le_of_ble_eq_true rfl) sk_87 (ok67 87 p2 sk_87 _ _ e13) (sk3 := []) rfl rfl ?_
    refine sx_aload_n (i := 0) k40_55 rfl rfl ?_
    refine cx_getR (k := 0) k40_56 ow_40 fl_1_51 (by decide) sk_101 ft_0_0 sr_101_0 ?_
    obtain ⟨r14, e15, h⟩ := Option.bind_eq_some_iff.mp h
    refine cx_V (sk := []) (vs := []) st_40_119 k40_59 ow_40 cl_1_125 (by decide) rfl (Nat.le_of_ble_eq_true rfl) sk_57 (ok119 _ _ e15) (sk3 := []) rfl rfl ?_
    refine sx_pick (lo2 := [(0, .ref 101), (1, .int p1), (3, .int p3)]) [0, 1, 3] rfl ?_
    exact c40_62_ok p1 p3 _ _ h
theorem k17_0 : decode (gb 17) 0 = .ok (.aload_n 0, 1) := by decide +kernel
theorem k17_1 : decode (gb 17) 1 = .ok (.getfield 35, 3) := by decide +kernel
theorem k17_4 : decode (gb 17) 4 = .ok (.bipush 6, 2) := by decide +kernel
theorem k17_6 : decode (gb 17) 6 = .ok (.invokevirtual 105, 3) := by decide +kernel
theorem k17_9 : decode (gb 17) 9 = .ok (.iconst 1, 1) := by decide +kernel
theorem k17_10 : decode (gb 17) 10 = .ok (.iand, 1) := by decide +kernel
theorem k17_11 : decode (gb 17) 11 = .ok (.ifCond .eq 14, 3) := by decide +kernel
theorem k17_14 : decode (gb 17) 14 = .ok (.aload_n 0, 1) := by decide +kernel
theorem k17_15 : decode (gb 17) 15 = .ok (.aload_n 0, 1) := by decide +kernel
theorem k17_16 : decode (gb 17) 16 = .ok (.getfield 35, 3) := by decide +kernel
theorem k17_19 : decode (gb 17) 19 = .ok (.bipush 7, 2) := by decide +kernel
theorem k17_21 : decode (gb 17) 21 = .ok (.iconst 0, 1) := by decide +kernel
theorem k17_22 : decode (gb 17) 22 = .ok (.invokevirtual 101, 3) := by decide +kernel
theorem k17_25 : decode (gb 17) 25 = .ok (.aload_n 0, 1) := by decide +kernel
theorem k17_26 : decode (gb 17) 26 = .ok (.getfield 38, 3) := by decide +kernel
theorem k17_29 : decode (gb 17) 29 = .ok (.bipush 20, 2) := by decide +kernel
theorem k17_31 : decode (gb 17) 31 = .ok (.dup2, 1) := by decide +kernel
theorem k17_32 : decode (gb 17) 32 = .ok (.iaload, 1) := by decide +kernel
theorem k17_33 : decode (gb 17) 33 = .ok (.iconst 1, 1) := by decide +kernel
theorem k17_34 : decode (gb 17) 34 = .ok (.iadd, 1) := by decide +kernel
theorem k17_35 : decode (gb 17) 35 = .ok (.iastore, 1) := by decide +kernel
theorem k17_36 : decode (gb 17) 36 = .ok (.return_, 1) := by decide +kernel
def c17_25 (μ : Mem) : Option (Mem) :=
  (ldA 124 (20 : Int32) μ).bind fun x1 =>
  (stA 124 (20 : Int32) (x1 + (1 : Int32)) μ).bind fun m3 =>
  some m3
theorem c17_25_ok {L : Nat} (μ : Mem) (res : Mem) (h : c17_25 μ = some res) : Sx 17 25 [(0, .ref 101)] [] 0 0 (mk L μ) (mk L res, none) := by
  unfold c17_25 at h
  refine sx_aload_n (i := 0) k17_25 rfl rfl ?_
  refine cx_getR (k := 7) k17_26 ow_17 fl_1_38 (by decide) sk_101 ft_0_7 sr_101_7 ?_
  refine sx_bipush (v := 20) k17_29 (by decide) ?_
  refine sx_dup2 k17_31 rfl rfl ?_
  obtain ⟨x1, e2, h⟩ := Option.bind_eq_some_iff.mp h
  refine cx_iald k17_32 sk_124 e2 ?_
  refine sx_iconst (v := 1) k17_33 (by decide) ?_
  refine sx_iadd k17_34 ?_
  obtain ⟨m3, e4, h⟩ := Option.bind_eq_some_iff.mp h
  refine cx_iast k17_35 sk_124 e4 ?_
  exact cx_retv k17_36 rt_17 h
/-- Board.succeed()V -/
def f17 (μ : Mem) : Option (Mem) :=
  (f75 122 (6 : Int32) μ).bind fun r1 =>
  if (r1.2 &&& (1 : Int32)) = 0 then
    c17_25 r1.1
  else
    (f11 122 (7 : Int32) (0 : Int32) r1.1).bind fun r4 =>
    c17_25 r4
theorem ok17 {L : Nat} (μ : Mem) (res : Mem) (h : f17 μ = some res) : Mx 17 [.ref 101] (mk L μ) (mk L res, none) := by
  refine Mx_of ml_17 (by rw [mx_17]; exact Nat.le_of_ble_eq_true rfl) ?_
  show Sx 17 0 [(0, .ref 101)] [] 0 0 (mk L μ) _
  unfold f17 at h
  refine sx_aload_n (i := 0) k17_0 rfl rfl ?_
  refine cx_getR (k := 6) k17_1 ow_17 fl_1_35 (by decide) sk_101 ft_0_6 sr_101_6 ?_
  refine sx_bipush (v := 6) k17_4 (by decide) ?_
  obtain ⟨r1, e2, h⟩ := Option.bind_eq_some_iff.mp h
  refine cx_V (sk := []) (vs := [.int (6 : Int32)]) st_17_75 k17_6 ow_17 cl_1_105 (by decide) rfl (Nat.le_of_ble_eq_true rfl) sk_122 (ok75 122 (6 : Int32) sk_122 _ _ e2) (sk3 := [.int r1.2]) rfl rfl ?_
  refine sx_iconst (v := 1) k17_9 (by decide) ?_
  refine sx_iand k17_10 ?_
  by_cases hb3 : (r1.2 &&& (1 : Int32)) = 0
  · rw [if_pos hb3] at h
    refine sx_if_eq (tgt := 25) k17_11 (by decide) (fun _ => ?_) (fun q => absurd hb3 q)
    refine sx_pick (lo2 := [(0, .ref 101)]) [0] rfl ?_
    exact c17_25_ok _ _ h
  · rw [if_neg hb3] at h
    refine sx_if_eq (tgt := 25) k17_11 (by decide) (fun q => absurd q hb3) (fun _ => ?_)
    refine sx_aload_n (i := 0) k17_14 rfl rfl ?_
    refine sx_aload_n (i := 0) k17_15 rfl rfl ?_
    refine cx_getR (k := 6) k17_16 ow_17 fl_1_35 (by decide) sk_101 ft_0_6 sr_101_6 ?_
    refine sx_bipush (v := 7) k17_19 (by decide) ?_
    refine sx_iconst (v := 0) k17_21 (by decide) ?_
    obtain ⟨r4, e5, h⟩ := Option.bind_eq_some_iff.mp h
    refine cx_V (sk := []) (vs := [.ref 122, .int (7 : Int32), .int (0 : Int32)]) st_17_11 k17_22 ow_17 cl_1_101 (by decide) rfl (Nat.le_of_ble_eq_true rfl) sk_101 (ok11 122 (7 : Int32) (0 : Int32) sk_122 _ _ e5) (sk3 := []) rfl rfl ?_
    refine sx_pick (lo2 := [(0, .ref 101)]) [0] rfl ?_
    exact c17_25_ok _ _ h
theorem k16_0 : decode (gb 16) 0 = .ok (.aload_n 0, 1) := by decide +kernel
theorem k16_1 : decode (gb 16) 1 = .ok (.getfield 16, 3) := by decide +kernel
theorem k16_4 : decode (gb 16) 4 = .ok (.getfield 75, 3) := by decide +kernel
theorem k16_7 : decode (gb 16) 7 = .ok (.iconst 4, 1) := by decide +kernel
theorem k16_8 : decode (gb 16) 8 = .ok (.invokestatic 147, 3) := by decide +kernel
theorem k16_11 : decode (gb 16) 11 = .ok (.istore_n 1, 1) := by decide +kernel
theorem k16_12 : decode (gb 16) 12 = .ok (.iconst 0, 1) := by decide +kernel
theorem k16_13 : decode (gb 16) 13 = .ok (.istore_n 2, 1) := by decide +kernel
theorem k16_14 : decode (gb 16) 14 = .ok (.iload_n 2, 1) := by decide +kernel
theorem k16_15 : decode (gb 16) 15 = .ok (.iload_n 1, 1) := by decide +kernel
theorem k16_16 : decode (gb 16) 16 = .ok (.if_icmp .ge 171, 3) := by decide +kernel
theorem k16_19 : decode (gb 16) 19 = .ok (.aload_n 0, 1) := by decide +kernel
theorem k16_20 : decode (gb 16) 20 = .ok (.getfield 16, 3) := by decide +kernel
theorem k16_23 : decode (gb 16) 23 = .ok (.iconst 0, 1) := by decide +kernel
theorem k16_24 : decode (gb 16) 24 = .ok (.invokevirtual 152, 3) := by decide +kernel
theorem k16_27 : decode (gb 16) 27 = .ok (.istore_n 3, 1) := by decide +kernel
theorem k16_28 : decode (gb 16) 28 = .ok (.aload_n 0, 1) := by decide +kernel
theorem k16_29 : decode (gb 16) 29 = .ok (.getfield 16, 3) := by decide +kernel
theorem k16_32 : decode (gb 16) 32 = .ok (.iconst 0, 1) := by decide +kernel
theorem k16_33 : decode (gb 16) 33 = .ok (.aload_n 0, 1) := by decide +kernel
theorem k16_34 : decode (gb 16) 34 = .ok (.getfield 35, 3) := by decide +kernel
theorem k16_37 : decode (gb 16) 37 = .ok (.invokevirtual 155, 3) := by decide +kernel
theorem k16_40 : decode (gb 16) 40 = .ok (.aload_n 0, 1) := by decide +kernel
theorem k16_41 : decode (gb 16) 41 = .ok (.getfield 16, 3) := by decide +kernel
theorem k16_44 : decode (gb 16) 44 = .ok (.iconst 0, 1) := by decide +kernel
theorem k16_45 : decode (gb 16) 45 = .ok (.invokevirtual 159, 3) := by decide +kernel
theorem k16_48 : decode (gb 16) 48 = .ok (.aload_n 0, 1) := by decide +kernel
theorem k16_49 : decode (gb 16) 49 = .ok (.getfield 55, 3) := by decide +kernel
theorem k16_52 : decode (gb 16) 52 = .ok (.iconst 0, 1) := by decide +kernel
theorem k16_53 : decode (gb 16) 53 = .ok (.putfield 162, 3) := by decide +kernel
theorem k16_56 : decode (gb 16) 56 = .ok (.aload_n 0, 1) := by decide +kernel
theorem k16_57 : decode (gb 16) 57 = .ok (.invokevirtual 165, 3) := by decide +kernel
theorem k16_60 : decode (gb 16) 60 = .ok (.istore 4, 2) := by decide +kernel
theorem k16_62 : decode (gb 16) 62 = .ok (.iload 4, 2) := by decide +kernel
theorem k16_64 : decode (gb 16) 64 = .ok (.ifCond .eq 13, 3) := by decide +kernel
theorem k16_67 : decode (gb 16) 67 = .ok (.aload_n 0, 1) := by decide +kernel
theorem k16_68 : decode (gb 16) 68 = .ok (.iconst 4, 1) := by decide +kernel
theorem k16_69 : decode (gb 16) 69 = .ok (.iload 4, 2) := by decide +kernel
theorem k16_71 : decode (gb 16) 71 = .ok (.invokevirtual 168, 3) := by decide +kernel
theorem k16_74 : decode (gb 16) 74 = .ok (.goto 107, 3) := by decide +kernel
theorem k16_77 : decode (gb 16) 77 = .ok (.aload_n 0, 1) := by decide +kernel
theorem k16_78 : decode (gb 16) 78 = .ok (.getfield 35, 3) := by decide +kernel
theorem k16_81 : decode (gb 16) 81 = .ok (.bipush 6, 2) := by decide +kernel
theorem k16_83 : decode (gb 16) 83 = .ok (.invokevirtual 105, 3) := by decide +kernel
theorem k16_86 : decode (gb 16) 86 = .ok (.iconst 4, 1) := by decide +kernel
theorem k16_87 : decode (gb 16) 87 = .ok (.iand, 1) := by decide +kernel
theorem k16_88 : decode (gb 16) 88 = .ok (.ifCond .eq 13, 3) := by decide +kernel
theorem k16_91 : decode (gb 16) 91 = .ok (.aload_n 0, 1) := by decide +kernel
theorem k16_92 : decode (gb 16) 92 = .ok (.aload_n 0, 1) := by decide +kernel
theorem k16_93 : decode (gb 16) 93 = .ok (.getfield 35, 3) := by decide +kernel
theorem k16_96 : decode (gb 16) 96 = .ok (.iconst 3, 1) := by decide +kernel
theorem k16_97 : decode (gb 16) 97 = .ok (.iconst 0, 1) := by decide +kernel
theorem k16_98 : decode (gb 16) 98 = .ok (.invokevirtual 101, 3) := by decide +kernel
theorem k16_101 : decode (gb 16) 101 = .ok (.aload_n 0, 1) := by decide +kernel
theorem k16_102 : decode (gb 16) 102 = .ok (.invokevirtual 171, 3) := by decide +kernel
theorem k16_105 : decode (gb 16) 105 = .ok (.aload_n 0, 1) := by decide +kernel
theorem k16_106 : decode (gb 16) 106 = .ok (.getfield 51, 3) := by decide +kernel
theorem k16_109 : decode (gb 16) 109 = .ok (.invokevirtual 174, 3) := by decide +kernel
theorem k16_112 : decode (gb 16) 112 = .ok (.ifCond .eq 10, 3) := by decide +kernel
theorem k16_115 : decode (gb 16) 115 = .ok (.aload_n 0, 1) := by decide +kernel
theorem k16_116 : decode (gb 16) 116 = .ok (.getfield 51, 3) := by decide +kernel
theorem k16_119 : decode (gb 16) 119 = .ok (.invokevirtual 125, 3) := by decide +kernel
theorem k16_122 : decode (gb 16) 122 = .ok (.aload_n 0, 1) := by decide +kernel
theorem k16_123 : decode (gb 16) 123 = .ok (.iconst 3, 1) := by decide +kernel
theorem k16_124 : decode (gb 16) 124 = .ok (.invokevirtual 177, 3) := by decide +kernel
theorem k16_127 : decode (gb 16) 127 = .ok (.ifCond .eq 31, 3) := by decide +kernel
theorem k16_130 : decode (gb 16) 130 = .ok (.aload_n 0, 1) := by decide +kernel
theorem k16_131 : decode (gb 16) 131 = .ok (.aload_n 0, 1) := by decide +kernel
theorem k16_132 : decode (gb 16) 132 = .ok (.iconst 1, 1) := by decide +kernel
theorem k16_133 : decode (gb 16) 133 = .ok (.invokevirtual 180, 3) := by decide +kernel
theorem k16_136 : decode (gb 16) 136 = .ok (.bipush 31, 2) := by decide +kernel
theorem k16_138 : decode (gb 16) 138 = .ok (.iand, 1) := by decide +kernel
theorem k16_139 : decode (gb 16) 139 = .ok (.aload_n 0, 1) := by decide +kernel
theorem k16_140 : decode (gb 16) 140 = .ok (.iconst 1, 1) := by decide +kernel
theorem k16_141 : decode (gb 16) 141 = .ok (.invokevirtual 180, 3) := by decide +kernel
theorem k16_144 : decode (gb 16) 144 = .ok (.iload_n 3, 1) := by decide +kernel
theorem k16_145 : decode (gb 16) 145 = .ok (.invokevirtual 183, 3) := by decide +kernel
theorem k16_148 : decode (gb 16) 148 = .ok (.ifCond .eq 10, 3) := by decide +kernel
theorem k16_151 : decode (gb 16) 151 = .ok (.aload_n 0, 1) := by decide +kernel
theorem k16_152 : decode (gb 16) 152 = .ok (.iload_n 3, 1) := by decide +kernel
theorem k16_153 : decode (gb 16) 153 = .ok (.iconst 1, 1) := by decide +kernel
theorem k16_154 : decode (gb 16) 154 = .ok (.iadd, 1) := by decide +kernel
theorem k16_155 : decode (gb 16) 155 = .ok (.invokevirtual 187, 3) := by decide +kernel
theorem k16_158 : decode (gb 16) 158 = .ok (.aload_n 0, 1) := by decide +kernel
theorem k16_159 : decode (gb 16) 159 = .ok (.iconst 2, 1) := by decide +kernel
theorem k16_160 : decode (gb 16) 160 = .ok (.invokevirtual 177, 3) := by decide +kernel
theorem k16_163 : decode (gb 16) 163 = .ok (.ifCond .eq 14, 3) := by decide +kernel
theorem k16_166 : decode (gb 16) 166 = .ok (.aload_n 0, 1) := by decide +kernel
theorem k16_167 : decode (gb 16) 167 = .ok (.bipush 8, 2) := by decide +kernel
theorem k16_169 : decode (gb 16) 169 = .ok (.bipush 16, 2) := by decide +kernel
theorem k16_171 : decode (gb 16) 171 = .ok (.invokevirtual 168, 3) := by decide +kernel
theorem k16_174 : decode (gb 16) 174 = .ok (.goto 7, 3) := by decide +kernel
theorem k16_177 : decode (gb 16) 177 = .ok (.aload_n 0, 1) := by decide +kernel
theorem k16_178 : decode (gb 16) 178 = .ok (.invokevirtual 190, 3) := by decide +kernel
theorem k16_181 : decode (gb 16) 181 = .ok (.iinc 2 1, 3) := by decide +kernel
theorem k16_184 : decode (gb 16) 184 = .ok (.goto (-170), 3) := by decide +kernel
theorem k16_187 : decode (gb 16) 187 = .ok (.return_, 1) := by decide +kernel
def c16_181 (kl14 : Int32 → Int32 → Mem → Option (Mem)) (v1 : Int32) (v2 : Int32) (μ : Mem) : Option (Mem) :=
  nm (v2 + (1 : Int32)) fun x1 =>
  kl14 v1 x1 μ
theorem c16_181_ok {L : Nat} (kl14 : Int32 → Int32 → Mem → Option (Mem)) (hk14 : (∀ (v1 : Int32) (v2 : Int32) (μ : Mem) (res : Mem), kl14 v1 v2 μ = some res → Sx 16 14 [(0, .ref 101), (1, .int v1), (2, .int v2)] [] 0 0 (mk L μ) (mk L res, none))) (v1 : Int32) (v2 : Int32) (μ : Mem) (res : Mem) (h : c16_181 kl14 v1 v2 μ = some res) : Sx 16 181 [(0, .ref 101), (1, .int v1), (2, .int v2)] [] 0 0 (mk L μ) (mk L res, none) := by
  unfold c16_181 at h
  refine cx_iinc (c := 1) (lo2 := fun x1 => [(2, .int x1), (0, .ref 101), (1, .int v1)]) k16_181 rfl (by decide) (by rw [mx_16]; decide) (fun _ => rfl) h (fun x1 h => ?_)
  refine sx_goto (tgt := 14) k16_184 (by decide) ?_
  refine sx_pick (lo2 := [(0, .ref 101), (1, .int v1), (2, .int x1)]) [1, 2, 0] rfl ?_
  exact hk14 v1 x1 _ _ h
def c16_158 (kl14 : Int32 → Int32 → Mem → Option (Mem)) (v1 : Int32) (v2 : Int32) (μ : Mem) : Option (Mem) :=
  (f19 (2 : Int32) μ).bind fun r1 =>
  if r1.2 = 0 then
    (f17 r1.1).bind fun r4 =>
    c16_181 kl14 v1 v2 r4
  else
    (f18 (8 : Int32) (16 : Int32) r1.1).bind fun r6 =>
    c16_181 kl14 v1 v2 r6
theorem c16_158_ok {L : Nat} (kl14 : Int32 → Int32 → Mem → Option (Mem)) (hk14 : (∀ (v1 : Int32) (v2 : Int32) (μ : Mem) (res : Mem), kl14 v1 v2 μ = some res → Sx 16 14 [(0, .ref 101), (1, .int v1), (2, .int v2)] [] 0 0 (mk L μ) (mk L res, none))) (v1 : Int32) (v2 : Int32) (μ : Mem) (res : Mem) (h : c16_158 kl14 v1 v2 μ = some res) : Sx 16 158 [(0, .ref 101), (1, .int v1), (2, .int v2)] [] 0 0 (mk L μ) (mk L res, none) := by
  unfold c16_158 at h
  refine sx_aload_n (i := 0) k16_158 rfl rfl ?_
  refine sx_iconst (v := 2) k16_159 (by decide) ?_
  obtain ⟨r1, e2, h⟩ := Option.bind_eq_some_iff.mp h
  refine cx_V (sk := []) (vs := [.int (2 : Int32)]) st_16_19 k16_160 ow_16 cl_1_177 (by decide) rfl (Nat.le_of_ble_eq_true rfl) sk_101 (ok19 (2 : Int32) _ _ e2) (sk3 := [.int r1.2]) rfl rfl ?_
  by_cases hb3 : r1.2 = 0
  · rw [if_pos hb3] at h
    refine sx_if_eq (tgt := 177) k16_163 (by decide) (fun _ => ?_) (fun q => absurd hb3 q)
    refine sx_aload_n (i := 0) k16_177 rfl rfl ?_
    obtain ⟨r4, e5, h⟩ := Option.bind_eq_some_iff.mp h
    refine cx_V (sk := []) (vs := []) st_16_17 k16_178 ow_16 cl_1_190 (by decide) rfl (Nat.le_of_ble_eq_true rfl) sk_101 (ok17 _ _ e5) (sk3 := []) rfl rfl ?_
    refine sx_pick (lo2 := [(0, .ref 101), (1, .int v1), (2, .int v2)]) [0, 1, 2] rfl ?_
    exact c16_181_ok kl14 hk14 v1 v2 _ _ h
  · rw [if_neg hb3] at h
    refine sx_if_eq (tgt := 177) k16_163 (by decide) (fun q => absurd q hb3) (fun _ => ?_)
    refine sx_aload_n (i := 0) k16_166 rfl rfl ?_
    refine sx_bipush (v := 8) k16_167 (by decide) ?_
    refine sx_bipush (v := 16) k16_169 (by decide) ?_
    obtain ⟨r6, e7, h⟩ := Option.bind_eq_some_iff.mp h
    refine cx_V (sk := []) (vs := [.int (8 : Int32), .int (16 : Int32)]) st_16_18 k16_171 ow_16 cl_1_168 (by decide) rfl (Nat.le_of_ble_eq_true rfl) sk_101 (ok18 (8 : Int32) (16 : Int32) _ _ e7) (sk3 := []) rfl rfl ?_
    refine sx_goto (tgt := 181) k16_174 (by decide) ?_
    refine sx_pick (lo2 := [(0, .ref 101), (1, .int v1), (2, .int v2)]) [0, 1, 2] rfl ?_
    exact c16_181_ok kl14 hk14 v1 v2 _ _ h
def c16_122 (kl14 : Int32 → Int32 → Mem → Option (Mem)) (v1 : Int32) (v2 : Int32) (v3 : Int32) (μ : Mem) : Option (Mem) :=
  (f19 (3 : Int32) μ).bind fun r1 =>
  if r1.2 = 0 then
    c16_158 kl14 v1 v2 r1.1
  else
    (f22 (1 : Int32) r1.1).bind fun r4 =>
    (f22 (1 : Int32) r4.1).bind fun r6 =>
    (f40 (r4.2 &&& (31 : Int32)) r6.2 v3 r6.1).bind fun r8 =>
    if r8.2 = 0 then
      c16_158 kl14 v1 v2 r8.1
    else
      (f10 (v3 + (1 : Int32)) r8.1).bind fun r11 =>
      c16_158 kl14 v1 v2 r11
theorem c16_122_ok {L : Nat} (kl14 : Int32 → Int32 → Mem → Option (Mem)) (hk14 : (∀ (v1 : Int32) (v2 : Int32) (μ : Mem) (res : Mem), kl14 v1 v2 μ = some res → Sx 16 14 [(0, .ref 101), (1, .int v1), (2, .int v2)] [] 0 0 (mk L μ) (mk L res, none))) (v1 : Int32) (v2 : Int32) (v3 : Int32) (μ : Mem) (res : Mem) (h : c16_122 kl14 v1 v2 v3 μ = some res) : Sx 16 122 [(0, .ref 101), (1, .int v1), (2, .int v2), (3, .int v3)] [] 0 0 (mk L μ) (mk L res, none) := by
  unfold c16_122 at h
  refine sx_aload_n (i := 0) k16_122 rfl rfl ?_
  refine sx_iconst (v := 3) k16_123 (by decide) ?_
  obtain ⟨r1, e2, h⟩ := Option.bind_eq_some_iff.mp h
  refine cx_V (sk := []) (vs := [.int (3 : Int32)]) st_16_19 k16_124 ow_16 cl_1_177 (by decide) rfl (Nat.le_of_ble_eq_true rfl) sk_101 (ok19 (3 : Int32) _ _ e2) (sk3 := [.int r1.2]) rfl rfl ?_
  by_cases hb3 : r1.2 = 0
  · rw [if_pos hb3] at h
    refine sx_if_eq (tgt := 158) k16_127 (by decide) (fun _ => ?_) (fun q => absurd hb3 q)
    refine sx_pick (lo2 := [(0, .ref 101), (1, .int v1), (2, .int v2)]) [0, 1, 2] rfl ?_
    exact c16_158_ok kl14 hk14 v1 v2 _ _ h
  · rw [if_neg hb3] at h
    refine sx_if_eq (tgt := 158) k16_127 (by decide) (fun q => absurd q hb3) (fun _ => ?_)
    refine sx_aload_n (i := 0) k16_130 rfl rfl ?_
    refine sx_aload_n (i := 0) k16_131 rfl rfl ?_
    refine sx_iconst (v := 1) k16_132 (by decide) ?_
    obtain ⟨r4, e5, h⟩ := Option.bind_eq_some_iff.mp h
    refine cx_V (sk := [.ref 101]) (vs := [.int (1 : Int32)]) st_16_22 k16_133 ow_16 cl_1_180 (by decide) rfl (Nat.le_of_ble_eq_true rfl) sk_101 (ok22 (1 : Int32) _ _ e5) (sk3 := [.int r4.2, .ref 101]) rfl rfl ?_
    refine sx_bipush (v := 31) k16_136 (by decide) ?_
    refine sx_iand k16_138 ?_
    refine sx_aload_n (i := 0) k16_139 rfl rfl ?_
    refine sx_iconst (v := 1) k16_140 (by decide) ?_
    obtain ⟨r6, e7, h⟩ := Option.bind_eq_some_iff.mp h
    refine cx_V (sk := [.int (r4.2 &&& (31 : Int32)), .ref 101]) (vs := [.int (1 : Int32)]) st_16_22 k16_141 ow_16 cl_1_180 (by decide) rfl (Nat.le_of_ble_eq_true rfl) sk_101 (ok22 (1 : Int32) _ _ e7) (sk3 := [.int r6.2, .int (r4.2 &&& (31 : Int32)), .ref 101]) rfl rfl ?_
    refine sx_iload_n (i := 3) k16_144 rfl rfl ?_
    obtain ⟨r8, e9, h⟩ := Option.bind_eq_some_iff.mp h
    refine cx_V (sk := []) (vs := [.int (r4.2 &&& (31 : Int32)), .int r6.2, .int v3]) st_16_40 k16_145 ow_16 cl_1_183 (by decide) rfl (Nat.le_of_ble_eq_true rfl) sk_101 (ok40 (r4.2 &&& (31 : Int32)) r6.2 v3 _ _ e9) (sk3 := [.int r8.2]) rfl rfl ?_
    by_cases hb10 : r8.2 = 0
    · rw [if_pos hb10] at h
      refine sx_if_eq (tgt := 158) k16_148 (by decide) (fun _ => ?_) (fun q => absurd hb10 q)
      refine sx_pick (lo2 := [(0, .ref 101), (1, .int v1), (2, .int v2)]) [0, 1, 2] rfl ?_
      exact c16_158_ok kl14 hk14 v1 v2 _ _ h
    · rw [if_neg hb10] at h
      refine sx_if_eq (tgt := 158) k16_148 (by decide) (fun q => absurd q hb10) (fun _ => ?_)
      refine sx_aload_n (i := 0) k16_151 rfl rfl ?_
      refine sx_iload_n (i := 3) k16_152 rfl rfl ?_
      refine sx_iconst (v := 1) k16_153 (by decide) ?_
      refine sx_iadd k16_154 ?_
      obtain ⟨r11, e12, h⟩ := Option.bind_eq_some_iff.mp h
      refine cx_V (sk := []) (vs := [.int (v3 + (1 : Int32))]) st_16_10 k16_155 ow_16 cl_1_187 (by decide) rfl (Nat.le_of_ble_eq_true rfl) sk_101 (ok10 (v3 + (1 : Int32)) _ _ e12) (sk3 := []) rfl rfl ?_
      refine sx_pick (lo2 := [(0, .ref 101), (1, .int v1), (2, .int v2)]) [0, 1, 2] rfl ?_
      exact c16_158_ok kl14 hk14 v1 v2 _ _ h
def c16_101 (kl14 : Int32 → Int32 → Mem → Option (Mem)) (v1 : Int32) (v2 : Int32) (v3 : Int32) (μ : Mem) : Option (Mem) :=
  (f25 μ).bind fun r1 =>
  (f118 r1).bind fun r3 =>
  if r3.2 = 0 then
    c16_122 kl14 v1 v2 v3 r3.1
  else
    (f119 r3.1).bind fun r6 =>
    c16_122 kl14 v1 v2 v3 r6
theorem c16_101_ok {L : Nat} (kl14 : Int32 → Int32 → Mem → Option (Mem)) (hk14 : (∀ (v1 : Int32) (v2 : Int32) (μ : Mem) (res : Mem), kl14 v1 v2 μ = some res → Sx 16 14 [(0, .ref 101), (1, .int v1), (2, .int v2)] [] 0 0 (mk L μ) (mk L res, none))) (v1 : Int32) (v2 : Int32) (v3 : Int32) (μ : Mem) (res : Mem) (h : c16_101 kl14 v1 v2 v3 μ = some res) : Sx 16 101 [(0, .ref 101), (1, .int v1), (2, .int v2), (3, .int v3)] [] 0 0 (mk L μ) (mk L res, none) := by
  unfold c16_101 at h
  refine sx_aload_n (i := 0) k16_101 rfl rfl ?_
  obtain ⟨r1, e2, h⟩ := Option.bind_eq_some_iff.mp h
  refine cx_V (sk := []) (vs := []) st_16_25 k16_102 ow_16 cl_1_171 (by decide) rfl (Nat.le_of_ble_eq_true rfl) sk_101 (ok25 _ _ e2) (sk3 := []) rfl rfl ?_
  refine sx_aload_n (i := 0) k16_105 rfl rfl ?_
  refine cx_getR (k := 0) k16_106 ow_16 fl_1_51 (by decide) sk_101 ft_0_0 sr_101_0 ?_
  obtain ⟨r3, e4, h⟩ := Option.bind_eq_some_iff.mp h
  refine cx_V (sk := []) (vs := []) st_16_118 k16_109 ow_16 cl_1_174 (by decide) rfl (Nat.le_of_ble_eq_true rfl) sk_57 (ok118 _ _ e4) (sk3 := [.int r3.2]) rfl rfl ?_
  by_cases hb5 : r3.2 = 0
  · rw [if_pos hb5] at h
    refine sx_if_eq (tgt := 122) k16_112 (by decide) (fun _ => ?_) (fun q => absurd hb5 q)
    refine sx_pick (lo2 := [(0, .ref 101), (1, .int v1), (2, .int v2), (3, .int v3)]) [0, 1, 2, 3] rfl ?_
    exact c16_122_ok kl14 hk14 v1 v2 v3 _ _ h
  · rw [if_neg hb5] at h
    refine sx_if_eq (tgt := 122) k16_112 (by decide) (fun q => absurd q hb5) (fun _ => ?_)
    refine sx_aload_n (i := 0) k16_115 rfl rfl ?_
    refine cx_getR (k := 0) k16_116 ow_16 fl_1_51 (by decide) sk_101 ft_0_0 sr_101_0 ?_
    obtain ⟨r6, e7, h⟩ := Option.bind_eq_some_iff.mp h
    refine cx_V (sk := []) (vs := []) st_16_119 k16_119 ow_16 cl_1_125 (by decide) rfl (Nat.le_of_ble_eq_true rfl) sk_57 (ok119 _ _ e7) (sk3 := []) rfl rfl ?_
    refine sx_pick (lo2 := [(0, .ref 101), (1, .int v1), (2, .int v2), (3, .int v3)]) [0, 1, 2, 3] rfl ?_
    exact c16_122_ok kl14 hk14 v1 v2 v3 _ _ h
def b16_14 (kl14 : Int32 → Int32 → Mem → Option (Mem)) (v1 : Int32) (v2 : Int32) (μ : Mem) : Option (Mem) :=
  if v1 ≤ v2 then
    some μ
  else
    (f167 102 (0 : Int32) μ).bind fun r2 =>
    (f164 102 (0 : Int32) 122 r2.1).bind fun r4 =>
    (f162 102 (0 : Int32) r4).bind fun r6 =>
    (pfI 9 13 (0 : Int32) r6).bind fun m8 =>
    (f24 m8).bind fun r10 =>
    if r10.2 = 0 then
      (f75 122 (6 : Int32) r10.1).bind fun r13 =>
      if (r13.2 &&& (4 : Int32)) = 0 then
        c16_101 kl14 v1 v2 r2.2 r13.1
      else
        (f11 122 (3 : Int32) (0 : Int32) r13.1).bind fun r16 =>
        c16_101 kl14 v1 v2 r2.2 r16
    else
      (f18 (4 : Int32) r10.2 r10.1).bind fun r18 =>
      c16_181 kl14 v1 v2 r18
theorem b16_14_ok {L : Nat} (kl14 : Int32 → Int32 → Mem → Option (Mem)) (hk14 : (∀ (v1 : Int32) (v2 : Int32) (μ : Mem) (res : Mem), kl14 v1 v2 μ = some res → Sx 16 14 [(0, .ref 101), (1, .int v1), (2, .int v2)] [] 0 0 (mk L μ) (mk L res, none))) (v1 : Int32) (v2 : Int32) (μ : Mem) (res : Mem) (h : b16_14 kl14 v1 v2 μ = some res) : Sx 16 14 [(0, .ref 101), (1, .int v1), (2, .int v2)] [] 0 0 (mk L μ) (mk L res, none) := by
  unfold b16_14 at h
  refine sx_iload_n (i := 2) k16_14 rfl rfl ?_
  refine sx_iload_n (i := 1) k16_15 rfl rfl ?_
  by_cases hb1 : v1 ≤ v2
  · rw [if_pos hb1] at h
    refine sx_icmp_ge (tgt := 187) k16_16 (by decide) (fun _ => ?_) (fun q => absurd hb1 q)
    exact cx_retv k16_187 rt_16 h
  · rw [if_neg hb1] at h
    refine sx_icmp_ge (tgt := 187) k16_16 (by decide) (fun q => absurd q hb1) (fun _ => ?_)
    refine sx_aload_n (i := 0) k16_19 rfl rfl ?_
    refine cx_getR (k := 2) k16_20 ow_16 fl_1_16 (by decide) sk_101 ft_0_2 sr_101_2 ?_
    refine sx_iconst (v := 0) k16_23 (by decide) ?_
    obtain ⟨r2, e3, h⟩ := Option.bind_eq_some_iff.mp h
    refine cx_V (sk := []) (vs := [.int (0 : Int32)]) st_16_167 k16_24 ow_16 cl_1_152 (by decide) rfl (Nat.le_of_ble_eq_true rfl) sk_102 (ok167 102 (0 : Int32) sk_102 _ _ e3) (sk3 := [.int r2.2]) rfl rfl ?_
    refine cx_istore_n (lo2 := [(3, .int r2.2), (0, .ref 101), (1, .int v1), (2, .int v2)]) k16_27 rfl (by rw [mx_16]; decide) rfl ?_
    refine sx_aload_n (i := 0) k16_28 rfl rfl ?_
    refine cx_getR (k := 2) k16_29 ow_16 fl_1_16 (by decide) sk_101 ft_0_2 sr_101_2 ?_
    refine sx_iconst (v := 0) k16_32 (by decide) ?_
    refine sx_aload_n (i := 0) k16_33 rfl rfl ?_
    refine cx_getR (k := 6) k16_34 ow_16 fl_1_35 (by decide) sk_101 ft_0_6 sr_101_6 ?_
    obtain ⟨r4, e5, h⟩ := Option.bind_eq_some_iff.mp h
    refine cx_V (sk := []) (vs := [.int (0 : Int32), .ref 122]) st_16_164 k16_37 ow_16 cl_1_155 (by decide) rfl (Nat.le_of_ble_eq_true rfl) sk_102 (ok164 102 (0 : Int32) 122 sk_102 sk_122 _ _ e5) (sk3 := []) rfl rfl ?_
    refine sx_aload_n (i := 0) k16_40 rfl rfl ?_
    refine cx_getR (k := 2) k16_41 ow_16 fl_1_16 (by decide) sk_101 ft_0_2 sr_101_2 ?_
    refine sx_iconst (v := 0) k16_44 (by decide) ?_
    obtain ⟨r6, e7, h⟩ := Option.bind_eq_some_iff.mp h
    refine cx_V (sk := []) (vs := [.int (0 : Int32)]) st_16_162 k16_45 ow_16 cl_1_159 (by decide) rfl (Nat.le_of_ble_eq_true rfl) sk_102 (ok162 102 (0 : Int32) sk_102 _ _ e7) (sk3 := []) rfl rfl ?_
    refine sx_aload_n (i := 0) k16_48 rfl rfl ?_
    refine cx_getR (k := 1) k16_49 ow_16 fl_1_55 (by decide) sk_101 ft_0_1 sr_101_1 ?_
    refine sx_iconst (v := 0) k16_52 (by decide) ?_
    obtain ⟨m8, e9, h⟩ := Option.bind_eq_some_iff.mp h
    refine cx_putI (k := 13) k16_53 ow_16 fl_1_162 (by decide) sk_9 nf_9_13 fu_9_13 e9 ?_
    refine sx_aload_n (i := 0) k16_56 rfl rfl ?_
    obtain ⟨r10, e11, h⟩ := Option.bind_eq_some_iff.mp h
    refine cx_V (sk := []) (vs := []) st_16_24 k16_57 ow_16 cl_1_165 (by decide) rfl (Nat.le_of_ble_eq_true rfl) sk_101 (ok24 _ _ e11) (sk3 := [.int r10.2]) rfl rfl ?_
    refine cx_istore (lo2 := [(4, .int r10.2), (3, .int r2.2), (0, .ref 101), (1, .int v1), (2, .int v2)]) k16_60 (by rw [mx_16]; decide) rfl ?_
    refine sx_iload k16_62 rfl ?_
    by_cases hb12 : r10.2 = 0
    · rw [if_pos hb12] at h
      refine sx_if_eq (tgt := 77) k16_64 (by decide) (fun _ => ?_) (fun q => absurd hb12 q)
      refine sx_aload_n (i := 0) k16_77 rfl rfl ?_
      refine cx_getR (k := 6) k16_78 ow_16 fl_1_35 (by decide) sk_101 ft_0_6 sr_101_6 ?_
      refine sx_bipush (v := 6) k16_81 (by decide) ?_
      obtain ⟨r13, e14, h⟩ := Option.bind_eq_some_iff.mp h
      refine cx_V (sk := []) (vs := [.int (6 : Int32)]) st_16_75 k16_83 ow_16 cl_1_105 (by decide) rfl (Nat.le_of_ble_eq_true rfl) sk_122 (ok75 122 (6 : Int32) sk_122 _ _ e14) (sk3 := [.int r13.2]) rfl rfl ?_
      refine sx_iconst (v := 4) k16_86 (by decide) ?_
      refine sx_iand k16_87 ?_
      by_cases hb15 : (r13.2 &&& (4 : Int32)) = 0
      · rw [if_pos hb15] at h
        refine sx_if_eq (tgt := 101) k16_88 (by decide) (fun _ => ?_) (fun q => absurd hb15 q)
        refine sx_pick (lo2 := [(0, .ref 101), (1, .int v1), (2, .int v2), (3, .int r2.2)]) [2, 3, 4, 1] rfl ?_
        exact c16_101_ok kl14 hk14 v1 v2 r2.2 _ _ h
      · rw [if_neg hb15] at h
        refine sx_if_eq (tgt := 101) k16_88 (by decide) (fun q => absurd q hb15) (fun _ => ?_)
        refine sx_aload_n (i := 0) k16_91 rfl rfl ?_
        refine sx_aload_n (i := 0) k16_92 rfl rfl ?_
        refine cx_getR (k := 6) k16_93 ow_16 fl_1_35 (by decide) sk_101 ft_0_6 sr_101_6 ?_
        refine sx_iconst (v := 3) k16_96 (by decide) ?_
        refine sx_iconst (v := 0) k16_97 (by decide) ?_
        obtain ⟨r16, e17, h⟩ := Option.bind_eq_some_iff.mp h
        refine cx_V (sk := []) (vs := [.ref 122, .int (3 : Int32), .int (0 : Int32)]) st_16_11 k16_98 ow_16 cl_1_101 (by decide) rfl (Nat.le_of_ble_eq_true rfl) sk_101 (ok11 122 (3 : Int32) (0 : Int32) sk_122 _ _ e17) (sk3 := []) rfl rfl ?_
        refine sx_pick (lo2 := [(0, .ref 101), (1, .int v1), (2, .int v2), (3, .int r2.2)]) [2, 3, 4, 1] rfl ?_
        exact c16_101_ok kl14 hk14 v1 v2 r2.2 _ _ h
    · rw [if_neg hb12] at h
      refine sx_if_eq (tgt := 77) k16_64 (by decide) (fun q => absurd q hb12) (fun _ => ?_)
      refine sx_aload_n (i := 0) k16_67 rfl rfl ?_
      refine sx_iconst (v := 4) k16_68 (by decide) ?_
      refine sx_iload k16_69 rfl ?_
      obtain ⟨r18, e19, h⟩ := Option.bind_eq_some_iff.mp h
      refine cx_V (sk := []) (vs := [.int (4 : Int32), .int r10.2]) st_16_18 k16_71 ow_16 cl_1_168 (by decide) rfl (Nat.le_of_ble_eq_true rfl) sk_101 (ok18 (4 : Int32) r10.2 _ _ e19) (sk3 := []) rfl rfl ?_
      refine sx_goto (tgt := 181) k16_74 (by decide) ?_
      refine sx_pick (lo2 := [(0, .ref 101), (1, .int v1), (2, .int v2)]) [2, 3, 4] rfl ?_
      exact c16_181_ok kl14 hk14 v1 v2 _ _ h
def l16_14 : Nat → Int32 × Int32 × Mem → Option (Mem) :=
  fixN (fun self x => b16_14 (fun v1 v2 μ => self (v1, v2, μ)) (x.1) (x.2.1) (x.2.2))
theorem l16_14_ok {L : Nat} (n : Nat) (v1 : Int32) (v2 : Int32) (μ : Mem) (res : Mem) (h : l16_14 n (v1, v2, μ) = some res) : Sx 16 14 [(0, .ref 101), (1, .int v1), (2, .int v2)] [] 0 0 (mk L μ) (mk L res, none) := by
  have key := fixN_ind (P := fun x res => Sx 16 14 [(0, .ref 101), (1, .int (x.1)), (2, .int (x.2.1))] [] 0 0 (mk L (x.2.2)) (mk L res, none)) (F := fun self x => b16_14 (fun v1 v2 μ => self (v1, v2, μ)) (x.1) (x.2.1) (x.2.2)) (fun self hself x res h => b16_14_ok (fun v1 v2 μ => self (v1, v2, μ)) (fun v1 v2 μ res hh => hself (v1, v2, μ) res hh) (x.1) (x.2.1) (x.2.2) res h) n (v1, v2, μ) res h
  exact key
/-- Board.runRequests()V -/
def f16 (μ : Mem) : Option (Mem) :=
  nm (jmin (μ.1 102 5) (4 : Int32)) fun x1 =>
  l16_14 gF (x1, (0 : Int32), μ)
theorem ok16 {L : Nat} (μ : Mem) (res : Mem) (h : f16 μ = some res) : Mx 16 [.ref 101] (mk L μ) (mk L res, none) := by
  refine Mx_of ml_16 (by rw [mx_16]; exact Nat.le_of_ble_eq_true rfl) ?_
  show Sx 16 0 [(0, .ref 101)] [] 0 0 (mk L μ) _
  unfold f16 at h
  refine sx_aload_n (i := 0) k16_0 rfl rfl ?_
  refine cx_getR (k := 2) k16_1 ow_16 fl_1_16 (by decide) sk_101 ft_0_2 sr_101_2 ?_
  refine cx_getI (k := 5) k16_4 ow_16 fl_1_75 (by decide) sk_102 ft_7_5 ?_
  refine sx_iconst (v := 4) k16_7 (by decide) ?_
  refine cx_min k16_8 ow_16 yl_1_147 (by decide) (by decide +kernel) (Nat.le_of_ble_eq_true rfl) ?_
  refine cx_nm h (fun x1 h => ?_)
  refine cx_istore_n (lo2 := [(1, .int x1), (0, .ref 101)]) k16_11 rfl (by rw [mx_16]; decide) rfl ?_
  refine sx_iconst (v := 0) k16_12 (by decide) ?_
  refine cx_istore_n (lo2 := [(2, .int (0 : Int32)), (1, .int x1), (0, .ref 101)]) k16_13 rfl (by rw [mx_16]; decide) rfl ?_
  refine sx_pick (lo2 := [(0, .ref 101), (1, .int x1), (2, .int (0 : Int32))]) [2, 1, 0] rfl ?_
  exact l16_14_ok gF x1 (0 : Int32) _ _ h
theorem k38_0 : decode (gb 38) 0 = .ok (.iconst 0, 1) := by decide +kernel
theorem k38_1 : decode (gb 38) 1 = .ok (.istore_n 1, 1) := by decide +kernel
theorem k38_2 : decode (gb 38) 2 = .ok (.iload_n 1, 1) := by decide +kernel
theorem k38_3 : decode (gb 38) 3 = .ok (.bipush 6, 2) := by decide +kernel
theorem k38_5 : decode (gb 38) 5 = .ok (.if_icmp .ge 87, 3) := by decide +kernel
theorem k38_8 : decode (gb 38) 8 = .ok (.iload_n 1, 1) := by decide +kernel
theorem k38_9 : decode (gb 38) 9 = .ok (.bipush 13, 2) := by decide +kernel
theorem k38_11 : decode (gb 38) 11 = .ok (.imul, 1) := by decide +kernel
theorem k38_12 : decode (gb 38) 12 = .ok (.istore_n 2, 1) := by decide +kernel
theorem k38_13 : decode (gb 38) 13 = .ok (.aload_n 0, 1) := by decide +kernel
theorem k38_14 : decode (gb 38) 14 = .ok (.getfield 42, 3) := by decide +kernel
theorem k38_17 : decode (gb 38) 17 = .ok (.iload_n 2, 1) := by decide +kernel
theorem k38_18 : decode (gb 38) 18 = .ok (.iconst 0, 1) := by decide +kernel
theorem k38_19 : decode (gb 38) 19 = .ok (.iadd, 1) := by decide +kernel
theorem k38_20 : decode (gb 38) 20 = .ok (.iaload, 1) := by decide +kernel
theorem k38_21 : decode (gb 38) 21 = .ok (.ifCond .eq 65, 3) := by decide +kernel
theorem k38_24 : decode (gb 38) 24 = .ok (.aload_n 0, 1) := by decide +kernel
theorem k38_25 : decode (gb 38) 25 = .ok (.getfield 42, 3) := by decide +kernel
theorem k38_28 : decode (gb 38) 28 = .ok (.iload_n 2, 1) := by decide +kernel
theorem k38_29 : decode (gb 38) 29 = .ok (.iconst 1, 1) := by decide +kernel
theorem k38_30 : decode (gb 38) 30 = .ok (.iadd, 1) := by decide +kernel
theorem k38_31 : decode (gb 38) 31 = .ok (.iaload, 1) := by decide +kernel
theorem k38_32 : decode (gb 38) 32 = .ok (.ifCond .eq 54, 3) := by decide +kernel
theorem k38_35 : decode (gb 38) 35 = .ok (.aload_n 0, 1) := by decide +kernel
theorem k38_36 : decode (gb 38) 36 = .ok (.getfield 42, 3) := by decide +kernel
theorem k38_39 : decode (gb 38) 39 = .ok (.iload_n 2, 1) := by decide +kernel
theorem k38_40 : decode (gb 38) 40 = .ok (.iconst 3, 1) := by decide +kernel
theorem k38_41 : decode (gb 38) 41 = .ok (.iadd, 1) := by decide +kernel
theorem k38_42 : decode (gb 38) 42 = .ok (.dup2, 1) := by decide +kernel
theorem k38_43 : decode (gb 38) 43 = .ok (.iaload, 1) := by decide +kernel
theorem k38_44 : decode (gb 38) 44 = .ok (.iconst 1, 1) := by decide +kernel
theorem k38_45 : decode (gb 38) 45 = .ok (.isub, 1) := by decide +kernel
theorem k38_46 : decode (gb 38) 46 = .ok (.iastore, 1) := by decide +kernel
theorem k38_47 : decode (gb 38) 47 = .ok (.aload_n 0, 1) := by decide +kernel
theorem k38_48 : decode (gb 38) 48 = .ok (.getfield 42, 3) := by decide +kernel
theorem k38_51 : decode (gb 38) 51 = .ok (.iload_n 2, 1) := by decide +kernel
theorem k38_52 : decode (gb 38) 52 = .ok (.iconst 3, 1) := by decide +kernel
theorem k38_53 : decode (gb 38) 53 = .ok (.iadd, 1) := by decide +kernel
theorem k38_54 : decode (gb 38) 54 = .ok (.iaload, 1) := by decide +kernel
theorem k38_55 : decode (gb 38) 55 = .ok (.ifCond .ne 31, 3) := by decide +kernel
theorem k38_58 : decode (gb 38) 58 = .ok (.aload_n 0, 1) := by decide +kernel
theorem k38_59 : decode (gb 38) 59 = .ok (.getfield 42, 3) := by decide +kernel
theorem k38_62 : decode (gb 38) 62 = .ok (.iload_n 2, 1) := by decide +kernel
theorem k38_63 : decode (gb 38) 63 = .ok (.iconst 3, 1) := by decide +kernel
theorem k38_64 : decode (gb 38) 64 = .ok (.iadd, 1) := by decide +kernel
theorem k38_65 : decode (gb 38) 65 = .ok (.aload_n 0, 1) := by decide +kernel
theorem k38_66 : decode (gb 38) 66 = .ok (.getfield 42, 3) := by decide +kernel
theorem k38_69 : decode (gb 38) 69 = .ok (.iload_n 2, 1) := by decide +kernel
theorem k38_70 : decode (gb 38) 70 = .ok (.iconst 2, 1) := by decide +kernel
theorem k38_71 : decode (gb 38) 71 = .ok (.iadd, 1) := by decide +kernel
theorem k38_72 : decode (gb 38) 72 = .ok (.iaload, 1) := by decide +kernel
theorem k38_73 : decode (gb 38) 73 = .ok (.iastore, 1) := by decide +kernel
theorem k38_74 : decode (gb 38) 74 = .ok (.aload_n 0, 1) := by decide +kernel
theorem k38_75 : decode (gb 38) 75 = .ok (.iload_n 1, 1) := by decide +kernel
theorem k38_76 : decode (gb 38) 76 = .ok (.invokevirtual 285, 3) := by decide +kernel
theorem k38_79 : decode (gb 38) 79 = .ok (.aload_n 0, 1) := by decide +kernel
theorem k38_80 : decode (gb 38) 80 = .ok (.getfield 51, 3) := by decide +kernel
theorem k38_83 : decode (gb 38) 83 = .ok (.invokevirtual 125, 3) := by decide +kernel
theorem k38_86 : decode (gb 38) 86 = .ok (.iinc 1 1, 3) := by decide +kernel
theorem k38_89 : decode (gb 38) 89 = .ok (.goto (-87), 3) := by decide +kernel
theorem k38_92 : decode (gb 38) 92 = .ok (.return_, 1) := by decide +kernel
def c38_86 (kl2 : Int32 → Mem → Option (Mem)) (v1 : Int32) (μ : Mem) : Option (Mem) :=
  nm (v1 + (1 : Int32)) fun x1 =>
  kl2 x1 μ
theorem c38_86_ok {L : Nat} (kl2 : Int32 → Mem → Option (Mem)) (hk2 : (∀ (v1 : Int32) (μ : Mem) (res : Mem), kl2 v1 μ = some res → Sx 38 2 [(0, .ref 101), (1, .int v1)] [] 0 0 (mk L μ) (mk L res, none))) (v1 : Int32) (μ : Mem) (res : Mem) (h : c38_86 kl2 v1 μ = some res) : Sx 38 86 [(0, .ref 101), (1, .int v1)] [] 0 0 (mk L μ) (mk L res, none) := by
  unfold c38_86 at h
  refine cx_iinc (c := 1) (lo2 := fun x1 => [(1, .int x1), (0, .ref 101)]) k38_86 rfl (by decide) (by rw [mx_38]; decide) (fun _ => rfl) h (fun x1 h => ?_)
  refine sx_goto (tgt := 2) k38_89 (by decide) ?_
  refine sx_pick (lo2 := [(0, .ref 101), (1, .int x1)]) [1, 0] rfl ?_
  exact hk2 x1 _ _ h
def b38_2 (kl2 : Int32 → Mem → Option (Mem)) (v1 : Int32) (μ : Mem) : Option (Mem) :=
  if (6 : Int32) ≤ v1 then
    some μ
  else
    nm (v1 * (13 : Int32)) fun x2 =>
    (ldA 125 (x2 + (0 : Int32)) μ).bind fun x3 =>
    if x3 = 0 then
      c38_86 kl2 v1 μ
    else
      (ldA 125 (x2 + (1 : Int32)) μ).bind fun x6 =>
      if x6 = 0 then
        c38_86 kl2 v1 μ
      else
        (ldA 125 (x2 + (3 : Int32)) μ).bind fun x9 =>
        (stA 125 (x2 + (3 : Int32)) (x9 - (1 : Int32)) μ).bind fun m11 =>
        (ldA 125 (x2 + (3 : Int32)) m11).bind fun x13 =>
        if x13 = 0 then
          (ldA 125 (x2 + (2 : Int32)) m11).bind fun x16 =>
          (stA 125 (x2 + (3 : Int32)) x16 m11).bind fun m18 =>
          (f37 v1 m18).bind fun r20 =>
          (f119 r20).bind fun r22 =>
          c38_86 kl2 v1 r22
        else
          c38_86 kl2 v1 m11
theorem b38_2_ok {L : Nat} (kl2 : Int32 → Mem → Option (Mem)) (hk2 : (∀ (v1 : Int32) (μ : Mem) (res : Mem), kl2 v1 μ = some res → Sx 38 2 [(0, .ref 101), (1, .int v1)] [] 0 0 (mk L μ) (mk L res, none))) (v1 : Int32) (μ : Mem) (res : Mem) (h : b38_2 kl2 v1 μ = some res) : Sx 38 2 [(0, .ref 101), (1, .int v1)] [] 0 0 (mk L μ) (mk L res, none) := by
  unfold b38_2 at h
  refine sx_iload_n (i := 1) k38_2 rfl rfl ?_
  refine sx_bipush (v := 6) k38_3 (by decide) ?_
  by_cases hb1 : (6 : Int32) ≤ v1
  · rw [if_pos hb1] at h
    refine sx_icmp_ge (tgt := 92) k38_5 (by decide) (fun _ => ?_) (fun q => absurd hb1 q)
    exact cx_retv k38_92 rt_38 h
  · rw [if_neg hb1] at h
    refine sx_icmp_ge (tgt := 92) k38_5 (by decide) (fun q => absurd q hb1) (fun _ => ?_)
    refine sx_iload_n (i := 1) k38_8 rfl rfl ?_
    refine sx_bipush (v := 13) k38_9 (by decide) ?_
    refine sx_imul k38_11 ?_
    refine cx_nm h (fun x2 h => ?_)
    refine cx_istore_n (lo2 := [(2, .int x2), (0, .ref 101), (1, .int v1)]) k38_12 rfl (by rw [mx_38]; decide) rfl ?_
    refine sx_aload_n (i := 0) k38_13 rfl rfl ?_
    refine cx_getR (k := 8) k38_14 ow_38 fl_1_42 (by decide) sk_101 ft_0_8 sr_101_8 ?_
    refine sx_iload_n (i := 2) k38_17 rfl rfl ?_
    refine sx_iconst (v := 0) k38_18 (by decide) ?_
    refine sx_iadd k38_19 ?_
    obtain ⟨x3, e4, h⟩ := Option.bind_eq_some_iff.mp h
    refine cx_iald k38_20 sk_125 e4 ?_
    by_cases hb5 : x3 = 0
    · rw [if_pos hb5] at h
      refine sx_if_eq (tgt := 86) k38_21 (by decide) (fun _ => ?_) (fun q => absurd hb5 q)
      refine sx_pick (lo2 := [(0, .ref 101), (1, .int v1)]) [1, 2] rfl ?_
      exact c38_86_ok kl2 hk2 v1 _ _ h
    · rw [if_neg hb5] at h
      refine sx_if_eq (tgt := 86) k38_21 (by decide) (fun q => absurd q hb5) (fun _ => ?_)
      refine sx_aload_n (i := 0) k38_24 rfl rfl ?_
      refine cx_getR (k := 8) k38_25 ow_38 fl_1_42 (by decide) sk_101 ft_0_8 sr_101_8 ?_
      refine sx_iload_n (i := 2) k38_28 rfl rfl ?_
      refine sx_iconst (v := 1) k38_29 (by decide) ?_
      refine sx_iadd k38_30 ?_
      obtain ⟨x6, e7, h⟩ := Option.bind_eq_some_iff.mp h
      refine cx_iald k38_31 sk_125 e7 ?_
      by_cases hb8 : x6 = 0
      · rw [if_pos hb8] at h
        refine sx_if_eq (tgt := 86) k38_32 (by decide) (fun _ => ?_) (fun q => absurd hb8 q)
        refine sx_pick (lo2 := [(0, .ref 101), (1, .int v1)]) [1, 2] rfl ?_
        exact c38_86_ok kl2 hk2 v1 _ _ h
      · rw [if_neg hb8] at h
        refine sx_if_eq (tgt := 86) k38_32 (by decide) (fun q => absurd q hb8) (fun _ => ?_)
        refine sx_aload_n (i := 0) k38_35 rfl rfl ?_
        refine cx_getR (k := 8) k38_36 ow_38 fl_1_42 (by decide) sk_101 ft_0_8 sr_101_8 ?_
        refine sx_iload_n (i := 2) k38_39 rfl rfl ?_
        refine sx_iconst (v := 3) k38_40 (by decide) ?_
        refine sx_iadd k38_41 ?_
        refine sx_dup2 k38_42 rfl rfl ?_
        obtain ⟨x9, e10, h⟩ := Option.bind_eq_some_iff.mp h
        refine cx_iald k38_43 sk_125 e10 ?_
        refine sx_iconst (v := 1) k38_44 (by decide) ?_
        refine sx_isub k38_45 ?_
        obtain ⟨m11, e12, h⟩ := Option.bind_eq_some_iff.mp h
        refine cx_iast k38_46 sk_125 e12 ?_
        refine sx_aload_n (i := 0) k38_47 rfl rfl ?_
        refine cx_getR (k := 8) k38_48 ow_38 fl_1_42 (by decide) sk_101 ft_0_8 sr_101_8 ?_
        refine sx_iload_n (i := 2) k38_51 rfl rfl ?_
        refine sx_iconst (v := 3) k38_52 (by decide) ?_
        refine sx_iadd k38_53 ?_
        obtain ⟨x13, e14, h⟩ := Option.bind_eq_some_iff.mp h
        refine cx_iald k38_54 sk_125 e14 ?_
        by_cases hb15 : x13 = 0
        · rw [if_pos hb15] at h
          refine sx_if_ne (tgt := 86) k38_55 (by decide) (fun q => absurd hb15 q) (fun _ => ?_)
          refine sx_aload_n (i := 0) k38_58 rfl rfl ?_
          refine cx_getR (k := 8) k38_59 ow_38 fl_1_42 (by decide) sk_101 ft_0_8 sr_101_8 ?_
          refine sx_iload_n (i := 2) k38_62 rfl rfl ?_
          refine sx_iconst (v := 3) k38_63 (by decide) ?_
          refine sx_iadd k38_64 ?_
          refine sx_aload_n (i := 0) k38_65 rfl rfl ?_
          refine cx_getR (k := 8) k38_66 ow_38 fl_1_42 (by decide) sk_101 ft_0_8 sr_101_8 ?_
          refine sx_iload_n (i := 2) k38_69 rfl rfl ?_
          refine sx_iconst (v := 2) k38_70 (by decide) ?_
          refine sx_iadd k38_71 ?_
          obtain ⟨x16, e17, h⟩ := Option.bind_eq_some_iff.mp h
          refine cx_iald k38_72 sk_125 e17 ?_
          obtain ⟨m18, e19, h⟩ := Option.bind_eq_some_iff.mp h
          refine cx_iast k38_73 sk_125 e19 ?_
          refine sx_aload_n (i := 0) k38_74 rfl rfl ?_
          refine sx_iload_n (i := 1) k38_75 rfl rfl ?_
          obtain ⟨r20, e21, h⟩ := Option.bind_eq_some_iff.mp h
          refine cx_V (sk := []) (vs := [.int v1]) st_38_37 k38_76 ow_38 cl_1_285 (by decide) rfl (Nat.le_of_ble_eq_true rfl) sk_101 (ok37 v1 _ _ e21) (sk3 := []) rfl rfl ?_
          refine sx_aload_n (i := 0) k38_79 rfl rfl ?_
          refine cx_getR (k := 0) k38_80 ow_38 fl_1_51 (by decide) sk_101 ft_0_0 sr_101_0 ?_
          obtain ⟨r22, e23, h⟩ := Option.bind_eq_some_iff.mp h
          refine cx_V (sk := []) (vs := []) st_38_119 k38_83 ow_38 cl_1_125 (by decide) rfl (Nat.le_of_ble_eq_true rfl) sk_57 (ok119 _ _ e23) (sk3 := []) rfl rfl ?_
          refine sx_pick (lo2 := [(0, .ref 101), (1, .int v1)]) [1, 2] rfl ?_
          exact c38_86_ok kl2 hk2 v1 _ _ h
        · rw [if_neg hb15] at h
          refine sx_if_ne (tgt := 86) k38_55 (by decide) (fun _ => ?_) (fun q => absurd q hb15)
          refine sx_pick (lo2 := [(0, .ref 101), (1, .int v1)]) [1, 2] rfl ?_
          exact c38_86_ok kl2 hk2 v1 _ _ h
def l38_2 : Nat → Int32 × Mem → Option (Mem) :=
  fixN (fun self x => b38_2 (fun v1 μ => self (v1, μ)) (x.1) (x.2))
theorem l38_2_ok {L : Nat} (n : Nat) (v1 : Int32) (μ : Mem) (res : Mem) (h : l38_2 n (v1, μ) = some res) : Sx 38 2 [(0, .ref 101), (1, .int v1)] [] 0 0 (mk L μ) (mk L res, none) := by
  have key := fixN_ind (P := fun x res => Sx 38 2 [(0, .ref 101), (1, .int (x.1))] [] 0 0 (mk L (x.2)) (mk L res, none)) (F := fun self x => b38_2 (fun v1 μ => self (v1, μ)) (x.1) (x.2)) (fun self hself x res h => b38_2_ok (fun v1 μ => self (v1, μ)) (fun v1 μ res hh => hself (v1, μ) res hh) (x.1) (x.2) res h) n (v1, μ) res h
  exact key
/-- Board.runStructures()V -/
def f38 (μ : Mem) : Option (Mem) :=
  l38_2 gF ((0 : Int32), μ)
theorem ok38 {L : Nat} (μ : Mem) (res : Mem) (h : f38 μ = some res) : Mx 38 [.ref 101] (mk L μ) (mk L res, none) := by
  refine Mx_of ml_38 (by rw [mx_38]; exact Nat.le_of_ble_eq_true rfl) ?_
  show Sx 38 0 [(0, .ref 101)] [] 0 0 (mk L μ) _
  unfold f38 at h
  refine sx_iconst (v := 0) k38_0 (by decide) ?_
  refine cx_istore_n (lo2 := [(1, .int (0 : Int32)), (0, .ref 101)]) k38_1 rfl (by rw [mx_38]; decide) rfl ?_
  refine sx_pick (lo2 := [(0, .ref 101), (1, .int (0 : Int32))]) [1, 0] rfl ?_
  exact l38_2_ok gF (0 : Int32) _ _ h
theorem k49_0 : decode (gb 49) 0 = .ok (.iload_n 1, 1) := by decide +kernel
theorem k49_1 : decode (gb 49) 1 = .ok (.bipush 8, 2) := by decide +kernel
theorem k49_3 : decode (gb 49) 3 = .ok (.imul, 1) := by decide +kernel
theorem k49_4 : decode (gb 49) 4 = .ok (.istore_n 3, 1) := by decide +kernel
theorem k49_5 : decode (gb 49) 5 = .ok (.iload_n 1, 1) := by decide +kernel
theorem k49_6 : decode (gb 49) 6 = .ok (.ifCond .lt 9, 3) := by decide +kernel
theorem k49_9 : decode (gb 49) 9 = .ok (.iload_n 1, 1) := by decide +kernel
theorem k49_10 : decode (gb 49) 10 = .ok (.bipush 6, 2) := by decide +kernel
theorem k49_12 : decode (gb 49) 12 = .ok (.if_icmp .lt 5, 3) := by decide +kernel
theorem k49_15 : decode (gb 49) 15 = .ok (.iconst 0, 1) := by decide +kernel
theorem k49_16 : decode (gb 49) 16 = .ok (.ireturn, 1) := by decide +kernel
theorem k49_17 : decode (gb 49) 17 = .ok (.iload_n 2, 1) := by decide +kernel
theorem k49_18 : decode (gb 49) 18 = .ok (.aload_n 0, 1) := by decide +kernel
theorem k49_19 : decode (gb 49) 19 = .ok (.getfield 45, 3) := by decide +kernel
theorem k49_22 : decode (gb 49) 22 = .ok (.iload_n 3, 1) := by decide +kernel
theorem k49_23 : decode (gb 49) 23 = .ok (.iconst 2, 1) := by decide +kernel
theorem k49_24 : decode (gb 49) 24 = .ok (.iadd, 1) := by decide +kernel
theorem k49_25 : decode (gb 49) 25 = .ok (.iaload, 1) := by decide +kernel
theorem k49_26 : decode (gb 49) 26 = .ok (.if_icmp .ge 7, 3) := by decide +kernel
theorem k49_29 : decode (gb 49) 29 = .ok (.iconst 4, 1) := by decide +kernel
theorem k49_30 : decode (gb 49) 30 = .ok (.goto 20, 3) := by decide +kernel
theorem k49_33 : decode (gb 49) 33 = .ok (.iload_n 2, 1) := by decide +kernel
theorem k49_34 : decode (gb 49) 34 = .ok (.aload_n 0, 1) := by decide +kernel
theorem k49_35 : decode (gb 49) 35 = .ok (.getfield 45, 3) := by decide +kernel
theorem k49_38 : decode (gb 49) 38 = .ok (.iload_n 3, 1) := by decide +kernel
theorem k49_39 : decode (gb 49) 39 = .ok (.iconst 3, 1) := by decide +kernel
theorem k49_40 : decode (gb 49) 40 = .ok (.iadd, 1) := by decide +kernel
theorem k49_41 : decode (gb 49) 41 = .ok (.iaload, 1) := by decide +kernel
theorem k49_42 : decode (gb 49) 42 = .ok (.if_icmp .le 7, 3) := by decide +kernel
theorem k49_45 : decode (gb 49) 45 = .ok (.iconst 5, 1) := by decide +kernel
theorem k49_46 : decode (gb 49) 46 = .ok (.goto 4, 3) := by decide +kernel
theorem k49_49 : decode (gb 49) 49 = .ok (.iconst 3, 1) := by decide +kernel
theorem k49_50 : decode (gb 49) 50 = .ok (.istore 4, 2) := by decide +kernel
theorem k49_52 : decode (gb 49) 52 = .ok (.aload_n 0, 1) := by decide +kernel
theorem k49_53 : decode (gb 49) 53 = .ok (.getfield 45, 3) := by decide +kernel
theorem k49_56 : decode (gb 49) 56 = .ok (.iload_n 3, 1) := by decide +kernel
theorem k49_57 : decode (gb 49) 57 = .ok (.bipush 6, 2) := by decide +kernel
theorem k49_59 : decode (gb 49) 59 = .ok (.iadd, 1) := by decide +kernel
theorem k49_60 : decode (gb 49) 60 = .ok (.iaload, 1) := by decide +kernel
theorem k49_61 : decode (gb 49) 61 = .ok (.ifCond .le 21, 3) := by decide +kernel
theorem k49_64 : decode (gb 49) 64 = .ok (.aload_n 0, 1) := by decide +kernel
theorem k49_65 : decode (gb 49) 65 = .ok (.getfield 45, 3) := by decide +kernel
theorem k49_68 : decode (gb 49) 68 = .ok (.iload_n 3, 1) := by decide +kernel
theorem k49_69 : decode (gb 49) 69 = .ok (.bipush 7, 2) := by decide +kernel
theorem k49_71 : decode (gb 49) 71 = .ok (.iadd, 1) := by decide +kernel
theorem k49_72 : decode (gb 49) 72 = .ok (.iaload, 1) := by decide +kernel
theorem k49_73 : decode (gb 49) 73 = .ok (.iload 4, 2) := by decide +kernel
theorem k49_75 : decode (gb 49) 75 = .ok (.if_icmp .ne 7, 3) := by decide +kernel
theorem k49_78 : decode (gb 49) 78 = .ok (.iconst 1, 1) := by decide +kernel
theorem k49_79 : decode (gb 49) 79 = .ok (.goto 4, 3) := by decide +kernel
theorem k49_82 : decode (gb 49) 82 = .ok (.iconst 0, 1) := by decide +kernel
theorem k49_83 : decode (gb 49) 83 = .ok (.istore 5, 2) := by decide +kernel
theorem k49_85 : decode (gb 49) 85 = .ok (.aload_n 0, 1) := by decide +kernel
theorem k49_86 : decode (gb 49) 86 = .ok (.getfield 45, 3) := by decide +kernel
theorem k49_89 : decode (gb 49) 89 = .ok (.iload_n 3, 1) := by decide +kernel
theorem k49_90 : decode (gb 49) 90 = .ok (.bipush 7, 2) := by decide +kernel
theorem k49_92 : decode (gb 49) 92 = .ok (.iadd, 1) := by decide +kernel
theorem k49_93 : decode (gb 49) 93 = .ok (.iload 4, 2) := by decide +kernel
theorem k49_95 : decode (gb 49) 95 = .ok (.iastore, 1) := by decide +kernel
theorem k49_96 : decode (gb 49) 96 = .ok (.aload_n 0, 1) := by decide +kernel
theorem k49_97 : decode (gb 49) 97 = .ok (.getfield 45, 3) := by decide +kernel
theorem k49_100 : decode (gb 49) 100 = .ok (.iload_n 3, 1) := by decide +kernel
theorem k49_101 : decode (gb 49) 101 = .ok (.bipush 6, 2) := by decide +kernel
theorem k49_103 : decode (gb 49) 103 = .ok (.iadd, 1) := by decide +kernel
theorem k49_104 : decode (gb 49) 104 = .ok (.iload 5, 2) := by decide +kernel
theorem k49_106 : decode (gb 49) 106 = .ok (.ifCond .eq 23, 3) := by decide +kernel
theorem k49_109 : decode (gb 49) 109 = .ok (.aload_n 0, 1) := by decide +kernel
theorem k49_110 : decode (gb 49) 110 = .ok (.getfield 45, 3) := by decide +kernel
theorem k49_113 : decode (gb 49) 113 = .ok (.iload_n 3, 1) := by decide +kernel
theorem k49_114 : decode (gb 49) 114 = .ok (.bipush 6, 2) := by decide +kernel
theorem k49_116 : decode (gb 49) 116 = .ok (.iadd, 1) := by decide +kernel
theorem k49_117 : decode (gb 49) 117 = .ok (.iaload, 1) := by decide +kernel
theorem k49_118 : decode (gb 49) 118 = .ok (.iconst 1, 1) := by decide +kernel
theorem k49_119 : decode (gb 49) 119 = .ok (.iadd, 1) := by decide +kernel
theorem k49_120 : decode (gb 49) 120 = .ok (.sipush 255, 3) := by decide +kernel
theorem k49_123 : decode (gb 49) 123 = .ok (.invokestatic 147, 3) := by decide +kernel
theorem k49_126 : decode (gb 49) 126 = .ok (.goto 4, 3) := by decide +kernel
theorem k49_129 : decode (gb 49) 129 = .ok (.iconst 1, 1) := by decide +kernel
theorem k49_130 : decode (gb 49) 130 = .ok (.iastore, 1) := by decide +kernel
theorem k49_131 : decode (gb 49) 131 = .ok (.aload_n 0, 1) := by decide +kernel
theorem k49_132 : decode (gb 49) 132 = .ok (.getfield 45, 3) := by decide +kernel
theorem k49_135 : decode (gb 49) 135 = .ok (.iload_n 3, 1) := by decide +kernel
theorem k49_136 : decode (gb 49) 136 = .ok (.iconst 0, 1) := by decide +kernel
theorem k49_137 : decode (gb 49) 137 = .ok (.iadd, 1) := by decide +kernel
theorem k49_138 : decode (gb 49) 138 = .ok (.iaload, 1) := by decide +kernel
theorem k49_139 : decode (gb 49) 139 = .ok (.istore 6, 2) := by decide +kernel
theorem k49_141 : decode (gb 49) 141 = .ok (.aload_n 0, 1) := by decide +kernel
theorem k49_142 : decode (gb 49) 142 = .ok (.getfield 45, 3) := by decide +kernel
theorem k49_145 : decode (gb 49) 145 = .ok (.iload_n 3, 1) := by decide +kernel
theorem k49_146 : decode (gb 49) 146 = .ok (.bipush 6, 2) := by decide +kernel
theorem k49_148 : decode (gb 49) 148 = .ok (.iadd, 1) := by decide +kernel
theorem k49_149 : decode (gb 49) 149 = .ok (.iaload, 1) := by decide +kernel
theorem k49_150 : decode (gb 49) 150 = .ok (.aload_n 0, 1) := by decide +kernel
theorem k49_151 : decode (gb 49) 151 = .ok (.getfield 45, 3) := by decide +kernel
theorem k49_154 : decode (gb 49) 154 = .ok (.iload_n 3, 1) := by decide +kernel
theorem k49_155 : decode (gb 49) 155 = .ok (.iconst 4, 1) := by decide +kernel
theorem k49_156 : decode (gb 49) 156 = .ok (.iadd, 1) := by decide +kernel
theorem k49_157 : decode (gb 49) 157 = .ok (.iaload, 1) := by decide +kernel
theorem k49_158 : decode (gb 49) 158 = .ok (.if_icmp .lt 10, 3) := by decide +kernel
theorem k49_161 : decode (gb 49) 161 = .ok (.iload 6, 2) := by decide +kernel
theorem k49_163 : decode (gb 49) 163 = .ok (.iload 4, 2) := by decide +kernel
theorem k49_165 : decode (gb 49) 165 = .ok (.if_icmp .ne 5, 3) := by decide +kernel
theorem k49_168 : decode (gb 49) 168 = .ok (.iconst 0, 1) := by decide +kernel
theorem k49_169 : decode (gb 49) 169 = .ok (.ireturn, 1) := by decide +kernel
theorem k49_170 : decode (gb 49) 170 = .ok (.aload_n 0, 1) := by decide +kernel
theorem k49_171 : decode (gb 49) 171 = .ok (.getfield 51, 3) := by decide +kernel
theorem k49_174 : decode (gb 49) 174 = .ok (.bipush 12, 2) := by decide +kernel
theorem k49_176 : decode (gb 49) 176 = .ok (.bipush 12, 2) := by decide +kernel
theorem k49_178 : decode (gb 49) 178 = .ok (.invokevirtual 116, 3) := by decide +kernel
theorem k49_181 : decode (gb 49) 181 = .ok (.aload_n 0, 1) := by decide +kernel
theorem k49_182 : decode (gb 49) 182 = .ok (.getfield 51, 3) := by decide +kernel
theorem k49_185 : decode (gb 49) 185 = .ok (.getfield 119, 3) := by decide +kernel
theorem k49_188 : decode (gb 49) 188 = .ok (.iload_n 1, 1) := by decide +kernel
theorem k49_189 : decode (gb 49) 189 = .ok (.invokevirtual 122, 3) := by decide +kernel
theorem k49_192 : decode (gb 49) 192 = .ok (.aload_n 0, 1) := by decide +kernel
theorem k49_193 : decode (gb 49) 193 = .ok (.getfield 51, 3) := by decide +kernel
theorem k49_196 : decode (gb 49) 196 = .ok (.getfield 119, 3) := by decide +kernel
theorem k49_199 : decode (gb 49) 199 = .ok (.aload_n 0, 1) := by decide +kernel
theorem k49_200 : decode (gb 49) 200 = .ok (.getfield 45, 3) := by decide +kernel
theorem k49_203 : decode (gb 49) 203 = .ok (.iload_n 3, 1) := by decide +kernel
theorem k49_204 : decode (gb 49) 204 = .ok (.iconst 1, 1) := by decide +kernel
theorem k49_205 : decode (gb 49) 205 = .ok (.iadd, 1) := by decide +kernel
theorem k49_206 : decode (gb 49) 206 = .ok (.iaload, 1) := by decide +kernel
theorem k49_207 : decode (gb 49) 207 = .ok (.invokevirtual 122, 3) := by decide +kernel
theorem k49_210 : decode (gb 49) 210 = .ok (.aload_n 0, 1) := by decide +kernel
theorem k49_211 : decode (gb 49) 211 = .ok (.getfield 51, 3) := by decide +kernel
theorem k49_214 : decode (gb 49) 214 = .ok (.getfield 119, 3) := by decide +kernel
theorem k49_217 : decode (gb 49) 217 = .ok (.iload_n 2, 1) := by decide +kernel
theorem k49_218 : decode (gb 49) 218 = .ok (.invokevirtual 259, 3) := by decide +kernel
theorem k49_221 : decode (gb 49) 221 = .ok (.aload_n 0, 1) := by decide +kernel
theorem k49_222 : decode (gb 49) 222 = .ok (.getfield 51, 3) := by decide +kernel
theorem k49_225 : decode (gb 49) 225 = .ok (.getfield 119, 3) := by decide +kernel
theorem k49_228 : decode (gb 49) 228 = .ok (.iload 6, 2) := by decide +kernel
theorem k49_230 : decode (gb 49) 230 = .ok (.invokevirtual 122, 3) := by decide +kernel
theorem k49_233 : decode (gb 49) 233 = .ok (.aload_n 0, 1) := by decide +kernel
theorem k49_234 : decode (gb 49) 234 = .ok (.getfield 51, 3) := by decide +kernel
theorem k49_237 : decode (gb 49) 237 = .ok (.getfield 119, 3) := by decide +kernel
theorem k49_240 : decode (gb 49) 240 = .ok (.iload 4, 2) := by decide +kernel
theorem k49_242 : decode (gb 49) 242 = .ok (.invokevirtual 122, 3) := by decide +kernel
theorem k49_245 : decode (gb 49) 245 = .ok (.aload_n 0, 1) := by decide +kernel
theorem k49_246 : decode (gb 49) 246 = .ok (.getfield 51, 3) := by decide +kernel
theorem k49_249 : decode (gb 49) 249 = .ok (.invokevirtual 125, 3) := by decide +kernel
theorem k49_252 : decode (gb 49) 252 = .ok (.aload_n 0, 1) := by decide +kernel
theorem k49_253 : decode (gb 49) 253 = .ok (.getfield 45, 3) := by decide +kernel
theorem k49_256 : decode (gb 49) 256 = .ok (.iload_n 3, 1) := by decide +kernel
theorem k49_257 : decode (gb 49) 257 = .ok (.iconst 0, 1) := by decide +kernel
theorem k49_258 : decode (gb 49) 258 = .ok (.iadd, 1) := by decide +kernel
theorem k49_259 : decode (gb 49) 259 = .ok (.iload 4, 2) := by decide +kernel
theorem k49_261 : decode (gb 49) 261 = .ok (.iastore, 1) := by decide +kernel
theorem k49_262 : decode (gb 49) 262 = .ok (.iload 4, 2) := by decide +kernel
theorem k49_264 : decode (gb 49) 264 = .ok (.iconst 3, 1) := by decide +kernel
theorem k49_265 : decode (gb 49) 265 = .ok (.if_icmp .eq 7, 3) := by decide +kernel
theorem k49_268 : decode (gb 49) 268 = .ok (.iconst 1, 1) := by decide +kernel
theorem k49_269 : decode (gb 49) 269 = .ok (.goto 4, 3) := by decide +kernel
theorem k49_272 : decode (gb 49) 272 = .ok (.iconst 0, 1) := by decide +kernel
theorem k49_273 : decode (gb 49) 273 = .ok (.ireturn, 1) := by decide +kernel
def c49_130 (v1 : Int32) (v2 : Int32) (v3 : Int32) (v4 : Int32) (s1 : Int32) (s2 : Int32) (μ : Mem) : Option (Mem × Int32) :=
  (stA 126 s1 s2 μ).bind fun m1 =>
  (ldA 126 (v3 + (0 : Int32)) m1).bind fun x3 =>
  (ldA 126 (v3 + (6 : Int32)) m1).bind fun x5 =>
  (ldA 126 (v3 + (4 : Int32)) m1).bind fun x7 =>
  if x5 < x7 then
    rtZ (0 : Int32) m1
  else
    if x3 = v4 then
      rtZ (0 : Int32) m1
    else
      (f117 (12 : Int32) (12 : Int32) m1).bind fun r11 =>
      (f65 87 v1 r11).bind fun r13 =>
      (ldA 126 (v3 + (1 : Int32)) r13).bind fun x15 =>
      (f65 87 x15 r13).bind fun r17 =>
      (f67 87 v2 r17).bind fun r19 =>
      (f65 87 x3 r19).bind fun r21 =>
      (f65 87 v4 r21).bind fun r23 =>
      (f119 r23).bind fun r25 =>
      (stA 126 (v3 + (0 : Int32)) v4 r25).bind fun m27 =>
      if v4 = (3 : Int32) then
        rtZ (0 : Int32) m27
      else
        rtZ (1 : Int32) m27
theorem c49_130_ok {L : Nat} (v1 : Int32) (v2 : Int32) (v3 : Int32) (v4 : Int32) (s1 : Int32) (s2 : Int32) (μ : Mem) (res : Mem × Int32) (h : c49_130 v1 v2 v3 v4 s1 s2 μ = some res) : Sx 49 130 [(0, .ref 101), (1, .int v1), (2, .int v2), (3, .int v3), (4, .int v4)] [.int s2, .int s1, .ref 126] 0 0 (mk L μ) (mk L res.1, some (.int res.2)) := by
  unfold c49_130 at h
  obtain ⟨m1, e2, h⟩ := Option.bind_eq_some_iff.mp h
  refine cx_iast k49_130 sk_126 e2 ?_
  refine sx_aload_n (i := 0) k49_131 rfl rfl ?_
  refine cx_getR (k := 9) k49_132 ow_49 fl_1_45 (by decide) sk_101 ft_0_9 sr_101_9 ?_
  refine sx_iload_n (i := 3) k49_135 rfl rfl ?_
  refine sx_iconst (v := 0) k49_136 (by decide) ?_
  refine sx_iadd k49_137 ?_
  obtain ⟨x3, e4, h⟩ := Option.bind_eq_some_iff.mp h
  refine cx_iald k49_138 sk_126 e4 ?_
  refine cx_istore (lo2 := [(6, .int x3), (0, .ref 101), (1, .int v1), (2, .int v2), (3, .int v3), (4, .int v4)]) k49_139 (by rw [mx_49]; decide) rfl ?_
  refine sx_aload_n (i := 0) k49_141 rfl rfl ?_
  refine cx_getR (k := 9) k49_142 ow_49 fl_1_45 (by decide) sk_101 ft_0_9 sr_101_9 ?_
  refine sx_iload_n (i := 3) k49_145 rfl rfl ?_
  refine sx_bipush (v := 6) k49_146 (by decide) ?_
  refine sx_iadd k49_148 ?_
  obtain ⟨x5, e6, h⟩ := Option.bind_eq_some_iff.mp h
  refine cx_iald k49_149 sk_126 e6 ?_
  refine sx_aload_n (i := 0) k49_150 rfl rfl ?_
  refine cx_getR (k := 9) k49_151 ow_49 fl_1_45 (by decide) sk_101 ft_0_9 sr_101_9 ?_
  refine sx_iload_n (i := 3) k49_154 rfl rfl ?_
  refine sx_iconst (v := 4) k49_155 (by decide) ?_
  refine sx_iadd k49_156 ?_
  obtain ⟨x7, e8, h⟩ := Option.bind_eq_some_iff.mp h
  refine cx_iald k49_157 sk_126 e8 ?_
  by_cases hb9 : x5 < x7
  · rw [if_pos hb9] at h
    refine sx_icmp_lt (tgt := 168) k49_158 (by decide) (fun _ => ?_) (fun q => absurd hb9 q)
    refine sx_iconst (v := 0) k49_168 (by decide) ?_
    exact cx_retz k49_169 rt_49 h
  · rw [if_neg hb9] at h
    refine sx_icmp_lt (tgt := 168) k49_158 (by decide) (fun q => absurd q hb9) (fun _ => ?_)
    refine sx_iload k49_161 rfl ?_
    refine sx_iload k49_163 rfl ?_
    by_cases hb10 : x3 = v4
    · rw [if_pos hb10] at h
      refine sx_icmp_ne (tgt := 170) k49_165 (by decide) (fun q => absurd hb10 q) (fun _ => ?_)
      refine sx_iconst (v := 0) k49_168 (by decide) ?_
      exact cx_retz k49_169 rt_49 h
    · rw [if_neg hb10] at h
      refine sx_icmp_ne (tgt := 170) k49_165 (by decide) (fun _ => ?_) (fun q => absurd q hb10)
      refine sx_aload_n (i := 0) k49_170 rfl rfl ?_
      refine cx_getR (k := 0) k49_171 ow_49 fl_1_51 (by decide) sk_101 ft_0_0 sr_101_0 ?_
      refine sx_bipush (v := 12) k49_174 (by decide) ?_
      refine sx_bipush (v := 12) k49_176 (by decide) ?_
      obtain ⟨r11, e12, h⟩ := Option.bind_eq_some_iff.mp h
      refine cx_V (sk := []) (vs := [.int (12 : Int32), .int (12 : Int32)]) st_49_117 k49_178 ow_49 cl_1_116 (by decide) rfl (Nat.le_of_ble_eq_true rfl) sk_57 (ok117 (12 : Int32) (12 : Int32) _ _ e12) (sk3 := []) rfl rfl ?_
      refine sx_aload_n (i := 0) k49_181 rfl rfl ?_
      refine cx_getR (k := 0) k49_182 ow_49 fl_1_51 (by decide) sk_101 ft_0_0 sr_101_0 ?_
      refine cx_getR (k := 5) k49_185 ow_49 fl_1_119 (by decide) sk_57 ft_5_5 sr_57_5 ?_
      refine sx_iload_n (i := 1) k49_188 rfl rfl ?_
      obtain ⟨r13, e14, h⟩ := Option.bind_eq_some_iff.mp h
      refine cx_V (sk := []) (vs := [.int v1]) st_49_65 k49_189 ow_49 cl_1_122 (by decide) rfl (Nat.le_of_ble_eq_true rfl) sk_87 (ok65 87 v1 sk_87 _ _ e14) (sk3 := []) rfl rfl ?_
      refine sx_aload_n (i := 0) k49_192 rfl rfl ?_
      refine cx_getR (k := 0) k49_193 ow_49 fl_1_51 (by decide) sk_101 ft_0_0 sr_101_0 ?_
      refine cx_getR (k := 5) k49_196 ow_49 fl_1_119 (by decide) sk_57 ft_5_5 sr_57_5 ?_
      refine sx_aload_n (i := 0) k49_199 rfl rfl ?_
      refine cx_getR (k := 9) k49_200 ow_49 fl_1_45 (by decide) sk_101 ft_0_9 sr_101_9 ?_
      refine sx_iload_n (i := 3) k49_203 rfl rfl ?_
      refine sx_iconst (v := 1) k49_204 (by decide) ?_
      refine sx_iadd k49_205 ?_
      obtain ⟨x15, e16, h⟩ := Option.bind_eq_some_iff.mp h
      refine cx_iald k49_206 sk_126 e16 ?_
      obtain ⟨r17, e18, h⟩ := Option.bind_eq_some_iff.mp h
      refine cx_V (sk := []) (vs := [.int x15]) st_49_65 k49_207 ow_49 cl_1_122 (by decide) rfl (Nat.le_of_ble_eq_true rfl) sk_87 (ok65 87 x15 sk_87 _ _ e18) (sk3 := []) rfl rfl ?_
      refine sx_aload_n (i := 0) k49_210 rfl rfl ?_
      refine cx_getR (k := 0) k49_211 ow_49 fl_1_51 (by decide) sk_101 ft_0_0 sr_101_0 ?_
      refine cx_getR (k := 5) k49_214 ow_49 fl_1_119 (by decide) sk_57 ft_5_5 sr_57_5 ?_
      refine sx_iload_n (i := 2) k49_217 rfl rfl ?_
      obtain ⟨r19, e20, h⟩ := Option.bind_eq_some_iff.mp h
      refine cx_V (sk := []) (vs := [.int v2]) st_49_67 k49_218 ow_49 cl_1_259 (by decide) rfl (Nat.le_of_ble_eq_true rfl) sk_87 (ok67 87 v2 sk_87 _ _ e20) (sk3 := []) rfl rfl ?_
      refine sx_aload_n (i := 0) k49_221 rfl rfl ?_
      refine cx_getR (k := 0) k49_222 ow_49 fl_1_51 (by decide) sk_101 ft_0_0 sr_101_0 ?_
      refine cx_getR (k := 5) k49_225 ow_49 fl_1_119 (by decide) sk_57 ft_5_5 sr_57_5 ?_
      refine sx_iload k49_228 rfl ?_
      obtain ⟨r21, e22, h⟩ := Option.bind_eq_some_iff.mp h
      refine cx_V (sk := []) (vs := [.int x3]) st_49_65 k49_230 ow_49 cl_1_122 (by decide) rfl (Nat.le_of_ble_eq_true rfl) sk_87 (ok65 87 x3 sk_87 _ _ e22) (sk3 := []) rfl rfl ?_
      refine sx_aload_n (i := 0) k49_233 rfl rfl ?_
      refine cx_getR (k := 0) k49_234 ow_49 fl_1_51 (by decide) sk_101 ft_0_0 sr_101_0 ?_
      refine cx_getR (k := 5) k49_237 ow_49 fl_1_119 (by decide) sk_57 ft_5_5 sr_57_5 ?_
      refine sx_iload k49_240 rfl ?_
      obtain ⟨r23, e24, h⟩ := Option.bind_eq_some_iff.mp h
      refine cx_V (sk := []) (vs := [.int v4]) st_49_65 k49_242 ow_49 cl_1_122 (by decide) rfl (Nat.le_of_ble_eq_true rfl) sk_87 (ok65 87 v4 sk_87 _ _ e24) (sk3 := []) rfl rfl ?_
      refine sx_aload_n (i := 0) k49_245 rfl rfl ?_
      refine cx_getR (k := 0) k49_246 ow_49 fl_1_51 (by decide) sk_101 ft_0_0 sr_101_0 ?_
      obtain ⟨r25, e26, h⟩ := Option.bind_eq_some_iff.mp h
      refine cx_V (sk := []) (vs := []) st_49_119 k49_249 ow_49 cl_1_125 (by decide) rfl (Nat.le_of_ble_eq_true rfl) sk_57 (ok119 _ _ e26) (sk3 := []) rfl rfl ?_
      refine sx_aload_n (i := 0) k49_252 rfl rfl ?_
      refine cx_getR (k := 9) k49_253 ow_49 fl_1_45 (by decide) sk_101 ft_0_9 sr_101_9 ?_
      refine sx_iload_n (i := 3) k49_256 rfl rfl ?_
      refine sx_iconst (v := 0) k49_257 (by decide) ?_
      refine sx_iadd k49_258 ?_
      refine sx_iload k49_259 rfl ?_
      obtain ⟨m27, e28, h⟩ := Option.bind_eq_some_iff.mp h
      refine cx_iast k49_261 sk_126 e28 ?_
      refine sx_iload k49_262 rfl ?_
      refine sx_iconst (v := 3) k49_264 (by decide) ?_
      by_cases hb29 : v4 = (3 : Int32)
      · rw [if_pos hb29] at h
        refine sx_icmp_eq (tgt := 272) k49_265 (by decide) (fun _ => ?_) (fun q => absurd hb29 q)
        refine sx_iconst (v := 0) k49_272 (by decide) ?_
        exact cx_retz k49_273 rt_49 h
      · rw [if_neg hb29] at h
        refine sx_icmp_eq (tgt := 272) k49_265 (by decide) (fun q => absurd q hb29) (fun _ => ?_)
        refine sx_iconst (v := 1) k49_268 (by decide) ?_
        refine sx_goto (tgt := 273) k49_269 (by decide) ?_
        exact cx_retz k49_273 rt_49 h
def c49_83 (v1 : Int32) (v2 : Int32) (v3 : Int32) (v4 : Int32) (s0 : Int32) (μ : Mem) : Option (Mem × Int32) :=
  (stA 126 (v3 + (7 : Int32)) v4 μ).bind fun m1 =>
  if s0 = 0 then
    c49_130 v1 v2 v3 v4 (v3 + (6 : Int32)) (1 : Int32) m1
  else
    (ldA 126 (v3 + (6 : Int32)) m1).bind fun x4 =>
    c49_130 v1 v2 v3 v4 (v3 + (6 : Int32)) (jmin (x4 + (1 : Int32)) (255 : Int32)) m1
theorem c49_83_ok {L : Nat} (v1 : Int32) (v2 : Int32) (v3 : Int32) (v4 : Int32) (s0 : Int32) (μ : Mem) (res : Mem × Int32) (h : c49_83 v1 v2 v3 v4 s0 μ = some res) : Sx 49 83 [(0, .ref 101), (1, .int v1), (2, .int v2), (3, .int v3), (4, .int v4)] [.int s0] 0 0 (mk L μ) (mk L res.1, some (.int res.2)) := by
  unfold c49_83 at h
  refine cx_istore (lo2 := [(5, .int s0), (0, .ref 101), (1, .int v1), (2, .int v2), (3, .int v3), (4, .int v4)]) k49_83 (by rw [mx_49]; decide) rfl ?_
  refine sx_aload_n (i := 0) k49_85 rfl rfl ?_
  refine cx_getR (k := 9) k49_86 ow_49 fl_1_45 (by decide) sk_101 ft_0_9 sr_101_9 ?_
  refine sx_iload_n (i := 3) k49_89 rfl rfl ?_
  refine sx_bipush (v := 7) k49_90 (by decide) ?_
  refine sx_iadd k49_92 ?_
  refine sx_iload k49_93 rfl ?_
  obtain ⟨m1, e2, h⟩ := Option.bind_eq_some_iff.mp h
  refine cx_iast k49_95 sk_126 e2 ?_
  refine sx_aload_n (i := 0) k49_96 rfl rfl ?_
  refine cx_getR (k := 9) k49_97 ow_49 fl_1_45 (by decide) sk_101 ft_0_9 sr_101_9 ?_
  refine sx_iload_n (i := 3) k49_100 rfl rfl ?_
  refine sx_bipush (v := 6) k49_101 (by decide) ?_
  refine sx_iadd k49_103 ?_
  refine sx_iload k49_104 rfl ?_
  by_cases hb3 : s0 = 0
  · rw [if_pos hb3] at h
    refine sx_if_eq (tgt := 129) k49_106 (by decide) (fun _ => ?_) (fun q => absurd hb3 q)
    refine sx_iconst (v := 1) k49_129 (by decide) ?_
    refine sx_pick (lo2 := [(0, .ref 101), (1, .int v1), (2, .int v2), (3, .int v3), (4, .int v4)]) [1, 2, 3, 4, 5] rfl ?_
    exact c49_130_ok v1 v2 v3 v4 (v3 + (6 : Int32)) (1 : Int32) _ _ h
  · rw [if_neg hb3] at h
    refine sx_if_eq (tgt := 129) k49_106 (by decide) (fun q => absurd q hb3) (fun _ => ?_)
    refine sx_aload_n (i := 0) k49_109 rfl rfl ?_
    refine cx_getR (k := 9) k49_110 ow_49 fl_1_45 (by decide) sk_101 ft_0_9 sr_101_9 ?_
    refine sx_iload_n (i := 3) k49_113 rfl rfl ?_
    refine sx_bipush (v := 6) k49_114 (by decide) ?_
    refine sx_iadd k49_116 ?_
    obtain ⟨x4, e5, h⟩ := Option.bind_eq_some_iff.mp h
    refine cx_iald k49_117 sk_126 e5 ?_
    refine sx_iconst (v := 1) k49_118 (by decide) ?_
    refine sx_iadd k49_119 ?_
    refine sx_sipush (v := 255) k49_120 (by decide) ?_
    refine cx_min k49_123 ow_49 yl_1_147 (by decide) (by decide +kernel) (Nat.le_of_ble_eq_true rfl) ?_
    refine sx_goto (tgt := 130) k49_126 (by decide) ?_
    refine sx_pick (lo2 := [(0, .ref 101), (1, .int v1), (2, .int v2), (3, .int v3), (4, .int v4)]) [1, 2, 3, 4, 5] rfl ?_
    exact c49_130_ok v1 v2 v3 v4 (v3 + (6 : Int32)) (jmin (x4 + (1 : Int32)) (255 : Int32)) _ _ h
def c49_82 (v1 : Int32) (v2 : Int32) (v3 : Int32) (v4 : Int32) (μ : Mem) : Option (Mem × Int32) :=
  c49_83 v1 v2 v3 v4 (0 : Int32) μ
theorem c49_82_ok {L : Nat} (v1 : Int32) (v2 : Int32) (v3 : Int32) (v4 : Int32) (μ : Mem) (res : Mem × Int32) (h : c49_82 v1 v2 v3 v4 μ = some res) : Sx 49 82 [(0, .ref 101), (1, .int v1), (2, .int v2), (3, .int v3), (4, .int v4)] [] 0 0 (mk L μ) (mk L res.1, some (.int res.2)) := by
  unfold c49_82 at h
  refine sx_iconst (v := 0) k49_82 (by decide) ?_
  refine sx_pick (lo2 := [(0, .ref 101), (1, .int v1), (2, .int v2), (3, .int v3), (4, .int v4)]) [0, 1, 2, 3, 4] rfl ?_
  exact c49_83_ok v1 v2 v3 v4 (0 : Int32) _ _ h
def c49_50 (v1 : Int32) (v2 : Int32) (v3 : Int32) (s0 : Int32) (μ : Mem) : Option (Mem × Int32) :=
  (ldA 126 (v3 + (6 : Int32)) μ).bind fun x1 =>
  if x1 ≤ 0 then
    c49_82 v1 v2 v3 s0 μ
  else
    (ldA 126 (v3 + (7 : Int32)) μ).bind fun x4 =>
    if x4 = s0 then
      c49_83 v1 v2 v3 s0 (1 : Int32) μ
    else
      c49_82 v1 v2 v3 s0 μ
theorem c49_50_ok {L : Nat} (v1 : Int32) (v2 : Int32) (v3 : Int32) (s0 : Int32) (μ : Mem) (res : Mem × Int32) (h : c49_50 v1 v2 v3 s0 μ = some res) : Sx 49 50 [(0, .ref 101), (1, .int v1), (2, .int v2), (3, .int v3)] [.int s0] 0 0 (mk L μ) (mk L res.1, some (.int res.2)) := by
  unfold c49_50 at h
  refine cx_istore (lo2 := [(4, .int s0), (0, .ref 101), (1, .int v1), (2, .int v2), (3, .int v3)]) k49_50 (by rw [mx_49]; decide) rfl ?_
  refine sx_aload_n (i := 0) k49_52 rfl rfl ?_
  refine cx_getR (k := 9) k49_53 ow_49 fl_1_45 (by decide) sk_101 ft_0_9 sr_101_9 ?_
  refine sx_iload_n (i := 3) k49_56 rfl rfl ?_
  refine sx_bipush (v := 6) k49_57 (by decide) ?_
  refine sx_iadd k49_59 ?_
  obtain ⟨x1, e2, h⟩ := Option.bind_eq_some_iff.mp h
  refine cx_iald k49_60 sk_126 e2 ?_
  by_cases hb3 : x1 ≤ 0
  · rw [if_pos hb3] at h
    refine sx_if_le (tgt := 82) k49_61 (by decide) (fun _ => ?_) (fun q => absurd hb3 q)
    refine sx_pick (lo2 := [(0, .ref 101), (1, .int v1), (2, .int v2), (3, .int v3), (4, .int s0)]) [1, 2, 3, 4, 0] rfl ?_
    exact c49_82_ok v1 v2 v3 s0 _ _ h
  · rw [if_neg hb3] at h
    refine sx_if_le (tgt := 82) k49_61 (by decide) (fun q => absurd q hb3) (fun _ => ?_)
    refine sx_aload_n (i := 0) k49_64 rfl rfl ?_
    refine cx_getR (k := 9) k49_65 ow_49 fl_1_45 (by decide) sk_101 ft_0_9 sr_101_9 ?_
    refine sx_iload_n (i := 3) k49_68 rfl rfl ?_
    refine sx_bipush (v := 7) k49_69 (by decide) ?_
    refine sx_iadd k49_71 ?_
    obtain ⟨x4, e5, h⟩ := Option.bind_eq_some_iff.mp h
    refine cx_iald k49_72 sk_126 e5 ?_
    refine sx_iload k49_73 rfl ?_
    by_cases hb6 : x4 = s0
    · rw [if_pos hb6] at h
      refine sx_icmp_ne (tgt := 82) k49_75 (by decide) (fun q => absurd hb6 q) (fun _ => ?_)
      refine sx_iconst (v := 1) k49_78 (by decide) ?_
      refine sx_goto (tgt := 83) k49_79 (by decide) ?_
      refine sx_pick (lo2 := [(0, .ref 101), (1, .int v1), (2, .int v2), (3, .int v3), (4, .int s0)]) [1, 2, 3, 4, 0] rfl ?_
      exact c49_83_ok v1 v2 v3 s0 (1 : Int32) _ _ h
    · rw [if_neg hb6] at h
      refine sx_icmp_ne (tgt := 82) k49_75 (by decide) (fun _ => ?_) (fun q => absurd q hb6)
      refine sx_pick (lo2 := [(0, .ref 101), (1, .int v1), (2, .int v2), (3, .int v3), (4, .int s0)]) [1, 2, 3, 4, 0] rfl ?_
      exact c49_82_ok v1 v2 v3 s0 _ _ h
/-- Board.lookOf(II)Z -/
def f49 (p1 : Int32) (p2 : Int32) (μ : Mem) : Option (Mem × Int32) :=
  nm (p1 * (8 : Int32)) fun x1 =>
  if p1 < 0 then
    rtZ (0 : Int32) μ
  else
    if p1 < (6 : Int32) then
      (ldA 126 (x1 + (2 : Int32)) μ).bind fun x4 =>
      if x4 ≤ p2 then
        (ldA 126 (x1 + (3 : Int32)) μ).bind fun x7 =>
        if p2 ≤ x7 then
          c49_50 p1 p2 x1 (3 : Int32) μ
        else
          c49_50 p1 p2 x1 (5 : Int32) μ
      else
        c49_50 p1 p2 x1 (4 : Int32) μ
    else
      rtZ (0 : Int32) μ
theorem ok49 {L : Nat} (p1 : Int32) (p2 : Int32) (μ : Mem) (res : Mem × Int32) (h : f49 p1 p2 μ = some res) : Mx 49 [.ref 101, .int p1, .int p2] (mk L μ) (mk L res.1, some (.int res.2)) := by
  refine Mx_of ml_49 (by rw [mx_49]; exact Nat.le_of_ble_eq_true rfl) ?_
  show Sx 49 0 [(0, .ref 101), (1, .int p1), (2, .int p2)] [] 0 0 (mk L μ) _
  unfold f49 at h
  refine sx_iload_n (i := 1) k49_0 rfl rfl ?_
  refine sx_bipush (v := 8) k49_1 (by decide) ?_
  refine sx_imul k49_3 ?_
  refine cx_nm h (fun x1 h => ?_)
  refine cx_istore_n (lo2 := [(3, .int x1), (0, .ref 101), (1, .int p1), (2, .int p2)]) k49_4 rfl (by rw [mx_49]; decide) rfl ?_
  refine sx_iload_n (i := 1) k49_5 rfl rfl ?_
  by_cases hb2 : p1 < 0
  · rw [if_pos hb2] at h
    refine sx_if_lt (tgt := 15) k49_6 (by decide) (fun _ => ?_) (fun q => absurd hb2 q)
    refine sx_iconst (v := 0) k49_15 (by decide) ?_
    exact cx_retz k49_16 rt_49 h
  · rw [if_neg hb2] at h
    refine sx_if_lt (tgt := 15) k49_6 (by decide) (fun q => absurd q hb2) (fun _ => ?_)
    refine sx_iload_n (i := 1) k49_9 rfl rfl ?_
    refine sx_bipush (v := 6) k49_10 (by decide) ?_
    by_cases hb3 : p1 < (6 : Int32)
    · rw [if_pos hb3] at h
      refine sx_icmp_lt (tgt := 17) k49_12 (by decide) (fun _ => ?_) (fun q => absurd hb3 q)
      refine sx_iload_n (i := 2) k49_17 rfl rfl ?_
      refine sx_aload_n (i := 0) k49_18 rfl rfl ?_
      refine cx_getR (k := 9) k49_19 ow_49 fl_1_45 (by decide) sk_101 ft_0_9 sr_101_9 ?_
      refine sx_iload_n (i := 3) k49_22 rfl rfl ?_
      refine sx_iconst (v := 2) k49_23 (by decide) ?_
      refine sx_iadd k49_24 ?_
      obtain ⟨x4, e5, h⟩ := Option.bind_eq_some_iff.mp h
      refine cx_iald k49_25 sk_126 e5 ?_
      by_cases hb6 : x4 ≤ p2
      · rw [if_pos hb6] at h
        refine sx_icmp_ge (tgt := 33) k49_26 (by decide) (fun _ => ?_) (fun q => absurd hb6 q)
        refine sx_iload_n (i := 2) k49_33 rfl rfl ?_
        refine sx_aload_n (i := 0) k49_34 rfl rfl ?_
        refine cx_getR (k := 9) k49_35 ow_49 fl_1_45 (by decide) sk_101 ft_0_9 sr_101_9 ?_
        refine sx_iload_n (i := 3) k49_38 rfl rfl ?_
        refine sx_iconst (v := 3) k49_39 (by decide) ?_
        refine sx_iadd k49_40 ?_
        obtain ⟨x7, e8, h⟩ := Option.bind_eq_some_iff.mp h
        refine cx_iald k49_41 sk_126 e8 ?_
        by_cases hb9 : p2 ≤ x7
        · rw [if_pos hb9] at h
          refine sx_icmp_le (tgt := 49) k49_42 (by decide) (fun _ => ?_) (fun q => absurd hb9 q)
          refine sx_iconst (v := 3) k49_49 (by decide) ?_
          refine sx_pick (lo2 := [(0, .ref 101), (1, .int p1), (2, .int p2), (3, .int x1)]) [1, 2, 3, 0] rfl ?_
          exact c49_50_ok p1 p2 x1 (3 : Int32) _ _ h
        · rw [if_neg hb9] at h
          refine sx_icmp_le (tgt := 49) k49_42 (by decide) (fun q => absurd q hb9) (fun _ => ?_)
          refine sx_iconst (v := 5) k49_45 (by decide) ?_
          refine sx_goto (tgt := 50) k49_46 (by decide) ?_
          refine sx_pick (lo2 := [(0, .ref 101), (1, .int p1), (2, .int p2), (3, .int x1)]) [1, 2, 3, 0] rfl ?_
          exact c49_50_ok p1 p2 x1 (5 : Int32) _ _ h
      · rw [if_neg hb6] at h
        refine sx_icmp_ge (tgt := 33) k49_26 (by decide) (fun q => absurd q hb6) (fun _ => ?_)
        refine sx_iconst (v := 4) k49_29 (by decide) ?_
        refine sx_goto (tgt := 50) k49_30 (by decide) ?_
        refine sx_pick (lo2 := [(0, .ref 101), (1, .int p1), (2, .int p2), (3, .int x1)]) [1, 2, 3, 0] rfl ?_
        exact c49_50_ok p1 p2 x1 (4 : Int32) _ _ h
    · rw [if_neg hb3] at h
      refine sx_icmp_lt (tgt := 17) k49_12 (by decide) (fun q => absurd q hb3) (fun _ => ?_)
      refine sx_iconst (v := 0) k49_15 (by decide) ?_
      exact cx_retz k49_16 rt_49 h
theorem k48_0 : decode (gb 48) 0 = .ok (.iconst 0, 1) := by decide +kernel
theorem k48_1 : decode (gb 48) 1 = .ok (.istore_n 1, 1) := by decide +kernel
theorem k48_2 : decode (gb 48) 2 = .ok (.iload_n 1, 1) := by decide +kernel
theorem k48_3 : decode (gb 48) 3 = .ok (.bipush 6, 2) := by decide +kernel
theorem k48_5 : decode (gb 48) 5 = .ok (.if_icmp .ge 70, 3) := by decide +kernel
theorem k48_8 : decode (gb 48) 8 = .ok (.iload_n 1, 1) := by decide +kernel
theorem k48_9 : decode (gb 48) 9 = .ok (.bipush 8, 2) := by decide +kernel
theorem k48_11 : decode (gb 48) 11 = .ok (.imul, 1) := by decide +kernel
theorem k48_12 : decode (gb 48) 12 = .ok (.istore_n 2, 1) := by decide +kernel
theorem k48_13 : decode (gb 48) 13 = .ok (.aload_n 0, 1) := by decide +kernel
theorem k48_14 : decode (gb 48) 14 = .ok (.getfield 45, 3) := by decide +kernel
theorem k48_17 : decode (gb 48) 17 = .ok (.iload_n 2, 1) := by decide +kernel
theorem k48_18 : decode (gb 48) 18 = .ok (.iconst 0, 1) := by decide +kernel
theorem k48_19 : decode (gb 48) 19 = .ok (.iadd, 1) := by decide +kernel
theorem k48_20 : decode (gb 48) 20 = .ok (.iaload, 1) := by decide +kernel
theorem k48_21 : decode (gb 48) 21 = .ok (.iconst 2, 1) := by decide +kernel
theorem k48_22 : decode (gb 48) 22 = .ok (.if_icmp .lt 47, 3) := by decide +kernel
theorem k48_25 : decode (gb 48) 25 = .ok (.aload_n 0, 1) := by decide +kernel
theorem k48_26 : decode (gb 48) 26 = .ok (.aload_n 0, 1) := by decide +kernel
theorem k48_27 : decode (gb 48) 27 = .ok (.getfield 45, 3) := by decide +kernel
theorem k48_30 : decode (gb 48) 30 = .ok (.iload_n 2, 1) := by decide +kernel
theorem k48_31 : decode (gb 48) 31 = .ok (.iconst 1, 1) := by decide +kernel
theorem k48_32 : decode (gb 48) 32 = .ok (.iadd, 1) := by decide +kernel
theorem k48_33 : decode (gb 48) 33 = .ok (.iaload, 1) := by decide +kernel
theorem k48_34 : decode (gb 48) 34 = .ok (.invokevirtual 256, 3) := by decide +kernel
theorem k48_37 : decode (gb 48) 37 = .ok (.istore_n 3, 1) := by decide +kernel
theorem k48_38 : decode (gb 48) 38 = .ok (.aload_n 0, 1) := by decide +kernel
theorem k48_39 : decode (gb 48) 39 = .ok (.iload_n 1, 1) := by decide +kernel
theorem k48_40 : decode (gb 48) 40 = .ok (.iload_n 3, 1) := by decide +kernel
theorem k48_41 : decode (gb 48) 41 = .ok (.invokevirtual 309, 3) := by decide +kernel
theorem k48_44 : decode (gb 48) 44 = .ok (.ifCond .eq 25, 3) := by decide +kernel
theorem k48_47 : decode (gb 48) 47 = .ok (.aload_n 0, 1) := by decide +kernel
theorem k48_48 : decode (gb 48) 48 = .ok (.aload_n 0, 1) := by decide +kernel
theorem k48_49 : decode (gb 48) 49 = .ok (.getfield 45, 3) := by decide +kernel
theorem k48_52 : decode (gb 48) 52 = .ok (.iload_n 2, 1) := by decide +kernel
theorem k48_53 : decode (gb 48) 53 = .ok (.iconst 5, 1) := by decide +kernel
theorem k48_54 : decode (gb 48) 54 = .ok (.iadd, 1) := by decide +kernel
theorem k48_55 : decode (gb 48) 55 = .ok (.iaload, 1) := by decide +kernel
theorem k48_56 : decode (gb 48) 56 = .ok (.iload_n 3, 1) := by decide +kernel
theorem k48_57 : decode (gb 48) 57 = .ok (.iconst 0, 1) := by decide +kernel
theorem k48_58 : decode (gb 48) 58 = .ok (.invokevirtual 183, 3) := by decide +kernel
theorem k48_61 : decode (gb 48) 61 = .ok (.ifCond .eq 8, 3) := by decide +kernel
theorem k48_64 : decode (gb 48) 64 = .ok (.aload_n 0, 1) := by decide +kernel
theorem k48_65 : decode (gb 48) 65 = .ok (.iconst 1, 1) := by decide +kernel
theorem k48_66 : decode (gb 48) 66 = .ok (.invokevirtual 187, 3) := by decide +kernel
theorem k48_69 : decode (gb 48) 69 = .ok (.iinc 1 1, 3) := by decide +kernel
theorem k48_72 : decode (gb 48) 72 = .ok (.goto (-70), 3) := by decide +kernel
theorem k48_75 : decode (gb 48) 75 = .ok (.return_, 1) := by decide +kernel
def c48_69 (kl2 : Int32 → Mem → Option (Mem)) (v1 : Int32) (μ : Mem) : Option (Mem) :=
  nm (v1 + (1 : Int32)) fun x1 =>
  kl2 x1 μ
theorem c48_69_ok {L : Nat} (kl2 : Int32 → Mem → Option (Mem)) (hk2 : (∀ (v1 : Int32) (μ : Mem) (res : Mem), kl2 v1 μ = some res → Sx 48 2 [(0, .ref 101), (1, .int v1)] [] 0 0 (mk L μ) (mk L res, none))) (v1 : Int32) (μ : Mem) (res : Mem) (h : c48_69 kl2 v1 μ = some res) : Sx 48 69 [(0, .ref 101), (1, .int v1)] [] 0 0 (mk L μ) (mk L res, none) := by
  unfold c48_69 at h
  refine cx_iinc (c := 1) (lo2 := fun x1 => [(1, .int x1), (0, .ref 101)]) k48_69 rfl (by decide) (by rw [mx_48]; decide) (fun _ => rfl) h (fun x1 h => ?_)
  refine sx_goto (tgt := 2) k48_72 (by decide) ?_
  refine sx_pick (lo2 := [(0, .ref 101), (1, .int x1)]) [1, 0] rfl ?_
  exact hk2 x1 _ _ h
def b48_2 (kl2 : Int32 → Mem → Option (Mem)) (v1 : Int32) (μ : Mem) : Option (Mem) :=
  if (6 : Int32) ≤ v1 then
    some μ
  else
    nm (v1 * (8 : Int32)) fun x2 =>
    (ldA 126 (x2 + (0 : Int32)) μ).bind fun x3 =>
    if x3 < (2 : Int32) then
      c48_69 kl2 v1 μ
    else
      (ldA 126 (x2 + (1 : Int32)) μ).bind fun x6 =>
      (f6 x6 μ).bind fun r8 =>
      (f49 v1 r8.2 r8.1).bind fun r10 =>
      if r10.2 = 0 then
        c48_69 kl2 v1 r10.1
      else
        (ldA 126 (x2 + (5 : Int32)) r10.1).bind fun x13 =>
        (f40 x13 r8.2 (0 : Int32) r10.1).bind fun r15 =>
        if r15.2 = 0 then
          c48_69 kl2 v1 r15.1
        else
          (f10 (1 : Int32) r15.1).bind fun r18 =>
          c48_69 kl2 v1 r18
theorem b48_2_ok {L : Nat} (kl2 : Int32 → Mem → Option (Mem)) (hk2 : (∀ (v1 : Int32) (μ : Mem) (res : Mem), kl2 v1 μ = some res → Sx 48 2 [(0, .ref 101), (1, .int v1)] [] 0 0 (mk L μ) (mk L res, none))) (v1 : Int32) (μ : Mem) (res : Mem) (h : b48_2 kl2 v1 μ = some res) : Sx 48 2 [(0, .ref 101), (1, .int v1)] [] 0 0 (mk L μ) (mk L res, none) := by
  unfold b48_2 at h
  refine sx_iload_n (i := 1) k48_2 rfl rfl ?_
  refine sx_bipush (v := 6) k48_3 (by decide) ?_
  by_cases hb1 : (6 : Int32) ≤ v1
  · rw [if_pos hb1] at h
    refine sx_icmp_ge (tgt := 75) k48_5 (by decide) (fun _ => ?_) (fun q => absurd hb1 q)
    exact cx_retv k48_75 rt_48 h
  · rw [if_neg hb1] at h
    refine sx_icmp_ge (tgt := 75) k48_5 (by decide) (fun q => absurd q hb1) (fun _ => ?_)
    refine sx_iload_n (i := 1) k48_8 rfl rfl ?_
    refine sx_bipush (v := 8) k48_9 (by decide) ?_
    refine sx_imul k48_11 ?_
    refine cx_nm h (fun x2 h => ?_)
    refine cx_istore_n (lo2 := [(2, .int x2), (0, .ref 101), (1, .int v1)]) k48_12 rfl (by rw [mx_48]; decide) rfl ?_
    refine sx_aload_n (i := 0) k48_13 rfl rfl ?_
    refine cx_getR (k := 9) k48_14 ow_48 fl_1_45 (by decide) sk_101 ft_0_9 sr_101_9 ?_
    refine sx_iload_n (i := 2) k48_17 rfl rfl ?_
    refine sx_iconst (v := 0) k48_18 (by decide) ?_
    refine sx_iadd k48_19 ?_
    obtain ⟨x3, e4, h⟩ := Option.bind_eq_some_iff.mp h
    refine cx_iald k48_20 sk_126 e4 ?_
    refine sx_iconst (v := 2) k48_21 (by decide) ?_
    by_cases hb5 : x3 < (2 : Int32)
    · rw [if_pos hb5] at h
      refine sx_icmp_lt (tgt := 69) k48_22 (by decide) (fun _ => ?_) (fun q => absurd hb5 q)
      refine sx_pick (lo2 := [(0, .ref 101), (1, .int v1)]) [1, 2] rfl ?_
      exact c48_69_ok kl2 hk2 v1 _ _ h
    · rw [if_neg hb5] at h
      refine sx_icmp_lt (tgt := 69) k48_22 (by decide) (fun q => absurd q hb5) (fun _ => ?_)
      refine sx_aload_n (i := 0) k48_25 rfl rfl ?_
      refine sx_aload_n (i := 0) k48_26 rfl rfl ?_
      refine cx_getR (k := 9) k48_27 ow_48 fl_1_45 (by decide) sk_101 ft_0_9 sr_101_9 ?_
      refine sx_iload_n (i := 2) k48_30 rfl rfl ?_
      refine sx_iconst (v := 1) k48_31 (by decide) ?_
      refine sx_iadd k48_32 ?_
      obtain ⟨x6, e7, h⟩ := Option.bind_eq_some_iff.mp h
      refine cx_iald k48_33 sk_126 e7 ?_
      obtain ⟨r8, e9, h⟩ := Option.bind_eq_some_iff.mp h
      refine cx_V (sk := []) (vs := [.int x6]) st_48_6 k48_34 ow_48 cl_1_256 (by decide) rfl (Nat.le_of_ble_eq_true rfl) sk_101 (ok6 x6 _ _ e9) (sk3 := [.int r8.2]) rfl rfl ?_
      refine cx_istore_n (lo2 := [(3, .int r8.2), (2, .int x2), (0, .ref 101), (1, .int v1)]) k48_37 rfl (by rw [mx_48]; decide) rfl ?_
      refine sx_aload_n (i := 0) k48_38 rfl rfl ?_
      refine sx_iload_n (i := 1) k48_39 rfl rfl ?_
      refine sx_iload_n (i := 3) k48_40 rfl rfl ?_
      obtain ⟨r10, e11, h⟩ := Option.bind_eq_some_iff.mp h
      refine cx_V (sk := []) (vs := [.int v1, .int r8.2]) st_48_49 k48_41 ow_48 cl_1_309 (by decide) rfl (Nat.le_of_ble_eq_true rfl) sk_101 (ok49 v1 r8.2 _ _ e11) (sk3 := [.int r10.2]) rfl rfl ?_
      by_cases hb12 : r10.2 = 0
      · rw [if_pos hb12] at h
        refine sx_if_eq (tgt := 69) k48_44 (by decide) (fun _ => ?_) (fun q => absurd hb12 q)
        refine sx_pick (lo2 := [(0, .ref 101), (1, .int v1)]) [2, 3] rfl ?_
        exact c48_69_ok kl2 hk2 v1 _ _ h
      · rw [if_neg hb12] at h
        refine sx_if_eq (tgt := 69) k48_44 (by decide) (fun q => absurd q hb12) (fun _ => ?_)
        refine sx_aload_n (i := 0) k48_47 rfl rfl ?_
        refine sx_aload_n (i := 0) k48_48 rfl rfl ?_
        refine cx_getR (k := 9) k48_49 ow_48 fl_1_45 (by decide) sk_101 ft_0_9 sr_101_9 ?_
        refine sx_iload_n (i := 2) k48_52 rfl rfl ?_
        refine sx_iconst (v := 5) k48_53 (by decide) ?_
        refine sx_iadd k48_54 ?_
        obtain ⟨x13, e14, h⟩ := Option.bind_eq_some_iff.mp h
        refine cx_iald k48_55 sk_126 e14 ?_
        refine sx_iload_n (i := 3) k48_56 rfl rfl ?_
        refine sx_iconst (v := 0) k48_57 (by decide) ?_
        obtain ⟨r15, e16, h⟩ := Option.bind_eq_some_iff.mp h
        refine cx_V (sk := []) (vs := [.int x13, .int r8.2, .int (0 : Int32)]) st_48_40 k48_58 ow_48 cl_1_183 (by decide) rfl (Nat.le_of_ble_eq_true rfl) sk_101 (ok40 x13 r8.2 (0 : Int32) _ _ e16) (sk3 := [.int r15.2]) rfl rfl ?_
        by_cases hb17 : r15.2 = 0
        · rw [if_pos hb17] at h
          refine sx_if_eq (tgt := 69) k48_61 (by decide) (fun _ => ?_) (fun q => absurd hb17 q)
          refine sx_pick (lo2 := [(0, .ref 101), (1, .int v1)]) [2, 3] rfl ?_
          exact c48_69_ok kl2 hk2 v1 _ _ h
        · rw [if_neg hb17] at h
          refine sx_if_eq (tgt := 69) k48_61 (by decide) (fun q => absurd q hb17) (fun _ => ?_)
          refine sx_aload_n (i := 0) k48_64 rfl rfl ?_
          refine sx_iconst (v := 1) k48_65 (by decide) ?_
          obtain ⟨r18, e19, h⟩ := Option.bind_eq_some_iff.mp h
          refine cx_V (sk := []) (vs := [.int (1 : Int32)]) st_48_10 k48_66 ow_48 cl_1_187 (by decide) rfl (Nat.le_of_ble_eq_true rfl) sk_101 (ok10 (1 : Int32) _ _ e19) (sk3 := []) rfl rfl ?_
          refine sx_pick (lo2 := [(0, .ref 101), (1, .int v1)]) [2, 3] rfl ?_
          exact c48_69_ok kl2 hk2 v1 _ _ h
def l48_2 : Nat → Int32 × Mem → Option (Mem) :=
  fixN (fun self x => b48_2 (fun v1 μ => self (v1, μ)) (x.1) (x.2))
theorem l48_2_ok {L : Nat} (n : Nat) (v1 : Int32) (μ : Mem) (res : Mem) (h : l48_2 n (v1, μ) = some res) : Sx 48 2 [(0, .ref 101), (1, .int v1)] [] 0 0 (mk L μ) (mk L res, none) := by
  have key := fixN_ind (P := fun x res => Sx 48 2 [(0, .ref 101), (1, .int (x.1))] [] 0 0 (mk L (x.2)) (mk L res, none)) (F := fun self x => b48_2 (fun v1 μ => self (v1, μ)) (x.1) (x.2)) (fun self hself x res h => b48_2_ok (fun v1 μ => self (v1, μ)) (fun v1 μ res hh => hself (v1, μ) res hh) (x.1) (x.2) res h) n (v1, μ) res h
  exact key
/-- Board.runWatches()V -/
def f48 (μ : Mem) : Option (Mem) :=
  l48_2 gF ((0 : Int32), μ)
theorem ok48 {L : Nat} (μ : Mem) (res : Mem) (h : f48 μ = some res) : Mx 48 [.ref 101] (mk L μ) (mk L res, none) := by
  refine Mx_of ml_48 (by rw [mx_48]; exact Nat.le_of_ble_eq_true rfl) ?_
  show Sx 48 0 [(0, .ref 101)] [] 0 0 (mk L μ) _
  unfold f48 at h
  refine sx_iconst (v := 0) k48_0 (by decide) ?_
  refine cx_istore_n (lo2 := [(1, .int (0 : Int32)), (0, .ref 101)]) k48_1 rfl (by rw [mx_48]; decide) rfl ?_
  refine sx_pick (lo2 := [(0, .ref 101), (1, .int (0 : Int32))]) [1, 0] rfl ?_
  exact l48_2_ok gF (0 : Int32) _ _ h
theorem k51_0 : decode (gb 51) 0 = .ok (.iconst 0, 1) := by decide +kernel
theorem k51_1 : decode (gb 51) 1 = .ok (.istore_n 1, 1) := by decide +kernel
theorem k51_2 : decode (gb 51) 2 = .ok (.iload_n 1, 1) := by decide +kernel
theorem k51_3 : decode (gb 51) 3 = .ok (.bipush 16, 2) := by decide +kernel
theorem k51_5 : decode (gb 51) 5 = .ok (.if_icmp .ge 95, 3) := by decide +kernel
theorem k51_8 : decode (gb 51) 8 = .ok (.aload_n 0, 1) := by decide +kernel
theorem k51_9 : decode (gb 51) 9 = .ok (.iconst 0, 1) := by decide +kernel
theorem k51_10 : decode (gb 51) 10 = .ok (.invokevirtual 318, 3) := by decide +kernel
theorem k51_13 : decode (gb 51) 13 = .ok (.istore_n 2, 1) := by decide +kernel
theorem k51_14 : decode (gb 51) 14 = .ok (.iload_n 2, 1) := by decide +kernel
theorem k51_15 : decode (gb 51) 15 = .ok (.ifCond .lt 21, 3) := by decide +kernel
theorem k51_18 : decode (gb 51) 18 = .ok (.aload_n 0, 1) := by decide +kernel
theorem k51_19 : decode (gb 51) 19 = .ok (.getfield 20, 3) := by decide +kernel
theorem k51_22 : decode (gb 51) 22 = .ok (.iload_n 2, 1) := by decide +kernel
theorem k51_23 : decode (gb 51) 23 = .ok (.invokevirtual 152, 3) := by decide +kernel
theorem k51_26 : decode (gb 51) 26 = .ok (.aload_n 0, 1) := by decide +kernel
theorem k51_27 : decode (gb 51) 27 = .ok (.getfield 51, 3) := by decide +kernel
theorem k51_30 : decode (gb 51) 30 = .ok (.getfield 78, 3) := by decide +kernel
theorem k51_33 : decode (gb 51) 33 = .ok (.if_icmp .le 4, 3) := by decide +kernel
theorem k51_36 : decode (gb 51) 36 = .ok (.return_, 1) := by decide +kernel
theorem k51_37 : decode (gb 51) 37 = .ok (.aload_n 0, 1) := by decide +kernel
theorem k51_38 : decode (gb 51) 38 = .ok (.getfield 89, 3) := by decide +kernel
theorem k51_41 : decode (gb 51) 41 = .ok (.ifCond .eq 22, 3) := by decide +kernel
theorem k51_44 : decode (gb 51) 44 = .ok (.aload_n 0, 1) := by decide +kernel
theorem k51_45 : decode (gb 51) 45 = .ok (.aload_n 0, 1) := by decide +kernel
theorem k51_46 : decode (gb 51) 46 = .ok (.getfield 20, 3) := by decide +kernel
theorem k51_49 : decode (gb 51) 49 = .ok (.iload_n 2, 1) := by decide +kernel
theorem k51_50 : decode (gb 51) 50 = .ok (.invokevirtual 294, 3) := by decide +kernel
theorem k51_53 : decode (gb 51) 53 = .ok (.invokevirtual 93, 3) := by decide +kernel
theorem k51_56 : decode (gb 51) 56 = .ok (.ifCond .eq 7, 3) := by decide +kernel
theorem k51_59 : decode (gb 51) 59 = .ok (.iconst 1, 1) := by decide +kernel
theorem k51_60 : decode (gb 51) 60 = .ok (.goto 4, 3) := by decide +kernel
theorem k51_63 : decode (gb 51) 63 = .ok (.iconst 0, 1) := by decide +kernel
theorem k51_64 : decode (gb 51) 64 = .ok (.istore_n 3, 1) := by decide +kernel
theorem k51_65 : decode (gb 51) 65 = .ok (.aload_n 0, 1) := by decide +kernel
theorem k51_66 : decode (gb 51) 66 = .ok (.getfield 20, 3) := by decide +kernel
theorem k51_69 : decode (gb 51) 69 = .ok (.iload_n 2, 1) := by decide +kernel
theorem k51_70 : decode (gb 51) 70 = .ok (.aload_n 0, 1) := by decide +kernel
theorem k51_71 : decode (gb 51) 71 = .ok (.getfield 31, 3) := by decide +kernel
theorem k51_74 : decode (gb 51) 74 = .ok (.invokevirtual 155, 3) := by decide +kernel
theorem k51_77 : decode (gb 51) 77 = .ok (.aload_n 0, 1) := by decide +kernel
theorem k51_78 : decode (gb 51) 78 = .ok (.getfield 20, 3) := by decide +kernel
theorem k51_81 : decode (gb 51) 81 = .ok (.iload_n 2, 1) := by decide +kernel
theorem k51_82 : decode (gb 51) 82 = .ok (.invokevirtual 159, 3) := by decide +kernel
theorem k51_85 : decode (gb 51) 85 = .ok (.iload_n 3, 1) := by decide +kernel
theorem k51_86 : decode (gb 51) 86 = .ok (.ifCond .eq 8, 3) := by decide +kernel
theorem k51_89 : decode (gb 51) 89 = .ok (.aload_n 0, 1) := by decide +kernel
theorem k51_90 : decode (gb 51) 90 = .ok (.iconst 0, 1) := by decide +kernel
theorem k51_91 : decode (gb 51) 91 = .ok (.invokevirtual 187, 3) := by decide +kernel
theorem k51_94 : decode (gb 51) 94 = .ok (.iinc 1 1, 3) := by decide +kernel
theorem k51_97 : decode (gb 51) 97 = .ok (.goto (-95), 3) := by decide +kernel
theorem k51_100 : decode (gb 51) 100 = .ok (.return_, 1) := by decide +kernel
def c51_94 (kl2 : Int32 → Mem → Option (Mem)) (v1 : Int32) (μ : Mem) : Option (Mem) :=
  nm (v1 + (1 : Int32)) fun x1 =>
  kl2 x1 μ
theorem c51_94_ok {L : Nat} (kl2 : Int32 → Mem → Option (Mem)) (hk2 : (∀ (v1 : Int32) (μ : Mem) (res : Mem), kl2 v1 μ = some res → Sx 51 2 [(0, .ref 101), (1, .int v1)] [] 0 0 (mk L μ) (mk L res, none))) (v1 : Int32) (μ : Mem) (res : Mem) (h : c51_94 kl2 v1 μ = some res) : Sx 51 94 [(0, .ref 101), (1, .int v1)] [] 0 0 (mk L μ) (mk L res, none) := by
  unfold c51_94 at h
  refine cx_iinc (c := 1) (lo2 := fun x1 => [(1, .int x1), (0, .ref 101)]) k51_94 rfl (by decide) (by rw [mx_51]; decide) (fun _ => rfl) h (fun x1 h => ?_)
  refine sx_goto (tgt := 2) k51_97 (by decide) ?_
  refine sx_pick (lo2 := [(0, .ref 101), (1, .int x1)]) [1, 0] rfl ?_
  exact hk2 x1 _ _ h
def c51_64 (kl2 : Int32 → Mem → Option (Mem)) (v1 : Int32) (v2 : Int32) (s0 : Int32) (μ : Mem) : Option (Mem) :=
  (f164 108 v2 120 μ).bind fun r1 =>
  (f162 108 v2 r1).bind fun r3 =>
  if s0 = 0 then
    c51_94 kl2 v1 r3
  else
    (f10 (0 : Int32) r3).bind fun r6 =>
    c51_94 kl2 v1 r6
theorem c51_64_ok {L : Nat} (kl2 : Int32 → Mem → Option (Mem)) (hk2 : (∀ (v1 : Int32) (μ : Mem) (res : Mem), kl2 v1 μ = some res → Sx 51 2 [(0, .ref 101), (1, .int v1)] [] 0 0 (mk L μ) (mk L res, none))) (v1 : Int32) (v2 : Int32) (s0 : Int32) (μ : Mem) (res : Mem) (h : c51_64 kl2 v1 v2 s0 μ = some res) : Sx 51 64 [(0, .ref 101), (1, .int v1), (2, .int v2)] [.int s0] 0 0 (mk L μ) (mk L res, none) := by
  unfold c51_64 at h
  refine cx_istore_n (lo2 := [(3, .int s0), (0, .ref 101), (1, .int v1), (2, .int v2)]) k51_64 rfl (by rw [mx_51]; decide) rfl ?_
  refine sx_aload_n (i := 0) k51_65 rfl rfl ?_
  refine cx_getR (k := 3) k51_66 ow_51 fl_1_20 (by decide) sk_101 ft_0_3 sr_101_3 ?_
  refine sx_iload_n (i := 2) k51_69 rfl rfl ?_
  refine sx_aload_n (i := 0) k51_70 rfl rfl ?_
  refine cx_getR (k := 5) k51_71 ow_51 fl_1_31 (by decide) sk_101 ft_0_5 sr_101_5 ?_
  obtain ⟨r1, e2, h⟩ := Option.bind_eq_some_iff.mp h
  refine cx_V (sk := []) (vs := [.int v2, .ref 120]) st_51_164 k51_74 ow_51 cl_1_155 (by decide) rfl (Nat.le_of_ble_eq_true rfl) sk_108 (ok164 108 v2 120 sk_108 sk_120 _ _ e2) (sk3 := []) rfl rfl ?_
  refine sx_aload_n (i := 0) k51_77 rfl rfl ?_
  refine cx_getR (k := 3) k51_78 ow_51 fl_1_20 (by decide) sk_101 ft_0_3 sr_101_3 ?_
  refine sx_iload_n (i := 2) k51_81 rfl rfl ?_
  obtain ⟨r3, e4, h⟩ := Option.bind_eq_some_iff.mp h
  refine cx_V (sk := []) (vs := [.int v2]) st_51_162 k51_82 ow_51 cl_1_159 (by decide) rfl (Nat.le_of_ble_eq_true rfl) sk_108 (ok162 108 v2 sk_108 _ _ e4) (sk3 := []) rfl rfl ?_
  refine sx_iload_n (i := 3) k51_85 rfl rfl ?_
  by_cases hb5 : s0 = 0
  · rw [if_pos hb5] at h
    refine sx_if_eq (tgt := 94) k51_86 (by decide) (fun _ => ?_) (fun q => absurd hb5 q)
    refine sx_pick (lo2 := [(0, .ref 101), (1, .int v1)]) [1, 2] rfl ?_
    exact c51_94_ok kl2 hk2 v1 _ _ h
  · rw [if_neg hb5] at h
    refine sx_if_eq (tgt := 94) k51_86 (by decide) (fun q => absurd q hb5) (fun _ => ?_)
    refine sx_aload_n (i := 0) k51_89 rfl rfl ?_
    refine sx_iconst (v := 0) k51_90 (by decide) ?_
    obtain ⟨r6, e7, h⟩ := Option.bind_eq_some_iff.mp h
    refine cx_V (sk := []) (vs := [.int (0 : Int32)]) st_51_10 k51_91 ow_51 cl_1_187 (by decide) rfl (Nat.le_of_ble_eq_true rfl) sk_101 (ok10 (0 : Int32) _ _ e7) (sk3 := []) rfl rfl ?_
    refine sx_pick (lo2 := [(0, .ref 101), (1, .int v1)]) [1, 2] rfl ?_
    exact c51_94_ok kl2 hk2 v1 _ _ h
def c51_63 (kl2 : Int32 → Mem → Option (Mem)) (v1 : Int32) (v2 : Int32) (μ : Mem) : Option (Mem) :=
  c51_64 kl2 v1 v2 (0 : Int32) μ
theorem c51_63_ok {L : Nat} (kl2 : Int32 → Mem → Option (Mem)) (hk2 : (∀ (v1 : Int32) (μ : Mem) (res : Mem), kl2 v1 μ = some res → Sx 51 2 [(0, .ref 101), (1, .int v1)] [] 0 0 (mk L μ) (mk L res, none))) (v1 : Int32) (v2 : Int32) (μ : Mem) (res : Mem) (h : c51_63 kl2 v1 v2 μ = some res) : Sx 51 63 [(0, .ref 101), (1, .int v1), (2, .int v2)] [] 0 0 (mk L μ) (mk L res, none) := by
  unfold c51_63 at h
  refine sx_iconst (v := 0) k51_63 (by decide) ?_
  refine sx_pick (lo2 := [(0, .ref 101), (1, .int v1), (2, .int v2)]) [0, 1, 2] rfl ?_
  exact c51_64_ok kl2 hk2 v1 v2 (0 : Int32) _ _ h
def b51_2 (kl2 : Int32 → Mem → Option (Mem)) (v1 : Int32) (μ : Mem) : Option (Mem) :=
  if (16 : Int32) ≤ v1 then
    some μ
  else
    (f50 (0 : Int32) μ).bind fun r2 =>
    if r2.2 < 0 then
      some r2.1
    else
      (f167 108 r2.2 r2.1).bind fun r5 =>
      if r5.2 ≤ (r5.1.1 57 12) then
        if (r5.1.1 101 13) = 0 then
          c51_63 kl2 v1 r2.2 r5.1
        else
          (f168 108 r2.2 r5.1).bind fun r9 =>
          (f8 r9.2 r9.1).bind fun r11 =>
          if r11.2 = 0 then
            c51_63 kl2 v1 r2.2 r11.1
          else
            c51_64 kl2 v1 r2.2 (1 : Int32) r11.1
      else
        some r5.1
theorem b51_2_ok {L : Nat} (kl2 : Int32 → Mem → Option (Mem)) (hk2 : (∀ (v1 : Int32) (μ : Mem) (res : Mem), kl2 v1 μ = some res → Sx 51 2 [(0, .ref 101), (1, .int v1)] [] 0 0 (mk L μ) (mk L res, none))) (v1 : Int32) (μ : Mem) (res : Mem) (h : b51_2 kl2 v1 μ = some res) : Sx 51 2 [(0, .ref 101), (1, .int v1)] [] 0 0 (mk L μ) (mk L res, none) := by
  unfold b51_2 at h
  refine sx_iload_n (i := 1) k51_2 rfl rfl ?_
  refine sx_bipush (v := 16) k51_3 (by decide) ?_
  by_cases hb1 : (16 : Int32) ≤ v1
  · rw [if_pos hb1] at h
    refine sx_icmp_ge (tgt := 100) k51_5 (by decide) (fun _ => ?_) (fun q => absurd hb1 q)
    exact cx_retv k51_100 rt_51 h
  · rw [if_neg hb1] at h
    refine sx_icmp_ge (tgt := 100) k51_5 (by decide) (fun q => absurd q hb1) (fun _ => ?_)
    refine sx_aload_n (i := 0) k51_8 rfl rfl ?_
    refine sx_iconst (v := 0) k51_9 (by decide) ?_
    obtain ⟨r2, e3, h⟩ := Option.bind_eq_some_iff.mp h
    refine cx_V (sk := []) (vs := [.int (0 : Int32)]) st_51_50 k51_10 ow_51 cl_1_318 (by decide) rfl (Nat.le_of_ble_eq_true rfl) sk_101 (ok50 (0 : Int32) _ _ e3) (sk3 := [.int r2.2]) rfl rfl ?_
    refine cx_istore_n (lo2 := [(2, .int r2.2), (0, .ref 101), (1, .int v1)]) k51_13 rfl (by rw [mx_51]; decide) rfl ?_
    refine sx_iload_n (i := 2) k51_14 rfl rfl ?_
    by_cases hb4 : r2.2 < 0
    · rw [if_pos hb4] at h
      refine sx_if_lt (tgt := 36) k51_15 (by decide) (fun _ => ?_) (fun q => absurd hb4 q)
      exact cx_retv k51_36 rt_51 h
    · rw [if_neg hb4] at h
      refine sx_if_lt (tgt := 36) k51_15 (by decide) (fun q => absurd q hb4) (fun _ => ?_)
      refine sx_aload_n (i := 0) k51_18 rfl rfl ?_
      refine cx_getR (k := 3) k51_19 ow_51 fl_1_20 (by decide) sk_101 ft_0_3 sr_101_3 ?_
      refine sx_iload_n (i := 2) k51_22 rfl rfl ?_
      obtain ⟨r5, e6, h⟩ := Option.bind_eq_some_iff.mp h
      refine cx_V (sk := []) (vs := [.int r2.2]) st_51_167 k51_23 ow_51 cl_1_152 (by decide) rfl (Nat.le_of_ble_eq_true rfl) sk_108 (ok167 108 r2.2 sk_108 _ _ e6) (sk3 := [.int r5.2]) rfl rfl ?_
      refine sx_aload_n (i := 0) k51_26 rfl rfl ?_
      refine cx_getR (k := 0) k51_27 ow_51 fl_1_51 (by decide) sk_101 ft_0_0 sr_101_0 ?_
      refine cx_getI (k := 12) k51_30 ow_51 fl_1_78 (by decide) sk_57 ft_5_12 ?_
      by_cases hb7 : r5.2 ≤ (r5.1.1 57 12)
      · rw [if_pos hb7] at h
        refine sx_icmp_le (tgt := 37) k51_33 (by decide) (fun _ => ?_) (fun q => absurd hb7 q)
        refine sx_aload_n (i := 0) k51_37 rfl rfl ?_
        refine cx_getI (k := 13) k51_38 ow_51 fl_1_89 (by decide) sk_101 ft_0_13 ?_
        by_cases hb8 : (r5.1.1 101 13) = 0
        · rw [if_pos hb8] at h
          refine sx_if_eq (tgt := 63) k51_41 (by decide) (fun _ => ?_) (fun q => absurd hb8 q)
          refine sx_pick (lo2 := [(0, .ref 101), (1, .int v1), (2, .int r2.2)]) [1, 2, 0] rfl ?_
          exact c51_63_ok kl2 hk2 v1 r2.2 _ _ h
        · rw [if_neg hb8] at h
          refine sx_if_eq (tgt := 63) k51_41 (by decide) (fun q => absurd q hb8) (fun _ => ?_)
          refine sx_aload_n (i := 0) k51_44 rfl rfl ?_
          refine sx_aload_n (i := 0) k51_45 rfl rfl ?_
          refine cx_getR (k := 3) k51_46 ow_51 fl_1_20 (by decide) sk_101 ft_0_3 sr_101_3 ?_
          refine sx_iload_n (i := 2) k51_49 rfl rfl ?_
          obtain ⟨r9, e10, h⟩ := Option.bind_eq_some_iff.mp h
          refine cx_V (sk := [.ref 101]) (vs := [.int r2.2]) st_51_168 k51_50 ow_51 cl_1_294 (by decide) rfl (Nat.le_of_ble_eq_true rfl) sk_108 (ok168 108 r2.2 sk_108 _ _ e10) (sk3 := [.int r9.2, .ref 101]) rfl rfl ?_
          obtain ⟨r11, e12, h⟩ := Option.bind_eq_some_iff.mp h
          refine cx_V (sk := []) (vs := [.int r9.2]) st_51_8 k51_53 ow_51 cl_1_93 (by decide) rfl (Nat.le_of_ble_eq_true rfl) sk_101 (ok8 r9.2 _ _ e12) (sk3 := [.int r11.2]) rfl rfl ?_
          by_cases hb13 : r11.2 = 0
          · rw [if_pos hb13] at h
            refine sx_if_eq (tgt := 63) k51_56 (by decide) (fun _ => ?_) (fun q => absurd hb13 q)
            refine sx_pick (lo2 := [(0, .ref 101), (1, .int v1), (2, .int r2.2)]) [1, 2, 0] rfl ?_
            exact c51_63_ok kl2 hk2 v1 r2.2 _ _ h
          · rw [if_neg hb13] at h
            refine sx_if_eq (tgt := 63) k51_56 (by decide) (fun q => absurd q hb13) (fun _ => ?_)
            refine sx_iconst (v := 1) k51_59 (by decide) ?_
            refine sx_goto (tgt := 64) k51_60 (by decide) ?_
            refine sx_pick (lo2 := [(0, .ref 101), (1, .int v1), (2, .int r2.2)]) [1, 2, 0] rfl ?_
            exact c51_64_ok kl2 hk2 v1 r2.2 (1 : Int32) _ _ h
      · rw [if_neg hb7] at h
        refine sx_icmp_le (tgt := 37) k51_33 (by decide) (fun q => absurd q hb7) (fun _ => ?_)
        exact cx_retv k51_36 rt_51 h
def l51_2 : Nat → Int32 × Mem → Option (Mem) :=
  fixN (fun self x => b51_2 (fun v1 μ => self (v1, μ)) (x.1) (x.2))
theorem l51_2_ok {L : Nat} (n : Nat) (v1 : Int32) (μ : Mem) (res : Mem) (h : l51_2 n (v1, μ) = some res) : Sx 51 2 [(0, .ref 101), (1, .int v1)] [] 0 0 (mk L μ) (mk L res, none) := by
  have key := fixN_ind (P := fun x res => Sx 51 2 [(0, .ref 101), (1, .int (x.1))] [] 0 0 (mk L (x.2)) (mk L res, none)) (F := fun self x => b51_2 (fun v1 μ => self (v1, μ)) (x.1) (x.2)) (fun self hself x res h => b51_2_ok (fun v1 μ => self (v1, μ)) (fun v1 μ res hh => hself (v1, μ) res hh) (x.1) (x.2) res h) n (v1, μ) res h
  exact key
/-- Board.runSchedule()V -/
def f51 (μ : Mem) : Option (Mem) :=
  l51_2 gF ((0 : Int32), μ)
theorem ok51 {L : Nat} (μ : Mem) (res : Mem) (h : f51 μ = some res) : Mx 51 [.ref 101] (mk L μ) (mk L res, none) := by
  refine Mx_of ml_51 (by rw [mx_51]; exact Nat.le_of_ble_eq_true rfl) ?_
  show Sx 51 0 [(0, .ref 101)] [] 0 0 (mk L μ) _
  unfold f51 at h
  refine sx_iconst (v := 0) k51_0 (by decide) ?_
  refine cx_istore_n (lo2 := [(1, .int (0 : Int32)), (0, .ref 101)]) k51_1 rfl (by rw [mx_51]; decide) rfl ?_
  refine sx_pick (lo2 := [(0, .ref 101), (1, .int (0 : Int32))]) [1, 0] rfl ?_
  exact l51_2_ok gF (0 : Int32) _ _ h
