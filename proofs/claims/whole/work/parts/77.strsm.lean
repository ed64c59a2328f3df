/-! structures: what requests do, the reference -/
theorem act3d_M {μ : Mem} {st : Nat → Nat → Int32} {bs : List Nat} {dep s : Nat} (h : CurM μ bs dep) (hS : StrM μ st) (hl : bs.length ≤ 60) (hs6 : s < 6) (hn : bs.getD 14 0 ≤ 8) (hlen : bs.length = 17 + bs.getD 14 0) : wp (f329 (nI 1) (nI s) μ) (fun m => StrM m (defL st s bs (bs.getD 14 0)) ∧ Fr (fun c _ => 183 ≤ c ∧ c ≤ 188) μ m) := by
  have g3 := gl_183
  have g4 := gl_184
  have g5 := gl_185
  have g6 := gl_186
  have g7 := gl_187
  have g8 := gl_188
  have z1 : ((1 : Int32) &&& 1) = nI 1 := by decide
  have z0 : ((0 : Int32) &&& 1) = nI 0 := by decide
  unfold f329
  rw [if_pos (show nI 1 = (1 : Int32) from rfl), stZ_N (by omega), Option.bind_some, z1, stZ_N (by omega), Option.bind_some, z0, i_12]
  have f2 : Fr (fun c _ => 183 ≤ c ∧ c ≤ 188) μ (setI (setI μ 183 s (nI 1)) 184 s (nI 0)) := (Fr.sI (by omega)).pI (by omega)
  have e12 := (h.fr f2 (by omega) (by omega) (fun k => by omega)).wo hl (i := 12) (by omega)
  have s2 := (hS.up (s := s) (k := 0) (c := 183) (v := nI 1) (by omega) (by omega)).up (s := s) (k := 1) (c := 184) (v := nI 0) (by omega) (by omega)
  rw [e12, Option.bind_some]
  generalize setI (setI μ 183 s (nI 1)) 184 s (nI 0) = m2 at *
  dsimp only
  rw [stA_N (by omega), Option.bind_some, stA_N (by omega), Option.bind_some, i_0, i_14]
  have f4 : Fr (fun c _ => 183 ≤ c ∧ c ≤ 188) μ (setI (setI m2 185 s (nI (w2 bs 12))) 186 s (nI 0)) := (f2.pI (by omega)).pI (by omega)
  have e14 := (h.fr f4 (by omega) (by omega) (fun k => by omega)).ld hl (i := 14) (by omega)
  have s4 := (s2.up (s := s) (k := 2) (c := 185) (v := nI (w2 bs 12)) (by omega) (by omega)).up (s := s) (k := 3) (c := 186) (v := nI 0) (by omega) (by omega)
  rw [e14, Option.bind_some]
  generalize setI (setI m2 185 s (nI (w2 bs 12))) 186 s (nI 0) = m4 at *
  rw [stA_N (by omega), Option.bind_some]
  have s5 := s4.up (s := s) (k := 4) (c := 187) (v := nI (bs.getD 14 0)) (by omega) (by omega)
  have f5 : Fr (fun c _ => 183 ≤ c ∧ c ≤ 188) μ (setI m4 187 s (nI (bs.getD 14 0))) := f4.pI (by omega)
  generalize setI m4 187 s (nI (bs.getD 14 0)) = m5 at *
  unfold l329_57
  refine wp_for (fun i m => (nI s, nI i, m)) (fun i m => StrM m (defL st s bs i) ∧ Fr (fun c _ => 183 ≤ c ∧ c ≤ 188) μ m) (bs.getD 14 0) (by omega) m5 _ rfl ⟨s5, f5⟩ (fun self i m hi ⟨x1, x2⟩ hk => ?_) (fun self m ⟨x1, x2⟩ => ?_)
  · have e := (h.fr x2 (by omega) (by omega) (fun k => by omega)).ld hl (i := 15 + i) (by omega)
    have e2 := (h.fr x2 (by omega) (by omega) (fun k => by omega)).ld hl (i := 14) (by omega)
    unfold b329_57
    simp (disch := omega) only [i_0, i_1, i_2, i_3, i_4, i_5, i_6, i_7, i_8, i_9, i_10, i_11, i_12, i_13, i_14, i_15, i_16, i_17, i_18, i_19, i_20, i_21, i_22, i_23, i_24, i_25, i_26, i_27, i_31, i_32, i_40, i_42, i_45, i_48, i_51, i_52, i_56, i_58, i_59, i_60, i_61, i_62, i_63, i_64, i_85, i_90, i_100, i_112, i_120, i_121, i_127, i_128, i_130, i_144, i_171, i_192, i_193, i_197, i_200, i_207, i_235, i_240, i_248, i_252, i_254, i_255, i_256, i_512, i_544, i_768, i_769, i_793, i_1000, i_1023, i_1024, i_1200, i_1538, i_1541, i_1545, i_2046, i_2047, i_2049, i_2060, i_2736, i_2737, i_2817, i_2818, i_2819, i_2820, i_2821, i_2831, i_2832, i_3077, i_3085, i_3843, i_3849, i_3851, i_3852, i_4129, i_4353, i_4865, i_5121, i_5122, i_5123, i_6156, i_8192, i_12288, i_16383, i_32000, i_33280, i_49152, i_53247, i_60304, i_64000, i_64512, i_65521, i_65535, i_449838109, nI_add, pk_mul, pk_sub, nI_mm, nI_leI, nI_ltI, nI_eq, pk_div, jrem_N, jshl_N, jshr_N, jushr_N, jmin_N, jmax_N, an_1, an_3, an_7, an_15, an_31, an_63, an_127, an_255, an_1023, an_2047, an_16383, an_65535, nm, pfI, rdI, rdW, rdL, rdI2, rdW2, ldA_N, stA_N, stB_N, stZ_N, pfZ_0, pfZ_1, rtZ_0, rtZ_1, acp_N, Option.bind_some, wp_some_iff, true_and, and_true, false_and, and_false, or_true, true_or, or_false, false_or, not_true_eq_false, not_false_eq_true, if_true, if_false, if_pos, if_neg, lt_sub, le_sub, sub_lt3, sub_le3, Option.bind_assoc, e, e2]
    exact hk _ ⟨x1.up8 (s := s) (k := i) (by omega) (by omega), x2.pI (by omega)⟩
  · have e2 := (h.fr x2 (by omega) (by omega) (fun k => by omega)).ld hl (i := 14) (by omega)
    unfold b329_57
    simp (disch := omega) only [i_0, i_1, i_2, i_3, i_4, i_5, i_6, i_7, i_8, i_9, i_10, i_11, i_12, i_13, i_14, i_15, i_16, i_17, i_18, i_19, i_20, i_21, i_22, i_23, i_24, i_25, i_26, i_27, i_31, i_32, i_40, i_42, i_45, i_48, i_51, i_52, i_56, i_58, i_59, i_60, i_61, i_62, i_63, i_64, i_85, i_90, i_100, i_112, i_120, i_121, i_127, i_128, i_130, i_144, i_171, i_192, i_193, i_197, i_200, i_207, i_235, i_240, i_248, i_252, i_254, i_255, i_256, i_512, i_544, i_768, i_769, i_793, i_1000, i_1023, i_1024, i_1200, i_1538, i_1541, i_1545, i_2046, i_2047, i_2049, i_2060, i_2736, i_2737, i_2817, i_2818, i_2819, i_2820, i_2821, i_2831, i_2832, i_3077, i_3085, i_3843, i_3849, i_3851, i_3852, i_4129, i_4353, i_4865, i_5121, i_5122, i_5123, i_6156, i_8192, i_12288, i_16383, i_32000, i_33280, i_49152, i_53247, i_60304, i_64000, i_64512, i_65521, i_65535, i_449838109, nI_add, pk_mul, pk_sub, nI_mm, nI_leI, nI_ltI, nI_eq, pk_div, jrem_N, jshl_N, jshr_N, jushr_N, jmin_N, jmax_N, an_1, an_3, an_7, an_15, an_31, an_63, an_127, an_255, an_1023, an_2047, an_16383, an_65535, nm, pfI, rdI, rdW, rdL, rdI2, rdW2, ldA_N, stA_N, stB_N, stZ_N, pfZ_0, pfZ_1, rtZ_0, rtZ_1, acp_N, Option.bind_some, wp_some_iff, true_and, and_true, false_and, and_false, or_true, true_or, or_false, false_or, not_true_eq_false, not_false_eq_true, if_true, if_false, if_pos, if_neg, lt_sub, le_sub, sub_lt3, sub_le3, Option.bind_assoc, e2]
    exact ⟨x1, x2⟩
theorem act3_M {μ : Mem} {st : Nat → Nat → Int32} {bs : List Nat} {dep : Nat} (h : CurM μ bs dep) (hS : StrM μ st) (hP : Pkg bs) (h7 : bs.getD 7 0 = 3) (hw : why3 st bs = 0) (q : bs.getD 8 0 ≠ 27) : wp (f329 (nI (bs.getD 8 0)) (nI (bs.getD 11 0)) μ) (fun m => StrM m (act3 st bs) ∧ Fr (fun c _ => 183 ≤ c ∧ c ≤ 188) μ m) := by
  have g3 := gl_183
  have g4 := gl_184
  have g5 := gl_185
  have g6 := gl_186
  have g7 := gl_187
  have g8 := gl_188
  have hl := hP.2.1
  have hs6 := why3_s hw
  have hs := hP.t3 h7
  have b8 := getD_lt h.2.2.2 8
  unfold act3
  generalize bs.getD 11 0 = s at *
  by_cases q1 : bs.getD 8 0 = 1
  · rw [if_pos q1, q1]
    exact act3d_M h hS hl hs6 (by omega) (by omega)
  · rw [if_neg q1]
    by_cases q3 : bs.getD 8 0 = 3
    · rw [if_pos q3]
      unfold f329
      rw [q3, if_neg (show ¬ nI 3 = (1 : Int32) by decide), if_pos (show nI 3 = (3 : Int32) from rfl)]
      simp (disch := omega) only [i_0, i_1, i_2, i_3, i_4, i_5, i_6, i_7, i_8, i_9, i_10, i_11, i_12, i_13, i_14, i_15, i_16, i_17, i_18, i_19, i_20, i_21, i_22, i_23, i_24, i_25, i_26, i_27, i_31, i_32, i_40, i_42, i_45, i_48, i_51, i_52, i_56, i_58, i_59, i_60, i_61, i_62, i_63, i_64, i_85, i_90, i_100, i_112, i_120, i_121, i_127, i_128, i_130, i_144, i_171, i_192, i_193, i_197, i_200, i_207, i_235, i_240, i_248, i_252, i_254, i_255, i_256, i_512, i_544, i_768, i_769, i_793, i_1000, i_1023, i_1024, i_1200, i_1538, i_1541, i_1545, i_2046, i_2047, i_2049, i_2060, i_2736, i_2737, i_2817, i_2818, i_2819, i_2820, i_2821, i_2831, i_2832, i_3077, i_3085, i_3843, i_3849, i_3851, i_3852, i_4129, i_4353, i_4865, i_5121, i_5122, i_5123, i_6156, i_8192, i_12288, i_16383, i_32000, i_33280, i_49152, i_53247, i_60304, i_64000, i_64512, i_65521, i_65535, i_449838109, nI_add, pk_mul, pk_sub, nI_mm, nI_leI, nI_ltI, nI_eq, pk_div, jrem_N, jshl_N, jshr_N, jushr_N, jmin_N, jmax_N, an_1, an_3, an_7, an_15, an_31, an_63, an_127, an_255, an_1023, an_2047, an_16383, an_65535, nm, pfI, rdI, rdW, rdL, rdI2, rdW2, ldA_N, stA_N, stB_N, stZ_N, pfZ_0, pfZ_1, rtZ_0, rtZ_1, acp_N, Option.bind_some, wp_some_iff, true_and, and_true, false_and, and_false, or_true, true_or, or_false, false_or, not_true_eq_false, not_false_eq_true, if_true, if_false, if_pos, if_neg, lt_sub, le_sub, sub_lt3, sub_le3, Option.bind_assoc, zz0]
      exact ⟨hS.up (k := 0) (by omega) (by omega), Fr.sI (by omega)⟩
    · rw [if_neg q3]
      by_cases q5 : bs.getD 8 0 = 5
      · rw [if_pos q5]
        have e2 : μ.1 185 s = st s 2 := (hS s hs6).1 2 (by omega)
        unfold f329
        rw [q5, if_neg (show ¬ nI 5 = (1 : Int32) by decide), if_neg (show ¬ nI 5 = (3 : Int32) by decide), if_pos (show nI 5 = (5 : Int32) from rfl)]
        simp (disch := omega) only [i_0, i_1, i_2, i_3, i_4, i_5, i_6, i_7, i_8, i_9, i_10, i_11, i_12, i_13, i_14, i_15, i_16, i_17, i_18, i_19, i_20, i_21, i_22, i_23, i_24, i_25, i_26, i_27, i_31, i_32, i_40, i_42, i_45, i_48, i_51, i_52, i_56, i_58, i_59, i_60, i_61, i_62, i_63, i_64, i_85, i_90, i_100, i_112, i_120, i_121, i_127, i_128, i_130, i_144, i_171, i_192, i_193, i_197, i_200, i_207, i_235, i_240, i_248, i_252, i_254, i_255, i_256, i_512, i_544, i_768, i_769, i_793, i_1000, i_1023, i_1024, i_1200, i_1538, i_1541, i_1545, i_2046, i_2047, i_2049, i_2060, i_2736, i_2737, i_2817, i_2818, i_2819, i_2820, i_2821, i_2831, i_2832, i_3077, i_3085, i_3843, i_3849, i_3851, i_3852, i_4129, i_4353, i_4865, i_5121, i_5122, i_5123, i_6156, i_8192, i_12288, i_16383, i_32000, i_33280, i_49152, i_53247, i_60304, i_64000, i_64512, i_65521, i_65535, i_449838109, nI_add, pk_mul, pk_sub, nI_mm, nI_leI, nI_ltI, nI_eq, pk_div, jrem_N, jshl_N, jshr_N, jushr_N, jmin_N, jmax_N, an_1, an_3, an_7, an_15, an_31, an_63, an_127, an_255, an_1023, an_2047, an_16383, an_65535, nm, pfI, rdI, rdW, rdL, rdI2, rdW2, ldA_N, stA_N, stB_N, stZ_N, pfZ_0, pfZ_1, rtZ_0, rtZ_1, acp_N, Option.bind_some, wp_some_iff, true_and, and_true, false_and, and_false, or_true, true_or, or_false, false_or, not_true_eq_false, not_false_eq_true, if_true, if_false, if_pos, if_neg, lt_sub, le_sub, sub_lt3, sub_le3, Option.bind_assoc, e2, zz1]
        exact ⟨(hS.up (s := s) (k := 1) (c := 184) (by omega) (by omega)).up (s := s) (k := 3) (c := 186) (by omega) (by omega), (Fr.sI (by omega)).pI (by omega)⟩
      · rw [if_neg q5]
        have q6 : bs.getD 8 0 = 6 := by omega
        rw [if_pos q6]
        unfold f329
        rw [q6, if_neg (show ¬ nI 6 = (1 : Int32) by decide), if_neg (show ¬ nI 6 = (3 : Int32) by decide), if_neg (show ¬ nI 6 = (5 : Int32) by decide), if_pos (show nI 6 = (6 : Int32) from rfl)]
        simp (disch := omega) only [i_0, i_1, i_2, i_3, i_4, i_5, i_6, i_7, i_8, i_9, i_10, i_11, i_12, i_13, i_14, i_15, i_16, i_17, i_18, i_19, i_20, i_21, i_22, i_23, i_24, i_25, i_26, i_27, i_31, i_32, i_40, i_42, i_45, i_48, i_51, i_52, i_56, i_58, i_59, i_60, i_61, i_62, i_63, i_64, i_85, i_90, i_100, i_112, i_120, i_121, i_127, i_128, i_130, i_144, i_171, i_192, i_193, i_197, i_200, i_207, i_235, i_240, i_248, i_252, i_254, i_255, i_256, i_512, i_544, i_768, i_769, i_793, i_1000, i_1023, i_1024, i_1200, i_1538, i_1541, i_1545, i_2046, i_2047, i_2049, i_2060, i_2736, i_2737, i_2817, i_2818, i_2819, i_2820, i_2821, i_2831, i_2832, i_3077, i_3085, i_3843, i_3849, i_3851, i_3852, i_4129, i_4353, i_4865, i_5121, i_5122, i_5123, i_6156, i_8192, i_12288, i_16383, i_32000, i_33280, i_49152, i_53247, i_60304, i_64000, i_64512, i_65521, i_65535, i_449838109, nI_add, pk_mul, pk_sub, nI_mm, nI_leI, nI_ltI, nI_eq, pk_div, jrem_N, jshl_N, jshr_N, jushr_N, jmin_N, jmax_N, an_1, an_3, an_7, an_15, an_31, an_63, an_127, an_255, an_1023, an_2047, an_16383, an_65535, nm, pfI, rdI, rdW, rdL, rdI2, rdW2, ldA_N, stA_N, stB_N, stZ_N, pfZ_0, pfZ_1, rtZ_0, rtZ_1, acp_N, Option.bind_some, wp_some_iff, true_and, and_true, false_and, and_false, or_true, true_or, or_false, false_or, not_true_eq_false, not_false_eq_true, if_true, if_false, if_pos, if_neg, lt_sub, le_sub, sub_lt3, sub_le3, Option.bind_assoc, zz0]
        exact ⟨hS.up (s := s) (k := 1) (c := 184) (by omega) (by omega), Fr.sI (by omega)⟩
