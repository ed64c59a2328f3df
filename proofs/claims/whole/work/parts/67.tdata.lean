/-! ===== the reference reads a request against its shape ===== -/
theorem ite_no {α : Type} {c : Prop} [Decidable c] {a b r : α} (h : ¬ c) (k : b = r) : (if c then a else b) = r := by rw [if_neg h]; exact k
theorem ite_yes {α : Type} {c : Prop} [Decidable c] {a b r : α} (h : c) (k : a = r) : (if c then a else b) = r := by rw [if_pos h]; exact k
theorem isD_0 {μ : Mem} {bs : List Nat} {s0 : Int32} (h : Seg μ 140 0 bs) (h1 : 13 ≤ bs.length) (h2 : bs.length ≤ 60) (hs : bs.length ≠ 13 → s0 = nI (bs.getD 11 0)) : c315_19 (nI 3) (nI 1) (nI (bs.length - 13)) s0 μ = some (μ, nI (b2n (fit 0 bs))) := by
  have g := gl_140
  have b11 := h.get 11
  unfold c315_19
  rw [nm, show (256 : Int32) * nI 3 + nI 1 = nI 769 by decide]
  refine ite_yes (show nI 769 = (769 : Int32) by decide) ?_
  have bD := h.get 14

  rw [show fit 0 bs = (decide (4 + 13 ≤ bs.length ∧ 1 ≤ bs.getD 14 0 ∧ bs.getD 14 0 ≤ 8 ∧ bs.length = 4 + 13 + bs.getD 14 0 * 1) && decide (1 ≤ w2 bs 12)) from rfl]
  have b12 := h.get 12
  have b13 := h.get 13
  by_cases q0 : 4 + 13 ≤ bs.length
  · have e12 := word_M h (i := 12) (by omega) (by omega)
    rw [Nat.zero_add] at e12
    have e14 := h.z (i := 14) (by omega)
    have hb : w2 bs 12 < 65536 := by unfold w2; have := h.get (12 + 1); omega
    by_cases z : 1 ≤ w2 bs 12
    · by_cases q : 4 + 13 ≤ bs.length ∧ 1 ≤ bs.getD 14 0 ∧ bs.getD 14 0 ≤ 8 ∧ bs.length = 4 + 13 + bs.getD 14 0 * 1
      · simp (disch := omega) only [i_0, i_1, i_2, i_3, i_4, i_5, i_6, i_7, i_8, i_9, i_10, i_11, i_12, i_13, i_14, i_15, i_16, i_17, i_18, i_19, i_20, i_21, i_22, i_23, i_24, i_25, i_26, i_27, i_31, i_32, i_40, i_42, i_45, i_48, i_51, i_52, i_56, i_58, i_59, i_60, i_61, i_62, i_63, i_64, i_85, i_90, i_100, i_112, i_120, i_121, i_127, i_128, i_130, i_144, i_171, i_192, i_193, i_197, i_200, i_207, i_235, i_240, i_248, i_252, i_254, i_255, i_256, i_512, i_544, i_768, i_769, i_793, i_1000, i_1023, i_1024, i_1200, i_1538, i_1541, i_1545, i_2046, i_2047, i_2049, i_2060, i_2736, i_2737, i_2817, i_2818, i_2819, i_2820, i_2821, i_2831, i_2832, i_3077, i_3085, i_3843, i_3849, i_3851, i_3852, i_4129, i_4353, i_4865, i_5121, i_5122, i_5123, i_6156, i_8192, i_12288, i_16383, i_32000, i_33280, i_49152, i_53247, i_60304, i_64000, i_64512, i_65521, i_65535, i_449838109, nI_add, pk_mul, pk_sub, nI_mm, nI_leI, nI_ltI, nI_eq, pk_div, jrem_N, jshl_N, jshr_N, jushr_N, jmin_N, jmax_N, an_1, an_3, an_7, an_15, an_31, an_63, an_127, an_255, an_1023, an_2047, an_16383, an_65535, nm, pfI, rdI, rdW, rdL, rdI2, rdW2, ldA_N, stA_N, stB_N, stZ_N, pfZ_0, pfZ_1, rtZ_0, rtZ_1, acp_N, Option.bind_some, wp_some_iff, true_and, and_true, false_and, and_false, or_true, true_or, or_false, false_or, not_true_eq_false, not_false_eq_true, if_true, if_false, if_pos, if_neg, lt_sub, le_sub, sub_lt3, sub_le3, e12, e14, decide_eq_true q, decide_eq_true z, Bool.and_self, b2n_t]
      · rw [decide_eq_false q]
        by_cases q1 : 1 ≤ bs.getD 14 0
        · by_cases q2 : bs.getD 14 0 ≤ 8
          · simp (disch := omega) only [i_0, i_1, i_2, i_3, i_4, i_5, i_6, i_7, i_8, i_9, i_10, i_11, i_12, i_13, i_14, i_15, i_16, i_17, i_18, i_19, i_20, i_21, i_22, i_23, i_24, i_25, i_26, i_27, i_31, i_32, i_40, i_42, i_45, i_48, i_51, i_52, i_56, i_58, i_59, i_60, i_61, i_62, i_63, i_64, i_85, i_90, i_100, i_112, i_120, i_121, i_127, i_128, i_130, i_144, i_171, i_192, i_193, i_197, i_200, i_207, i_235, i_240, i_248, i_252, i_254, i_255, i_256, i_512, i_544, i_768, i_769, i_793, i_1000, i_1023, i_1024, i_1200, i_1538, i_1541, i_1545, i_2046, i_2047, i_2049, i_2060, i_2736, i_2737, i_2817, i_2818, i_2819, i_2820, i_2821, i_2831, i_2832, i_3077, i_3085, i_3843, i_3849, i_3851, i_3852, i_4129, i_4353, i_4865, i_5121, i_5122, i_5123, i_6156, i_8192, i_12288, i_16383, i_32000, i_33280, i_49152, i_53247, i_60304, i_64000, i_64512, i_65521, i_65535, i_449838109, nI_add, pk_mul, pk_sub, nI_mm, nI_leI, nI_ltI, nI_eq, pk_div, jrem_N, jshl_N, jshr_N, jushr_N, jmin_N, jmax_N, an_1, an_3, an_7, an_15, an_31, an_63, an_127, an_255, an_1023, an_2047, an_16383, an_65535, nm, pfI, rdI, rdW, rdL, rdI2, rdW2, ldA_N, stA_N, stB_N, stZ_N, pfZ_0, pfZ_1, rtZ_0, rtZ_1, acp_N, Option.bind_some, wp_some_iff, true_and, and_true, false_and, and_false, or_true, true_or, or_false, false_or, not_true_eq_false, not_false_eq_true, if_true, if_false, if_pos, if_neg, lt_sub, le_sub, sub_lt3, sub_le3, e12, e14, Bool.false_and, b2n_f]
          · simp (disch := omega) only [i_0, i_1, i_2, i_3, i_4, i_5, i_6, i_7, i_8, i_9, i_10, i_11, i_12, i_13, i_14, i_15, i_16, i_17, i_18, i_19, i_20, i_21, i_22, i_23, i_24, i_25, i_26, i_27, i_31, i_32, i_40, i_42, i_45, i_48, i_51, i_52, i_56, i_58, i_59, i_60, i_61, i_62, i_63, i_64, i_85, i_90, i_100, i_112, i_120, i_121, i_127, i_128, i_130, i_144, i_171, i_192, i_193, i_197, i_200, i_207, i_235, i_240, i_248, i_252, i_254, i_255, i_256, i_512, i_544, i_768, i_769, i_793, i_1000, i_1023, i_1024, i_1200, i_1538, i_1541, i_1545, i_2046, i_2047, i_2049, i_2060, i_2736, i_2737, i_2817, i_2818, i_2819, i_2820, i_2821, i_2831, i_2832, i_3077, i_3085, i_3843, i_3849, i_3851, i_3852, i_4129, i_4353, i_4865, i_5121, i_5122, i_5123, i_6156, i_8192, i_12288, i_16383, i_32000, i_33280, i_49152, i_53247, i_60304, i_64000, i_64512, i_65521, i_65535, i_449838109, nI_add, pk_mul, pk_sub, nI_mm, nI_leI, nI_ltI, nI_eq, pk_div, jrem_N, jshl_N, jshr_N, jushr_N, jmin_N, jmax_N, an_1, an_3, an_7, an_15, an_31, an_63, an_127, an_255, an_1023, an_2047, an_16383, an_65535, nm, pfI, rdI, rdW, rdL, rdI2, rdW2, ldA_N, stA_N, stB_N, stZ_N, pfZ_0, pfZ_1, rtZ_0, rtZ_1, acp_N, Option.bind_some, wp_some_iff, true_and, and_true, false_and, and_false, or_true, true_or, or_false, false_or, not_true_eq_false, not_false_eq_true, if_true, if_false, if_pos, if_neg, lt_sub, le_sub, sub_lt3, sub_le3, e12, e14, Bool.false_and, b2n_f]
        · simp (disch := omega) only [i_0, i_1, i_2, i_3, i_4, i_5, i_6, i_7, i_8, i_9, i_10, i_11, i_12, i_13, i_14, i_15, i_16, i_17, i_18, i_19, i_20, i_21, i_22, i_23, i_24, i_25, i_26, i_27, i_31, i_32, i_40, i_42, i_45, i_48, i_51, i_52, i_56, i_58, i_59, i_60, i_61, i_62, i_63, i_64, i_85, i_90, i_100, i_112, i_120, i_121, i_127, i_128, i_130, i_144, i_171, i_192, i_193, i_197, i_200, i_207, i_235, i_240, i_248, i_252, i_254, i_255, i_256, i_512, i_544, i_768, i_769, i_793, i_1000, i_1023, i_1024, i_1200, i_1538, i_1541, i_1545, i_2046, i_2047, i_2049, i_2060, i_2736, i_2737, i_2817, i_2818, i_2819, i_2820, i_2821, i_2831, i_2832, i_3077, i_3085, i_3843, i_3849, i_3851, i_3852, i_4129, i_4353, i_4865, i_5121, i_5122, i_5123, i_6156, i_8192, i_12288, i_16383, i_32000, i_33280, i_49152, i_53247, i_60304, i_64000, i_64512, i_65521, i_65535, i_449838109, nI_add, pk_mul, pk_sub, nI_mm, nI_leI, nI_ltI, nI_eq, pk_div, jrem_N, jshl_N, jshr_N, jushr_N, jmin_N, jmax_N, an_1, an_3, an_7, an_15, an_31, an_63, an_127, an_255, an_1023, an_2047, an_16383, an_65535, nm, pfI, rdI, rdW, rdL, rdI2, rdW2, ldA_N, stA_N, stB_N, stZ_N, pfZ_0, pfZ_1, rtZ_0, rtZ_1, acp_N, Option.bind_some, wp_some_iff, true_and, and_true, false_and, and_false, or_true, true_or, or_false, false_or, not_true_eq_false, not_false_eq_true, if_true, if_false, if_pos, if_neg, lt_sub, le_sub, sub_lt3, sub_le3, e12, e14, Bool.false_and, b2n_f]
    · simp (disch := omega) only [i_0, i_1, i_2, i_3, i_4, i_5, i_6, i_7, i_8, i_9, i_10, i_11, i_12, i_13, i_14, i_15, i_16, i_17, i_18, i_19, i_20, i_21, i_22, i_23, i_24, i_25, i_26, i_27, i_31, i_32, i_40, i_42, i_45, i_48, i_51, i_52, i_56, i_58, i_59, i_60, i_61, i_62, i_63, i_64, i_85, i_90, i_100, i_112, i_120, i_121, i_127, i_128, i_130, i_144, i_171, i_192, i_193, i_197, i_200, i_207, i_235, i_240, i_248, i_252, i_254, i_255, i_256, i_512, i_544, i_768, i_769, i_793, i_1000, i_1023, i_1024, i_1200, i_1538, i_1541, i_1545, i_2046, i_2047, i_2049, i_2060, i_2736, i_2737, i_2817, i_2818, i_2819, i_2820, i_2821, i_2831, i_2832, i_3077, i_3085, i_3843, i_3849, i_3851, i_3852, i_4129, i_4353, i_4865, i_5121, i_5122, i_5123, i_6156, i_8192, i_12288, i_16383, i_32000, i_33280, i_49152, i_53247, i_60304, i_64000, i_64512, i_65521, i_65535, i_449838109, nI_add, pk_mul, pk_sub, nI_mm, nI_leI, nI_ltI, nI_eq, pk_div, jrem_N, jshl_N, jshr_N, jushr_N, jmin_N, jmax_N, an_1, an_3, an_7, an_15, an_31, an_63, an_127, an_255, an_1023, an_2047, an_16383, an_65535, nm, pfI, rdI, rdW, rdL, rdI2, rdW2, ldA_N, stA_N, stB_N, stZ_N, pfZ_0, pfZ_1, rtZ_0, rtZ_1, acp_N, Option.bind_some, wp_some_iff, true_and, and_true, false_and, and_false, or_true, true_or, or_false, false_or, not_true_eq_false, not_false_eq_true, if_true, if_false, if_pos, if_neg, lt_sub, le_sub, sub_lt3, sub_le3, e12, decide_eq_false z, Bool.and_false, b2n_f]
  · rw [decide_eq_false (fun z => q0 z.1)]
    by_cases q2 : bs.length = 13
    · simp (disch := omega) only [i_0, i_1, i_2, i_3, i_4, i_5, i_6, i_7, i_8, i_9, i_10, i_11, i_12, i_13, i_14, i_15, i_16, i_17, i_18, i_19, i_20, i_21, i_22, i_23, i_24, i_25, i_26, i_27, i_31, i_32, i_40, i_42, i_45, i_48, i_51, i_52, i_56, i_58, i_59, i_60, i_61, i_62, i_63, i_64, i_85, i_90, i_100, i_112, i_120, i_121, i_127, i_128, i_130, i_144, i_171, i_192, i_193, i_197, i_200, i_207, i_235, i_240, i_248, i_252, i_254, i_255, i_256, i_512, i_544, i_768, i_769, i_793, i_1000, i_1023, i_1024, i_1200, i_1538, i_1541, i_1545, i_2046, i_2047, i_2049, i_2060, i_2736, i_2737, i_2817, i_2818, i_2819, i_2820, i_2821, i_2831, i_2832, i_3077, i_3085, i_3843, i_3849, i_3851, i_3852, i_4129, i_4353, i_4865, i_5121, i_5122, i_5123, i_6156, i_8192, i_12288, i_16383, i_32000, i_33280, i_49152, i_53247, i_60304, i_64000, i_64512, i_65521, i_65535, i_449838109, nI_add, pk_mul, pk_sub, nI_mm, nI_leI, nI_ltI, nI_eq, pk_div, jrem_N, jshl_N, jshr_N, jushr_N, jmin_N, jmax_N, an_1, an_3, an_7, an_15, an_31, an_63, an_127, an_255, an_1023, an_2047, an_16383, an_65535, nm, pfI, rdI, rdW, rdL, rdI2, rdW2, ldA_N, stA_N, stB_N, stZ_N, pfZ_0, pfZ_1, rtZ_0, rtZ_1, acp_N, Option.bind_some, wp_some_iff, true_and, and_true, false_and, and_false, or_true, true_or, or_false, false_or, not_true_eq_false, not_false_eq_true, if_true, if_false, if_pos, if_neg, lt_sub, le_sub, sub_lt3, sub_le3, Bool.false_and, b2n_f]
    · simp (disch := omega) only [i_0, i_1, i_2, i_3, i_4, i_5, i_6, i_7, i_8, i_9, i_10, i_11, i_12, i_13, i_14, i_15, i_16, i_17, i_18, i_19, i_20, i_21, i_22, i_23, i_24, i_25, i_26, i_27, i_31, i_32, i_40, i_42, i_45, i_48, i_51, i_52, i_56, i_58, i_59, i_60, i_61, i_62, i_63, i_64, i_85, i_90, i_100, i_112, i_120, i_121, i_127, i_128, i_130, i_144, i_171, i_192, i_193, i_197, i_200, i_207, i_235, i_240, i_248, i_252, i_254, i_255, i_256, i_512, i_544, i_768, i_769, i_793, i_1000, i_1023, i_1024, i_1200, i_1538, i_1541, i_1545, i_2046, i_2047, i_2049, i_2060, i_2736, i_2737, i_2817, i_2818, i_2819, i_2820, i_2821, i_2831, i_2832, i_3077, i_3085, i_3843, i_3849, i_3851, i_3852, i_4129, i_4353, i_4865, i_5121, i_5122, i_5123, i_6156, i_8192, i_12288, i_16383, i_32000, i_33280, i_49152, i_53247, i_60304, i_64000, i_64512, i_65521, i_65535, i_449838109, nI_add, pk_mul, pk_sub, nI_mm, nI_leI, nI_ltI, nI_eq, pk_div, jrem_N, jshl_N, jshr_N, jushr_N, jmin_N, jmax_N, an_1, an_3, an_7, an_15, an_31, an_63, an_127, an_255, an_1023, an_2047, an_16383, an_65535, nm, pfI, rdI, rdW, rdL, rdI2, rdW2, ldA_N, stA_N, stB_N, stZ_N, pfZ_0, pfZ_1, rtZ_0, rtZ_1, acp_N, Option.bind_some, wp_some_iff, true_and, and_true, false_and, and_false, or_true, true_or, or_false, false_or, not_true_eq_false, not_false_eq_true, if_true, if_false, if_pos, if_neg, lt_sub, le_sub, sub_lt3, sub_le3, Bool.false_and, b2n_f]
theorem isD_1 {μ : Mem} {bs : List Nat} {s0 : Int32} (h : Seg μ 140 0 bs) (h1 : 13 ≤ bs.length) (h2 : bs.length ≤ 60) (hs : bs.length ≠ 13 → s0 = nI (bs.getD 11 0)) : c315_19 (nI 3) (nI 3) (nI (bs.length - 13)) s0 μ = some (μ, nI (b2n (fit 1 bs))) := by
  have g := gl_140
  have b11 := h.get 11
  unfold c315_19
  rw [nm, show (256 : Int32) * nI 3 + nI 3 = nI 771 by decide]
  refine ite_no (show ¬ nI 771 = (769 : Int32) by decide) ?_
  refine ite_no (show ¬ nI 771 = (1538 : Int32) by decide) ?_
  refine ite_no (show ¬ nI 771 = (1541 : Int32) by decide) ?_
  refine ite_no (show ¬ nI 771 = (1545 : Int32) by decide) ?_
  refine ite_no (show ¬ nI 771 = (2049 : Int32) by decide) ?_
  refine ite_no (show ¬ nI 771 = (2817 : Int32) by decide) ?_
  refine ite_no (show ¬ nI 771 = (2818 : Int32) by decide) ?_
  refine ite_no (show ¬ nI 771 = (2819 : Int32) by decide) ?_
  refine ite_no (show ¬ nI 771 = (2820 : Int32) by decide) ?_
  refine ite_no (show ¬ nI 771 = (2821 : Int32) by decide) ?_
  refine ite_no (show ¬ nI 771 = (2831 : Int32) by decide) ?_
  refine ite_no (show ¬ nI 771 = (2832 : Int32) by decide) ?_
  refine ite_no (show ¬ nI 771 = (3077 : Int32) by decide) ?_
  refine ite_no (show ¬ nI 771 = (3085 : Int32) by decide) ?_
  refine ite_no (show ¬ nI 771 = (3843 : Int32) by decide) ?_
  refine ite_no (show ¬ nI 771 = (3849 : Int32) by decide) ?_
  refine ite_no (show ¬ nI 771 = (3851 : Int32) by decide) ?_
  refine ite_no (show ¬ nI 771 = (3852 : Int32) by decide) ?_
  refine ite_no (show ¬ nI 771 = (4353 : Int32) by decide) ?_
  refine ite_no (show ¬ nI 771 = (4865 : Int32) by decide) ?_
  refine ite_no (show ¬ nI 771 = (5121 : Int32) by decide) ?_
  refine ite_no (show ¬ nI 771 = (5123 : Int32) by decide) ?_
  rw [fitN rfl rfl, show lnc 1 = 1 from rfl]
  by_cases q : bs.length = 1 + 13
  · rw [decide_eq_true q]
    simp (disch := omega) only [i_0, i_1, i_2, i_3, i_4, i_5, i_6, i_7, i_8, i_9, i_10, i_11, i_12, i_13, i_14, i_15, i_16, i_17, i_18, i_19, i_20, i_21, i_22, i_23, i_24, i_25, i_26, i_27, i_31, i_32, i_40, i_42, i_45, i_48, i_51, i_52, i_56, i_58, i_59, i_60, i_61, i_62, i_63, i_64, i_85, i_90, i_100, i_112, i_120, i_121, i_127, i_128, i_130, i_144, i_171, i_192, i_193, i_197, i_200, i_207, i_235, i_240, i_248, i_252, i_254, i_255, i_256, i_512, i_544, i_768, i_769, i_793, i_1000, i_1023, i_1024, i_1200, i_1538, i_1541, i_1545, i_2046, i_2047, i_2049, i_2060, i_2736, i_2737, i_2817, i_2818, i_2819, i_2820, i_2821, i_2831, i_2832, i_3077, i_3085, i_3843, i_3849, i_3851, i_3852, i_4129, i_4353, i_4865, i_5121, i_5122, i_5123, i_6156, i_8192, i_12288, i_16383, i_32000, i_33280, i_49152, i_53247, i_60304, i_64000, i_64512, i_65521, i_65535, i_449838109, nI_add, pk_mul, pk_sub, nI_mm, nI_leI, nI_ltI, nI_eq, pk_div, jrem_N, jshl_N, jshr_N, jushr_N, jmin_N, jmax_N, an_1, an_3, an_7, an_15, an_31, an_63, an_127, an_255, an_1023, an_2047, an_16383, an_65535, nm, pfI, rdI, rdW, rdL, rdI2, rdW2, ldA_N, stA_N, stB_N, stZ_N, pfZ_0, pfZ_1, rtZ_0, rtZ_1, acp_N, Option.bind_some, wp_some_iff, true_and, and_true, false_and, and_false, or_true, true_or, or_false, false_or, not_true_eq_false, not_false_eq_true, if_true, if_false, if_pos, if_neg, lt_sub, le_sub, sub_lt3, sub_le3, b2n_t]
  · rw [decide_eq_false q]
    simp (disch := omega) only [i_0, i_1, i_2, i_3, i_4, i_5, i_6, i_7, i_8, i_9, i_10, i_11, i_12, i_13, i_14, i_15, i_16, i_17, i_18, i_19, i_20, i_21, i_22, i_23, i_24, i_25, i_26, i_27, i_31, i_32, i_40, i_42, i_45, i_48, i_51, i_52, i_56, i_58, i_59, i_60, i_61, i_62, i_63, i_64, i_85, i_90, i_100, i_112, i_120, i_121, i_127, i_128, i_130, i_144, i_171, i_192, i_193, i_197, i_200, i_207, i_235, i_240, i_248, i_252, i_254, i_255, i_256, i_512, i_544, i_768, i_769, i_793, i_1000, i_1023, i_1024, i_1200, i_1538, i_1541, i_1545, i_2046, i_2047, i_2049, i_2060, i_2736, i_2737, i_2817, i_2818, i_2819, i_2820, i_2821, i_2831, i_2832, i_3077, i_3085, i_3843, i_3849, i_3851, i_3852, i_4129, i_4353, i_4865, i_5121, i_5122, i_5123, i_6156, i_8192, i_12288, i_16383, i_32000, i_33280, i_49152, i_53247, i_60304, i_64000, i_64512, i_65521, i_65535, i_449838109, nI_add, pk_mul, pk_sub, nI_mm, nI_leI, nI_ltI, nI_eq, pk_div, jrem_N, jshl_N, jshr_N, jushr_N, jmin_N, jmax_N, an_1, an_3, an_7, an_15, an_31, an_63, an_127, an_255, an_1023, an_2047, an_16383, an_65535, nm, pfI, rdI, rdW, rdL, rdI2, rdW2, ldA_N, stA_N, stB_N, stZ_N, pfZ_0, pfZ_1, rtZ_0, rtZ_1, acp_N, Option.bind_some, wp_some_iff, true_and, and_true, false_and, and_false, or_true, true_or, or_false, false_or, not_true_eq_false, not_false_eq_true, if_true, if_false, if_pos, if_neg, lt_sub, le_sub, sub_lt3, sub_le3, b2n_f]
theorem isD_2 {μ : Mem} {bs : List Nat} {s0 : Int32} (h : Seg μ 140 0 bs) (h1 : 13 ≤ bs.length) (h2 : bs.length ≤ 60) (hs : bs.length ≠ 13 → s0 = nI (bs.getD 11 0)) : c315_19 (nI 3) (nI 5) (nI (bs.length - 13)) s0 μ = some (μ, nI (b2n (fit 2 bs))) := by
  have g := gl_140
  have b11 := h.get 11
  unfold c315_19
  rw [nm, show (256 : Int32) * nI 3 + nI 5 = nI 773 by decide]
  refine ite_no (show ¬ nI 773 = (769 : Int32) by decide) ?_
  refine ite_no (show ¬ nI 773 = (1538 : Int32) by decide) ?_
  refine ite_no (show ¬ nI 773 = (1541 : Int32) by decide) ?_
  refine ite_no (show ¬ nI 773 = (1545 : Int32) by decide) ?_
  refine ite_no (show ¬ nI 773 = (2049 : Int32) by decide) ?_
  refine ite_no (show ¬ nI 773 = (2817 : Int32) by decide) ?_
  refine ite_no (show ¬ nI 773 = (2818 : Int32) by decide) ?_
  refine ite_no (show ¬ nI 773 = (2819 : Int32) by decide) ?_
  refine ite_no (show ¬ nI 773 = (2820 : Int32) by decide) ?_
  refine ite_no (show ¬ nI 773 = (2821 : Int32) by decide) ?_
  refine ite_no (show ¬ nI 773 = (2831 : Int32) by decide) ?_
  refine ite_no (show ¬ nI 773 = (2832 : Int32) by decide) ?_
  refine ite_no (show ¬ nI 773 = (3077 : Int32) by decide) ?_
  refine ite_no (show ¬ nI 773 = (3085 : Int32) by decide) ?_
  refine ite_no (show ¬ nI 773 = (3843 : Int32) by decide) ?_
  refine ite_no (show ¬ nI 773 = (3849 : Int32) by decide) ?_
  refine ite_no (show ¬ nI 773 = (3851 : Int32) by decide) ?_
  refine ite_no (show ¬ nI 773 = (3852 : Int32) by decide) ?_
  refine ite_no (show ¬ nI 773 = (4353 : Int32) by decide) ?_
  refine ite_no (show ¬ nI 773 = (4865 : Int32) by decide) ?_
  refine ite_no (show ¬ nI 773 = (5121 : Int32) by decide) ?_
  refine ite_no (show ¬ nI 773 = (5123 : Int32) by decide) ?_
  rw [fitN rfl rfl, show lnc 2 = 1 from rfl]
  by_cases q : bs.length = 1 + 13
  · rw [decide_eq_true q]
    simp (disch := omega) only [i_0, i_1, i_2, i_3, i_4, i_5, i_6, i_7, i_8, i_9, i_10, i_11, i_12, i_13, i_14, i_15, i_16, i_17, i_18, i_19, i_20, i_21, i_22, i_23, i_24, i_25, i_26, i_27, i_31, i_32, i_40, i_42, i_45, i_48, i_51, i_52, i_56, i_58, i_59, i_60, i_61, i_62, i_63, i_64, i_85, i_90, i_100, i_112, i_120, i_121, i_127, i_128, i_130, i_144, i_171, i_192, i_193, i_197, i_200, i_207, i_235, i_240, i_248, i_252, i_254, i_255, i_256, i_512, i_544, i_768, i_769, i_793, i_1000, i_1023, i_1024, i_1200, i_1538, i_1541, i_1545, i_2046, i_2047, i_2049, i_2060, i_2736, i_2737, i_2817, i_2818, i_2819, i_2820, i_2821, i_2831, i_2832, i_3077, i_3085, i_3843, i_3849, i_3851, i_3852, i_4129, i_4353, i_4865, i_5121, i_5122, i_5123, i_6156, i_8192, i_12288, i_16383, i_32000, i_33280, i_49152, i_53247, i_60304, i_64000, i_64512, i_65521, i_65535, i_449838109, nI_add, pk_mul, pk_sub, nI_mm, nI_leI, nI_ltI, nI_eq, pk_div, jrem_N, jshl_N, jshr_N, jushr_N, jmin_N, jmax_N, an_1, an_3, an_7, an_15, an_31, an_63, an_127, an_255, an_1023, an_2047, an_16383, an_65535, nm, pfI, rdI, rdW, rdL, rdI2, rdW2, ldA_N, stA_N, stB_N, stZ_N, pfZ_0, pfZ_1, rtZ_0, rtZ_1, acp_N, Option.bind_some, wp_some_iff, true_and, and_true, false_and, and_false, or_true, true_or, or_false, false_or, not_true_eq_false, not_false_eq_true, if_true, if_false, if_pos, if_neg, lt_sub, le_sub, sub_lt3, sub_le3, b2n_t]
  · rw [decide_eq_false q]
    simp (disch := omega) only [i_0, i_1, i_2, i_3, i_4, i_5, i_6, i_7, i_8, i_9, i_10, i_11, i_12, i_13, i_14, i_15, i_16, i_17, i_18, i_19, i_20, i_21, i_22, i_23, i_24, i_25, i_26, i_27, i_31, i_32, i_40, i_42, i_45, i_48, i_51, i_52, i_56, i_58, i_59, i_60, i_61, i_62, i_63, i_64, i_85, i_90, i_100, i_112, i_120, i_121, i_127, i_128, i_130, i_144, i_171, i_192, i_193, i_197, i_200, i_207, i_235, i_240, i_248, i_252, i_254, i_255, i_256, i_512, i_544, i_768, i_769, i_793, i_1000, i_1023, i_1024, i_1200, i_1538, i_1541, i_1545, i_2046, i_2047, i_2049, i_2060, i_2736, i_2737, i_2817, i_2818, i_2819, i_2820, i_2821, i_2831, i_2832, i_3077, i_3085, i_3843, i_3849, i_3851, i_3852, i_4129, i_4353, i_4865, i_5121, i_5122, i_5123, i_6156, i_8192, i_12288, i_16383, i_32000, i_33280, i_49152, i_53247, i_60304, i_64000, i_64512, i_65521, i_65535, i_449838109, nI_add, pk_mul, pk_sub, nI_mm, nI_leI, nI_ltI, nI_eq, pk_div, jrem_N, jshl_N, jshr_N, jushr_N, jmin_N, jmax_N, an_1, an_3, an_7, an_15, an_31, an_63, an_127, an_255, an_1023, an_2047, an_16383, an_65535, nm, pfI, rdI, rdW, rdL, rdI2, rdW2, ldA_N, stA_N, stB_N, stZ_N, pfZ_0, pfZ_1, rtZ_0, rtZ_1, acp_N, Option.bind_some, wp_some_iff, true_and, and_true, false_and, and_false, or_true, true_or, or_false, false_or, not_true_eq_false, not_false_eq_true, if_true, if_false, if_pos, if_neg, lt_sub, le_sub, sub_lt3, sub_le3, b2n_f]
theorem isD_3 {μ : Mem} {bs : List Nat} {s0 : Int32} (h : Seg μ 140 0 bs) (h1 : 13 ≤ bs.length) (h2 : bs.length ≤ 60) (hs : bs.length ≠ 13 → s0 = nI (bs.getD 11 0)) : c315_19 (nI 3) (nI 6) (nI (bs.length - 13)) s0 μ = some (μ, nI (b2n (fit 3 bs))) := by
  have g := gl_140
  have b11 := h.get 11
  unfold c315_19
  rw [nm, show (256 : Int32) * nI 3 + nI 6 = nI 774 by decide]
  refine ite_no (show ¬ nI 774 = (769 : Int32) by decide) ?_
  refine ite_no (show ¬ nI 774 = (1538 : Int32) by decide) ?_
  refine ite_no (show ¬ nI 774 = (1541 : Int32) by decide) ?_
  refine ite_no (show ¬ nI 774 = (1545 : Int32) by decide) ?_
  refine ite_no (show ¬ nI 774 = (2049 : Int32) by decide) ?_
  refine ite_no (show ¬ nI 774 = (2817 : Int32) by decide) ?_
  refine ite_no (show ¬ nI 774 = (2818 : Int32) by decide) ?_
  refine ite_no (show ¬ nI 774 = (2819 : Int32) by decide) ?_
  refine ite_no (show ¬ nI 774 = (2820 : Int32) by decide) ?_
  refine ite_no (show ¬ nI 774 = (2821 : Int32) by decide) ?_
  refine ite_no (show ¬ nI 774 = (2831 : Int32) by decide) ?_
  refine ite_no (show ¬ nI 774 = (2832 : Int32) by decide) ?_
  refine ite_no (show ¬ nI 774 = (3077 : Int32) by decide) ?_
  refine ite_no (show ¬ nI 774 = (3085 : Int32) by decide) ?_
  refine ite_no (show ¬ nI 774 = (3843 : Int32) by decide) ?_
  refine ite_no (show ¬ nI 774 = (3849 : Int32) by decide) ?_
  refine ite_no (show ¬ nI 774 = (3851 : Int32) by decide) ?_
  refine ite_no (show ¬ nI 774 = (3852 : Int32) by decide) ?_
  refine ite_no (show ¬ nI 774 = (4353 : Int32) by decide) ?_
  refine ite_no (show ¬ nI 774 = (4865 : Int32) by decide) ?_
  refine ite_no (show ¬ nI 774 = (5121 : Int32) by decide) ?_
  refine ite_no (show ¬ nI 774 = (5123 : Int32) by decide) ?_
  rw [fitN rfl rfl, show lnc 3 = 1 from rfl]
  by_cases q : bs.length = 1 + 13
  · rw [decide_eq_true q]
    simp (disch := omega) only [i_0, i_1, i_2, i_3, i_4, i_5, i_6, i_7, i_8, i_9, i_10, i_11, i_12, i_13, i_14, i_15, i_16, i_17, i_18, i_19, i_20, i_21, i_22, i_23, i_24, i_25, i_26, i_27, i_31, i_32, i_40, i_42, i_45, i_48, i_51, i_52, i_56, i_58, i_59, i_60, i_61, i_62, i_63, i_64, i_85, i_90, i_100, i_112, i_120, i_121, i_127, i_128, i_130, i_144, i_171, i_192, i_193, i_197, i_200, i_207, i_235, i_240, i_248, i_252, i_254, i_255, i_256, i_512, i_544, i_768, i_769, i_793, i_1000, i_1023, i_1024, i_1200, i_1538, i_1541, i_1545, i_2046, i_2047, i_2049, i_2060, i_2736, i_2737, i_2817, i_2818, i_2819, i_2820, i_2821, i_2831, i_2832, i_3077, i_3085, i_3843, i_3849, i_3851, i_3852, i_4129, i_4353, i_4865, i_5121, i_5122, i_5123, i_6156, i_8192, i_12288, i_16383, i_32000, i_33280, i_49152, i_53247, i_60304, i_64000, i_64512, i_65521, i_65535, i_449838109, nI_add, pk_mul, pk_sub, nI_mm, nI_leI, nI_ltI, nI_eq, pk_div, jrem_N, jshl_N, jshr_N, jushr_N, jmin_N, jmax_N, an_1, an_3, an_7, an_15, an_31, an_63, an_127, an_255, an_1023, an_2047, an_16383, an_65535, nm, pfI, rdI, rdW, rdL, rdI2, rdW2, ldA_N, stA_N, stB_N, stZ_N, pfZ_0, pfZ_1, rtZ_0, rtZ_1, acp_N, Option.bind_some, wp_some_iff, true_and, and_true, false_and, and_false, or_true, true_or, or_false, false_or, not_true_eq_false, not_false_eq_true, if_true, if_false, if_pos, if_neg, lt_sub, le_sub, sub_lt3, sub_le3, b2n_t]
  · rw [decide_eq_false q]
    simp (disch := omega) only [i_0, i_1, i_2, i_3, i_4, i_5, i_6, i_7, i_8, i_9, i_10, i_11, i_12, i_13, i_14, i_15, i_16, i_17, i_18, i_19, i_20, i_21, i_22, i_23, i_24, i_25, i_26, i_27, i_31, i_32, i_40, i_42, i_45, i_48, i_51, i_52, i_56, i_58, i_59, i_60, i_61, i_62, i_63, i_64, i_85, i_90, i_100, i_112, i_120, i_121, i_127, i_128, i_130, i_144, i_171, i_192, i_193, i_197, i_200, i_207, i_235, i_240, i_248, i_252, i_254, i_255, i_256, i_512, i_544, i_768, i_769, i_793, i_1000, i_1023, i_1024, i_1200, i_1538, i_1541, i_1545, i_2046, i_2047, i_2049, i_2060, i_2736, i_2737, i_2817, i_2818, i_2819, i_2820, i_2821, i_2831, i_2832, i_3077, i_3085, i_3843, i_3849, i_3851, i_3852, i_4129, i_4353, i_4865, i_5121, i_5122, i_5123, i_6156, i_8192, i_12288, i_16383, i_32000, i_33280, i_49152, i_53247, i_60304, i_64000, i_64512, i_65521, i_65535, i_449838109, nI_add, pk_mul, pk_sub, nI_mm, nI_leI, nI_ltI, nI_eq, pk_div, jrem_N, jshl_N, jshr_N, jushr_N, jmin_N, jmax_N, an_1, an_3, an_7, an_15, an_31, an_63, an_127, an_255, an_1023, an_2047, an_16383, an_65535, nm, pfI, rdI, rdW, rdL, rdI2, rdW2, ldA_N, stA_N, stB_N, stZ_N, pfZ_0, pfZ_1, rtZ_0, rtZ_1, acp_N, Option.bind_some, wp_some_iff, true_and, and_true, false_and, and_false, or_true, true_or, or_false, false_or, not_true_eq_false, not_false_eq_true, if_true, if_false, if_pos, if_neg, lt_sub, le_sub, sub_lt3, sub_le3, b2n_f]
theorem isD_4 {μ : Mem} {bs : List Nat} {s0 : Int32} (h : Seg μ 140 0 bs) (h1 : 13 ≤ bs.length) (h2 : bs.length ≤ 60) (hs : bs.length ≠ 13 → s0 = nI (bs.getD 11 0)) : c315_19 (nI 3) (nI 27) (nI (bs.length - 13)) s0 μ = some (μ, nI (b2n (fit 4 bs))) := by
  have g := gl_140
  have b11 := h.get 11
  unfold c315_19
  rw [nm, show (256 : Int32) * nI 3 + nI 27 = nI 795 by decide]
  refine ite_no (show ¬ nI 795 = (769 : Int32) by decide) ?_
  refine ite_no (show ¬ nI 795 = (1538 : Int32) by decide) ?_
  refine ite_no (show ¬ nI 795 = (1541 : Int32) by decide) ?_
  refine ite_no (show ¬ nI 795 = (1545 : Int32) by decide) ?_
  refine ite_no (show ¬ nI 795 = (2049 : Int32) by decide) ?_
  refine ite_no (show ¬ nI 795 = (2817 : Int32) by decide) ?_
  refine ite_no (show ¬ nI 795 = (2818 : Int32) by decide) ?_
  refine ite_no (show ¬ nI 795 = (2819 : Int32) by decide) ?_
  refine ite_no (show ¬ nI 795 = (2820 : Int32) by decide) ?_
  refine ite_no (show ¬ nI 795 = (2821 : Int32) by decide) ?_
  refine ite_no (show ¬ nI 795 = (2831 : Int32) by decide) ?_
  refine ite_no (show ¬ nI 795 = (2832 : Int32) by decide) ?_
  refine ite_no (show ¬ nI 795 = (3077 : Int32) by decide) ?_
  refine ite_no (show ¬ nI 795 = (3085 : Int32) by decide) ?_
  refine ite_no (show ¬ nI 795 = (3843 : Int32) by decide) ?_
  refine ite_no (show ¬ nI 795 = (3849 : Int32) by decide) ?_
  refine ite_no (show ¬ nI 795 = (3851 : Int32) by decide) ?_
  refine ite_no (show ¬ nI 795 = (3852 : Int32) by decide) ?_
  refine ite_no (show ¬ nI 795 = (4353 : Int32) by decide) ?_
  refine ite_no (show ¬ nI 795 = (4865 : Int32) by decide) ?_
  refine ite_no (show ¬ nI 795 = (5121 : Int32) by decide) ?_
  refine ite_no (show ¬ nI 795 = (5123 : Int32) by decide) ?_
  rw [fitN rfl rfl, show lnc 4 = 1 from rfl]
  by_cases q : bs.length = 1 + 13
  · rw [decide_eq_true q]
    simp (disch := omega) only [i_0, i_1, i_2, i_3, i_4, i_5, i_6, i_7, i_8, i_9, i_10, i_11, i_12, i_13, i_14, i_15, i_16, i_17, i_18, i_19, i_20, i_21, i_22, i_23, i_24, i_25, i_26, i_27, i_31, i_32, i_40, i_42, i_45, i_48, i_51, i_52, i_56, i_58, i_59, i_60, i_61, i_62, i_63, i_64, i_85, i_90, i_100, i_112, i_120, i_121, i_127, i_128, i_130, i_144, i_171, i_192, i_193, i_197, i_200, i_207, i_235, i_240, i_248, i_252, i_254, i_255, i_256, i_512, i_544, i_768, i_769, i_793, i_1000, i_1023, i_1024, i_1200, i_1538, i_1541, i_1545, i_2046, i_2047, i_2049, i_2060, i_2736, i_2737, i_2817, i_2818, i_2819, i_2820, i_2821, i_2831, i_2832, i_3077, i_3085, i_3843, i_3849, i_3851, i_3852, i_4129, i_4353, i_4865, i_5121, i_5122, i_5123, i_6156, i_8192, i_12288, i_16383, i_32000, i_33280, i_49152, i_53247, i_60304, i_64000, i_64512, i_65521, i_65535, i_449838109, nI_add, pk_mul, pk_sub, nI_mm, nI_leI, nI_ltI, nI_eq, pk_div, jrem_N, jshl_N, jshr_N, jushr_N, jmin_N, jmax_N, an_1, an_3, an_7, an_15, an_31, an_63, an_127, an_255, an_1023, an_2047, an_16383, an_65535, nm, pfI, rdI, rdW, rdL, rdI2, rdW2, ldA_N, stA_N, stB_N, stZ_N, pfZ_0, pfZ_1, rtZ_0, rtZ_1, acp_N, Option.bind_some, wp_some_iff, true_and, and_true, false_and, and_false, or_true, true_or, or_false, false_or, not_true_eq_false, not_false_eq_true, if_true, if_false, if_pos, if_neg, lt_sub, le_sub, sub_lt3, sub_le3, b2n_t]
  · rw [decide_eq_false q]
    simp (disch := omega) only [i_0, i_1, i_2, i_3, i_4, i_5, i_6, i_7, i_8, i_9, i_10, i_11, i_12, i_13, i_14, i_15, i_16, i_17, i_18, i_19, i_20, i_21, i_22, i_23, i_24, i_25, i_26, i_27, i_31, i_32, i_40, i_42, i_45, i_48, i_51, i_52, i_56, i_58, i_59, i_60, i_61, i_62, i_63, i_64, i_85, i_90, i_100, i_112, i_120, i_121, i_127, i_128, i_130, i_144, i_171, i_192, i_193, i_197, i_200, i_207, i_235, i_240, i_248, i_252, i_254, i_255, i_256, i_512, i_544, i_768, i_769, i_793, i_1000, i_1023, i_1024, i_1200, i_1538, i_1541, i_1545, i_2046, i_2047, i_2049, i_2060, i_2736, i_2737, i_2817, i_2818, i_2819, i_2820, i_2821, i_2831, i_2832, i_3077, i_3085, i_3843, i_3849, i_3851, i_3852, i_4129, i_4353, i_4865, i_5121, i_5122, i_5123, i_6156, i_8192, i_12288, i_16383, i_32000, i_33280, i_49152, i_53247, i_60304, i_64000, i_64512, i_65521, i_65535, i_449838109, nI_add, pk_mul, pk_sub, nI_mm, nI_leI, nI_ltI, nI_eq, pk_div, jrem_N, jshl_N, jshr_N, jushr_N, jmin_N, jmax_N, an_1, an_3, an_7, an_15, an_31, an_63, an_127, an_255, an_1023, an_2047, an_16383, an_65535, nm, pfI, rdI, rdW, rdL, rdI2, rdW2, ldA_N, stA_N, stB_N, stZ_N, pfZ_0, pfZ_1, rtZ_0, rtZ_1, acp_N, Option.bind_some, wp_some_iff, true_and, and_true, false_and, and_false, or_true, true_or, or_false, false_or, not_true_eq_false, not_false_eq_true, if_true, if_false, if_pos, if_neg, lt_sub, le_sub, sub_lt3, sub_le3, b2n_f]
theorem isD_5 {μ : Mem} {bs : List Nat} {s0 : Int32} (h : Seg μ 140 0 bs) (h1 : 13 ≤ bs.length) (h2 : bs.length ≤ 60) (hs : bs.length ≠ 13 → s0 = nI (bs.getD 11 0)) : c315_19 (nI 5) (nI 5) (nI (bs.length - 13)) s0 μ = some (μ, nI (b2n (fit 5 bs))) := by
  have g := gl_140
  have b11 := h.get 11
  unfold c315_19
  rw [nm, show (256 : Int32) * nI 5 + nI 5 = nI 1285 by decide]
  refine ite_no (show ¬ nI 1285 = (769 : Int32) by decide) ?_
  refine ite_no (show ¬ nI 1285 = (1538 : Int32) by decide) ?_
  refine ite_no (show ¬ nI 1285 = (1541 : Int32) by decide) ?_
  refine ite_no (show ¬ nI 1285 = (1545 : Int32) by decide) ?_
  refine ite_no (show ¬ nI 1285 = (2049 : Int32) by decide) ?_
  refine ite_no (show ¬ nI 1285 = (2817 : Int32) by decide) ?_
  refine ite_no (show ¬ nI 1285 = (2818 : Int32) by decide) ?_
  refine ite_no (show ¬ nI 1285 = (2819 : Int32) by decide) ?_
  refine ite_no (show ¬ nI 1285 = (2820 : Int32) by decide) ?_
  refine ite_no (show ¬ nI 1285 = (2821 : Int32) by decide) ?_
  refine ite_no (show ¬ nI 1285 = (2831 : Int32) by decide) ?_
  refine ite_no (show ¬ nI 1285 = (2832 : Int32) by decide) ?_
  refine ite_no (show ¬ nI 1285 = (3077 : Int32) by decide) ?_
  refine ite_no (show ¬ nI 1285 = (3085 : Int32) by decide) ?_
  refine ite_no (show ¬ nI 1285 = (3843 : Int32) by decide) ?_
  refine ite_no (show ¬ nI 1285 = (3849 : Int32) by decide) ?_
  refine ite_no (show ¬ nI 1285 = (3851 : Int32) by decide) ?_
  refine ite_no (show ¬ nI 1285 = (3852 : Int32) by decide) ?_
  refine ite_no (show ¬ nI 1285 = (4353 : Int32) by decide) ?_
  refine ite_no (show ¬ nI 1285 = (4865 : Int32) by decide) ?_
  refine ite_no (show ¬ nI 1285 = (5121 : Int32) by decide) ?_
  refine ite_no (show ¬ nI 1285 = (5123 : Int32) by decide) ?_
  rw [fitN rfl rfl, show lnc 5 = 1 from rfl]
  by_cases q : bs.length = 1 + 13
  · rw [decide_eq_true q]
    simp (disch := omega) only [i_0, i_1, i_2, i_3, i_4, i_5, i_6, i_7, i_8, i_9, i_10, i_11, i_12, i_13, i_14, i_15, i_16, i_17, i_18, i_19, i_20, i_21, i_22, i_23, i_24, i_25, i_26, i_27, i_31, i_32, i_40, i_42, i_45, i_48, i_51, i_52, i_56, i_58, i_59, i_60, i_61, i_62, i_63, i_64, i_85, i_90, i_100, i_112, i_120, i_121, i_127, i_128, i_130, i_144, i_171, i_192, i_193, i_197, i_200, i_207, i_235, i_240, i_248, i_252, i_254, i_255, i_256, i_512, i_544, i_768, i_769, i_793, i_1000, i_1023, i_1024, i_1200, i_1538, i_1541, i_1545, i_2046, i_2047, i_2049, i_2060, i_2736, i_2737, i_2817, i_2818, i_2819, i_2820, i_2821, i_2831, i_2832, i_3077, i_3085, i_3843, i_3849, i_3851, i_3852, i_4129, i_4353, i_4865, i_5121, i_5122, i_5123, i_6156, i_8192, i_12288, i_16383, i_32000, i_33280, i_49152, i_53247, i_60304, i_64000, i_64512, i_65521, i_65535, i_449838109, nI_add, pk_mul, pk_sub, nI_mm, nI_leI, nI_ltI, nI_eq, pk_div, jrem_N, jshl_N, jshr_N, jushr_N, jmin_N, jmax_N, an_1, an_3, an_7, an_15, an_31, an_63, an_127, an_255, an_1023, an_2047, an_16383, an_65535, nm, pfI, rdI, rdW, rdL, rdI2, rdW2, ldA_N, stA_N, stB_N, stZ_N, pfZ_0, pfZ_1, rtZ_0, rtZ_1, acp_N, Option.bind_some, wp_some_iff, true_and, and_true, false_and, and_false, or_true, true_or, or_false, false_or, not_true_eq_false, not_false_eq_true, if_true, if_false, if_pos, if_neg, lt_sub, le_sub, sub_lt3, sub_le3, b2n_t]
  · rw [decide_eq_false q]
    simp (disch := omega) only [i_0, i_1, i_2, i_3, i_4, i_5, i_6, i_7, i_8, i_9, i_10, i_11, i_12, i_13, i_14, i_15, i_16, i_17, i_18, i_19, i_20, i_21, i_22, i_23, i_24, i_25, i_26, i_27, i_31, i_32, i_40, i_42, i_45, i_48, i_51, i_52, i_56, i_58, i_59, i_60, i_61, i_62, i_63, i_64, i_85, i_90, i_100, i_112, i_120, i_121, i_127, i_128, i_130, i_144, i_171, i_192, i_193, i_197, i_200, i_207, i_235, i_240, i_248, i_252, i_254, i_255, i_256, i_512, i_544, i_768, i_769, i_793, i_1000, i_1023, i_1024, i_1200, i_1538, i_1541, i_1545, i_2046, i_2047, i_2049, i_2060, i_2736, i_2737, i_2817, i_2818, i_2819, i_2820, i_2821, i_2831, i_2832, i_3077, i_3085, i_3843, i_3849, i_3851, i_3852, i_4129, i_4353, i_4865, i_5121, i_5122, i_5123, i_6156, i_8192, i_12288, i_16383, i_32000, i_33280, i_49152, i_53247, i_60304, i_64000, i_64512, i_65521, i_65535, i_449838109, nI_add, pk_mul, pk_sub, nI_mm, nI_leI, nI_ltI, nI_eq, pk_div, jrem_N, jshl_N, jshr_N, jushr_N, jmin_N, jmax_N, an_1, an_3, an_7, an_15, an_31, an_63, an_127, an_255, an_1023, an_2047, an_16383, an_65535, nm, pfI, rdI, rdW, rdL, rdI2, rdW2, ldA_N, stA_N, stB_N, stZ_N, pfZ_0, pfZ_1, rtZ_0, rtZ_1, acp_N, Option.bind_some, wp_some_iff, true_and, and_true, false_and, and_false, or_true, true_or, or_false, false_or, not_true_eq_false, not_false_eq_true, if_true, if_false, if_pos, if_neg, lt_sub, le_sub, sub_lt3, sub_le3, b2n_f]
theorem isD_6 {μ : Mem} {bs : List Nat} {s0 : Int32} (h : Seg μ 140 0 bs) (h1 : 13 ≤ bs.length) (h2 : bs.length ≤ 60) (hs : bs.length ≠ 13 → s0 = nI (bs.getD 11 0)) : c315_19 (nI 5) (nI 6) (nI (bs.length - 13)) s0 μ = some (μ, nI (b2n (fit 6 bs))) := by
  have g := gl_140
  have b11 := h.get 11
  unfold c315_19
  rw [nm, show (256 : Int32) * nI 5 + nI 6 = nI 1286 by decide]
  refine ite_no (show ¬ nI 1286 = (769 : Int32) by decide) ?_
  refine ite_no (show ¬ nI 1286 = (1538 : Int32) by decide) ?_
  refine ite_no (show ¬ nI 1286 = (1541 : Int32) by decide) ?_
  refine ite_no (show ¬ nI 1286 = (1545 : Int32) by decide) ?_
  refine ite_no (show ¬ nI 1286 = (2049 : Int32) by decide) ?_
  refine ite_no (show ¬ nI 1286 = (2817 : Int32) by decide) ?_
  refine ite_no (show ¬ nI 1286 = (2818 : Int32) by decide) ?_
  refine ite_no (show ¬ nI 1286 = (2819 : Int32) by decide) ?_
  refine ite_no (show ¬ nI 1286 = (2820 : Int32) by decide) ?_
  refine ite_no (show ¬ nI 1286 = (2821 : Int32) by decide) ?_
  refine ite_no (show ¬ nI 1286 = (2831 : Int32) by decide) ?_
  refine ite_no (show ¬ nI 1286 = (2832 : Int32) by decide) ?_
  refine ite_no (show ¬ nI 1286 = (3077 : Int32) by decide) ?_
  refine ite_no (show ¬ nI 1286 = (3085 : Int32) by decide) ?_
  refine ite_no (show ¬ nI 1286 = (3843 : Int32) by decide) ?_
  refine ite_no (show ¬ nI 1286 = (3849 : Int32) by decide) ?_
  refine ite_no (show ¬ nI 1286 = (3851 : Int32) by decide) ?_
  refine ite_no (show ¬ nI 1286 = (3852 : Int32) by decide) ?_
  refine ite_no (show ¬ nI 1286 = (4353 : Int32) by decide) ?_
  refine ite_no (show ¬ nI 1286 = (4865 : Int32) by decide) ?_
  refine ite_no (show ¬ nI 1286 = (5121 : Int32) by decide) ?_
  refine ite_no (show ¬ nI 1286 = (5123 : Int32) by decide) ?_
  rw [fitN rfl rfl, show lnc 6 = 1 from rfl]
  by_cases q : bs.length = 1 + 13
  · rw [decide_eq_true q]
    simp (disch := omega) only [i_0, i_1, i_2, i_3, i_4, i_5, i_6, i_7, i_8, i_9, i_10, i_11, i_12, i_13, i_14, i_15, i_16, i_17, i_18, i_19, i_20, i_21, i_22, i_23, i_24, i_25, i_26, i_27, i_31, i_32, i_40, i_42, i_45, i_48, i_51, i_52, i_56, i_58, i_59, i_60, i_61, i_62, i_63, i_64, i_85, i_90, i_100, i_112, i_120, i_121, i_127, i_128, i_130, i_144, i_171, i_192, i_193, i_197, i_200, i_207, i_235, i_240, i_248, i_252, i_254, i_255, i_256, i_512, i_544, i_768, i_769, i_793, i_1000, i_1023, i_1024, i_1200, i_1538, i_1541, i_1545, i_2046, i_2047, i_2049, i_2060, i_2736, i_2737, i_2817, i_2818, i_2819, i_2820, i_2821, i_2831, i_2832, i_3077, i_3085, i_3843, i_3849, i_3851, i_3852, i_4129, i_4353, i_4865, i_5121, i_5122, i_5123, i_6156, i_8192, i_12288, i_16383, i_32000, i_33280, i_49152, i_53247, i_60304, i_64000, i_64512, i_65521, i_65535, i_449838109, nI_add, pk_mul, pk_sub, nI_mm, nI_leI, nI_ltI, nI_eq, pk_div, jrem_N, jshl_N, jshr_N, jushr_N, jmin_N, jmax_N, an_1, an_3, an_7, an_15, an_31, an_63, an_127, an_255, an_1023, an_2047, an_16383, an_65535, nm, pfI, rdI, rdW, rdL, rdI2, rdW2, ldA_N, stA_N, stB_N, stZ_N, pfZ_0, pfZ_1, rtZ_0, rtZ_1, acp_N, Option.bind_some, wp_some_iff, true_and, and_true, false_and, and_false, or_true, true_or, or_false, false_or, not_true_eq_false, not_false_eq_true, if_true, if_false, if_pos, if_neg, lt_sub, le_sub, sub_lt3, sub_le3, b2n_t]
  · rw [decide_eq_false q]
    simp (disch := omega) only [i_0, i_1, i_2, i_3, i_4, i_5, i_6, i_7, i_8, i_9, i_10, i_11, i_12, i_13, i_14, i_15, i_16, i_17, i_18, i_19, i_20, i_21, i_22, i_23, i_24, i_25, i_26, i_27, i_31, i_32, i_40, i_42, i_45, i_48, i_51, i_52, i_56, i_58, i_59, i_60, i_61, i_62, i_63, i_64, i_85, i_90, i_100, i_112, i_120, i_121, i_127, i_128, i_130, i_144, i_171, i_192, i_193, i_197, i_200, i_207, i_235, i_240, i_248, i_252, i_254, i_255, i_256, i_512, i_544, i_768, i_769, i_793, i_1000, i_1023, i_1024, i_1200, i_1538, i_1541, i_1545, i_2046, i_2047, i_2049, i_2060, i_2736, i_2737, i_2817, i_2818, i_2819, i_2820, i_2821, i_2831, i_2832, i_3077, i_3085, i_3843, i_3849, i_3851, i_3852, i_4129, i_4353, i_4865, i_5121, i_5122, i_5123, i_6156, i_8192, i_12288, i_16383, i_32000, i_33280, i_49152, i_53247, i_60304, i_64000, i_64512, i_65521, i_65535, i_449838109, nI_add, pk_mul, pk_sub, nI_mm, nI_leI, nI_ltI, nI_eq, pk_div, jrem_N, jshl_N, jshr_N, jushr_N, jmin_N, jmax_N, an_1, an_3, an_7, an_15, an_31, an_63, an_127, an_255, an_1023, an_2047, an_16383, an_65535, nm, pfI, rdI, rdW, rdL, rdI2, rdW2, ldA_N, stA_N, stB_N, stZ_N, pfZ_0, pfZ_1, rtZ_0, rtZ_1, acp_N, Option.bind_some, wp_some_iff, true_and, and_true, false_and, and_false, or_true, true_or, or_false, false_or, not_true_eq_false, not_false_eq_true, if_true, if_false, if_pos, if_neg, lt_sub, le_sub, sub_lt3, sub_le3, b2n_f]
theorem isD_7 {μ : Mem} {bs : List Nat} {s0 : Int32} (h : Seg μ 140 0 bs) (h1 : 13 ≤ bs.length) (h2 : bs.length ≤ 60) (hs : bs.length ≠ 13 → s0 = nI (bs.getD 11 0)) : c315_19 (nI 6) (nI 2) (nI (bs.length - 13)) s0 μ = some (μ, nI (b2n (fit 7 bs))) := by
  have g := gl_140
  have b11 := h.get 11
  unfold c315_19
  rw [nm, show (256 : Int32) * nI 6 + nI 2 = nI 1538 by decide]
  refine ite_no (show ¬ nI 1538 = (769 : Int32) by decide) ?_
  refine ite_yes (show nI 1538 = (1538 : Int32) by decide) ?_
  have bD := h.get 13

  rw [show fit 7 bs = (decide (3 + 13 ≤ bs.length ∧ 1 ≤ bs.getD 13 0 ∧ bs.getD 13 0 ≤ 32 ∧ bs.length = 3 + 13 + bs.getD 13 0 * 1) && true) from rfl]
  by_cases q0 : 3 + 13 ≤ bs.length
  · have e13 := h.z (i := 13) (by omega)
    by_cases q : 3 + 13 ≤ bs.length ∧ 1 ≤ bs.getD 13 0 ∧ bs.getD 13 0 ≤ 32 ∧ bs.length = 3 + 13 + bs.getD 13 0 * 1
    · rw [decide_eq_true q]
      simp (disch := omega) only [i_0, i_1, i_2, i_3, i_4, i_5, i_6, i_7, i_8, i_9, i_10, i_11, i_12, i_13, i_14, i_15, i_16, i_17, i_18, i_19, i_20, i_21, i_22, i_23, i_24, i_25, i_26, i_27, i_31, i_32, i_40, i_42, i_45, i_48, i_51, i_52, i_56, i_58, i_59, i_60, i_61, i_62, i_63, i_64, i_85, i_90, i_100, i_112, i_120, i_121, i_127, i_128, i_130, i_144, i_171, i_192, i_193, i_197, i_200, i_207, i_235, i_240, i_248, i_252, i_254, i_255, i_256, i_512, i_544, i_768, i_769, i_793, i_1000, i_1023, i_1024, i_1200, i_1538, i_1541, i_1545, i_2046, i_2047, i_2049, i_2060, i_2736, i_2737, i_2817, i_2818, i_2819, i_2820, i_2821, i_2831, i_2832, i_3077, i_3085, i_3843, i_3849, i_3851, i_3852, i_4129, i_4353, i_4865, i_5121, i_5122, i_5123, i_6156, i_8192, i_12288, i_16383, i_32000, i_33280, i_49152, i_53247, i_60304, i_64000, i_64512, i_65521, i_65535, i_449838109, nI_add, pk_mul, pk_sub, nI_mm, nI_leI, nI_ltI, nI_eq, pk_div, jrem_N, jshl_N, jshr_N, jushr_N, jmin_N, jmax_N, an_1, an_3, an_7, an_15, an_31, an_63, an_127, an_255, an_1023, an_2047, an_16383, an_65535, nm, pfI, rdI, rdW, rdL, rdI2, rdW2, ldA_N, stA_N, stB_N, stZ_N, pfZ_0, pfZ_1, rtZ_0, rtZ_1, acp_N, Option.bind_some, wp_some_iff, true_and, and_true, false_and, and_false, or_true, true_or, or_false, false_or, not_true_eq_false, not_false_eq_true, if_true, if_false, if_pos, if_neg, lt_sub, le_sub, sub_lt3, sub_le3, e13, Bool.and_self, b2n_t]
    · rw [decide_eq_false q]
      by_cases q1 : 1 ≤ bs.getD 13 0
      · by_cases q3 : bs.getD 13 0 ≤ 32
        · by_cases q4 : bs.length = 16
          · simp (disch := omega) only [i_0, i_1, i_2, i_3, i_4, i_5, i_6, i_7, i_8, i_9, i_10, i_11, i_12, i_13, i_14, i_15, i_16, i_17, i_18, i_19, i_20, i_21, i_22, i_23, i_24, i_25, i_26, i_27, i_31, i_32, i_40, i_42, i_45, i_48, i_51, i_52, i_56, i_58, i_59, i_60, i_61, i_62, i_63, i_64, i_85, i_90, i_100, i_112, i_120, i_121, i_127, i_128, i_130, i_144, i_171, i_192, i_193, i_197, i_200, i_207, i_235, i_240, i_248, i_252, i_254, i_255, i_256, i_512, i_544, i_768, i_769, i_793, i_1000, i_1023, i_1024, i_1200, i_1538, i_1541, i_1545, i_2046, i_2047, i_2049, i_2060, i_2736, i_2737, i_2817, i_2818, i_2819, i_2820, i_2821, i_2831, i_2832, i_3077, i_3085, i_3843, i_3849, i_3851, i_3852, i_4129, i_4353, i_4865, i_5121, i_5122, i_5123, i_6156, i_8192, i_12288, i_16383, i_32000, i_33280, i_49152, i_53247, i_60304, i_64000, i_64512, i_65521, i_65535, i_449838109, nI_add, pk_mul, pk_sub, nI_mm, nI_leI, nI_ltI, nI_eq, pk_div, jrem_N, jshl_N, jshr_N, jushr_N, jmin_N, jmax_N, an_1, an_3, an_7, an_15, an_31, an_63, an_127, an_255, an_1023, an_2047, an_16383, an_65535, nm, pfI, rdI, rdW, rdL, rdI2, rdW2, ldA_N, stA_N, stB_N, stZ_N, pfZ_0, pfZ_1, rtZ_0, rtZ_1, acp_N, Option.bind_some, wp_some_iff, true_and, and_true, false_and, and_false, or_true, true_or, or_false, false_or, not_true_eq_false, not_false_eq_true, if_true, if_false, if_pos, if_neg, lt_sub, le_sub, sub_lt3, sub_le3, e13, Bool.false_and, b2n_f]
          · simp (disch := omega) only [i_0, i_1, i_2, i_3, i_4, i_5, i_6, i_7, i_8, i_9, i_10, i_11, i_12, i_13, i_14, i_15, i_16, i_17, i_18, i_19, i_20, i_21, i_22, i_23, i_24, i_25, i_26, i_27, i_31, i_32, i_40, i_42, i_45, i_48, i_51, i_52, i_56, i_58, i_59, i_60, i_61, i_62, i_63, i_64, i_85, i_90, i_100, i_112, i_120, i_121, i_127, i_128, i_130, i_144, i_171, i_192, i_193, i_197, i_200, i_207, i_235, i_240, i_248, i_252, i_254, i_255, i_256, i_512, i_544, i_768, i_769, i_793, i_1000, i_1023, i_1024, i_1200, i_1538, i_1541, i_1545, i_2046, i_2047, i_2049, i_2060, i_2736, i_2737, i_2817, i_2818, i_2819, i_2820, i_2821, i_2831, i_2832, i_3077, i_3085, i_3843, i_3849, i_3851, i_3852, i_4129, i_4353, i_4865, i_5121, i_5122, i_5123, i_6156, i_8192, i_12288, i_16383, i_32000, i_33280, i_49152, i_53247, i_60304, i_64000, i_64512, i_65521, i_65535, i_449838109, nI_add, pk_mul, pk_sub, nI_mm, nI_leI, nI_ltI, nI_eq, pk_div, jrem_N, jshl_N, jshr_N, jushr_N, jmin_N, jmax_N, an_1, an_3, an_7, an_15, an_31, an_63, an_127, an_255, an_1023, an_2047, an_16383, an_65535, nm, pfI, rdI, rdW, rdL, rdI2, rdW2, ldA_N, stA_N, stB_N, stZ_N, pfZ_0, pfZ_1, rtZ_0, rtZ_1, acp_N, Option.bind_some, wp_some_iff, true_and, and_true, false_and, and_false, or_true, true_or, or_false, false_or, not_true_eq_false, not_false_eq_true, if_true, if_false, if_pos, if_neg, lt_sub, le_sub, sub_lt3, sub_le3, e13, Bool.false_and, b2n_f]
        · by_cases q4 : bs.length = 16
          · simp (disch := omega) only [i_0, i_1, i_2, i_3, i_4, i_5, i_6, i_7, i_8, i_9, i_10, i_11, i_12, i_13, i_14, i_15, i_16, i_17, i_18, i_19, i_20, i_21, i_22, i_23, i_24, i_25, i_26, i_27, i_31, i_32, i_40, i_42, i_45, i_48, i_51, i_52, i_56, i_58, i_59, i_60, i_61, i_62, i_63, i_64, i_85, i_90, i_100, i_112, i_120, i_121, i_127, i_128, i_130, i_144, i_171, i_192, i_193, i_197, i_200, i_207, i_235, i_240, i_248, i_252, i_254, i_255, i_256, i_512, i_544, i_768, i_769, i_793, i_1000, i_1023, i_1024, i_1200, i_1538, i_1541, i_1545, i_2046, i_2047, i_2049, i_2060, i_2736, i_2737, i_2817, i_2818, i_2819, i_2820, i_2821, i_2831, i_2832, i_3077, i_3085, i_3843, i_3849, i_3851, i_3852, i_4129, i_4353, i_4865, i_5121, i_5122, i_5123, i_6156, i_8192, i_12288, i_16383, i_32000, i_33280, i_49152, i_53247, i_60304, i_64000, i_64512, i_65521, i_65535, i_449838109, nI_add, pk_mul, pk_sub, nI_mm, nI_leI, nI_ltI, nI_eq, pk_div, jrem_N, jshl_N, jshr_N, jushr_N, jmin_N, jmax_N, an_1, an_3, an_7, an_15, an_31, an_63, an_127, an_255, an_1023, an_2047, an_16383, an_65535, nm, pfI, rdI, rdW, rdL, rdI2, rdW2, ldA_N, stA_N, stB_N, stZ_N, pfZ_0, pfZ_1, rtZ_0, rtZ_1, acp_N, Option.bind_some, wp_some_iff, true_and, and_true, false_and, and_false, or_true, true_or, or_false, false_or, not_true_eq_false, not_false_eq_true, if_true, if_false, if_pos, if_neg, lt_sub, le_sub, sub_lt3, sub_le3, e13, Bool.false_and, b2n_f]
          · simp (disch := omega) only [i_0, i_1, i_2, i_3, i_4, i_5, i_6, i_7, i_8, i_9, i_10, i_11, i_12, i_13, i_14, i_15, i_16, i_17, i_18, i_19, i_20, i_21, i_22, i_23, i_24, i_25, i_26, i_27, i_31, i_32, i_40, i_42, i_45, i_48, i_51, i_52, i_56, i_58, i_59, i_60, i_61, i_62, i_63, i_64, i_85, i_90, i_100, i_112, i_120, i_121, i_127, i_128, i_130, i_144, i_171, i_192, i_193, i_197, i_200, i_207, i_235, i_240, i_248, i_252, i_254, i_255, i_256, i_512, i_544, i_768, i_769, i_793, i_1000, i_1023, i_1024, i_1200, i_1538, i_1541, i_1545, i_2046, i_2047, i_2049, i_2060, i_2736, i_2737, i_2817, i_2818, i_2819, i_2820, i_2821, i_2831, i_2832, i_3077, i_3085, i_3843, i_3849, i_3851, i_3852, i_4129, i_4353, i_4865, i_5121, i_5122, i_5123, i_6156, i_8192, i_12288, i_16383, i_32000, i_33280, i_49152, i_53247, i_60304, i_64000, i_64512, i_65521, i_65535, i_449838109, nI_add, pk_mul, pk_sub, nI_mm, nI_leI, nI_ltI, nI_eq, pk_div, jrem_N, jshl_N, jshr_N, jushr_N, jmin_N, jmax_N, an_1, an_3, an_7, an_15, an_31, an_63, an_127, an_255, an_1023, an_2047, an_16383, an_65535, nm, pfI, rdI, rdW, rdL, rdI2, rdW2, ldA_N, stA_N, stB_N, stZ_N, pfZ_0, pfZ_1, rtZ_0, rtZ_1, acp_N, Option.bind_some, wp_some_iff, true_and, and_true, false_and, and_false, or_true, true_or, or_false, false_or, not_true_eq_false, not_false_eq_true, if_true, if_false, if_pos, if_neg, lt_sub, le_sub, sub_lt3, sub_le3, e13, Bool.false_and, b2n_f]
      · by_cases q4 : bs.length = 16
        · simp (disch := omega) only [i_0, i_1, i_2, i_3, i_4, i_5, i_6, i_7, i_8, i_9, i_10, i_11, i_12, i_13, i_14, i_15, i_16, i_17, i_18, i_19, i_20, i_21, i_22, i_23, i_24, i_25, i_26, i_27, i_31, i_32, i_40, i_42, i_45, i_48, i_51, i_52, i_56, i_58, i_59, i_60, i_61, i_62, i_63, i_64, i_85, i_90, i_100, i_112, i_120, i_121, i_127, i_128, i_130, i_144, i_171, i_192, i_193, i_197, i_200, i_207, i_235, i_240, i_248, i_252, i_254, i_255, i_256, i_512, i_544, i_768, i_769, i_793, i_1000, i_1023, i_1024, i_1200, i_1538, i_1541, i_1545, i_2046, i_2047, i_2049, i_2060, i_2736, i_2737, i_2817, i_2818, i_2819, i_2820, i_2821, i_2831, i_2832, i_3077, i_3085, i_3843, i_3849, i_3851, i_3852, i_4129, i_4353, i_4865, i_5121, i_5122, i_5123, i_6156, i_8192, i_12288, i_16383, i_32000, i_33280, i_49152, i_53247, i_60304, i_64000, i_64512, i_65521, i_65535, i_449838109, nI_add, pk_mul, pk_sub, nI_mm, nI_leI, nI_ltI, nI_eq, pk_div, jrem_N, jshl_N, jshr_N, jushr_N, jmin_N, jmax_N, an_1, an_3, an_7, an_15, an_31, an_63, an_127, an_255, an_1023, an_2047, an_16383, an_65535, nm, pfI, rdI, rdW, rdL, rdI2, rdW2, ldA_N, stA_N, stB_N, stZ_N, pfZ_0, pfZ_1, rtZ_0, rtZ_1, acp_N, Option.bind_some, wp_some_iff, true_and, and_true, false_and, and_false, or_true, true_or, or_false, false_or, not_true_eq_false, not_false_eq_true, if_true, if_false, if_pos, if_neg, lt_sub, le_sub, sub_lt3, sub_le3, e13, Bool.false_and, b2n_f]
        · simp (disch := omega) only [i_0, i_1, i_2, i_3, i_4, i_5, i_6, i_7, i_8, i_9, i_10, i_11, i_12, i_13, i_14, i_15, i_16, i_17, i_18, i_19, i_20, i_21, i_22, i_23, i_24, i_25, i_26, i_27, i_31, i_32, i_40, i_42, i_45, i_48, i_51, i_52, i_56, i_58, i_59, i_60, i_61, i_62, i_63, i_64, i_85, i_90, i_100, i_112, i_120, i_121, i_127, i_128, i_130, i_144, i_171, i_192, i_193, i_197, i_200, i_207, i_235, i_240, i_248, i_252, i_254, i_255, i_256, i_512, i_544, i_768, i_769, i_793, i_1000, i_1023, i_1024, i_1200, i_1538, i_1541, i_1545, i_2046, i_2047, i_2049, i_2060, i_2736, i_2737, i_2817, i_2818, i_2819, i_2820, i_2821, i_2831, i_2832, i_3077, i_3085, i_3843, i_3849, i_3851, i_3852, i_4129, i_4353, i_4865, i_5121, i_5122, i_5123, i_6156, i_8192, i_12288, i_16383, i_32000, i_33280, i_49152, i_53247, i_60304, i_64000, i_64512, i_65521, i_65535, i_449838109, nI_add, pk_mul, pk_sub, nI_mm, nI_leI, nI_ltI, nI_eq, pk_div, jrem_N, jshl_N, jshr_N, jushr_N, jmin_N, jmax_N, an_1, an_3, an_7, an_15, an_31, an_63, an_127, an_255, an_1023, an_2047, an_16383, an_65535, nm, pfI, rdI, rdW, rdL, rdI2, rdW2, ldA_N, stA_N, stB_N, stZ_N, pfZ_0, pfZ_1, rtZ_0, rtZ_1, acp_N, Option.bind_some, wp_some_iff, true_and, and_true, false_and, and_false, or_true, true_or, or_false, false_or, not_true_eq_false, not_false_eq_true, if_true, if_false, if_pos, if_neg, lt_sub, le_sub, sub_lt3, sub_le3, e13, Bool.false_and, b2n_f]
  · rw [decide_eq_false (fun z => q0 z.1)]
    by_cases q2 : bs.length = 13
    · simp (disch := omega) only [i_0, i_1, i_2, i_3, i_4, i_5, i_6, i_7, i_8, i_9, i_10, i_11, i_12, i_13, i_14, i_15, i_16, i_17, i_18, i_19, i_20, i_21, i_22, i_23, i_24, i_25, i_26, i_27, i_31, i_32, i_40, i_42, i_45, i_48, i_51, i_52, i_56, i_58, i_59, i_60, i_61, i_62, i_63, i_64, i_85, i_90, i_100, i_112, i_120, i_121, i_127, i_128, i_130, i_144, i_171, i_192, i_193, i_197, i_200, i_207, i_235, i_240, i_248, i_252, i_254, i_255, i_256, i_512, i_544, i_768, i_769, i_793, i_1000, i_1023, i_1024, i_1200, i_1538, i_1541, i_1545, i_2046, i_2047, i_2049, i_2060, i_2736, i_2737, i_2817, i_2818, i_2819, i_2820, i_2821, i_2831, i_2832, i_3077, i_3085, i_3843, i_3849, i_3851, i_3852, i_4129, i_4353, i_4865, i_5121, i_5122, i_5123, i_6156, i_8192, i_12288, i_16383, i_32000, i_33280, i_49152, i_53247, i_60304, i_64000, i_64512, i_65521, i_65535, i_449838109, nI_add, pk_mul, pk_sub, nI_mm, nI_leI, nI_ltI, nI_eq, pk_div, jrem_N, jshl_N, jshr_N, jushr_N, jmin_N, jmax_N, an_1, an_3, an_7, an_15, an_31, an_63, an_127, an_255, an_1023, an_2047, an_16383, an_65535, nm, pfI, rdI, rdW, rdL, rdI2, rdW2, ldA_N, stA_N, stB_N, stZ_N, pfZ_0, pfZ_1, rtZ_0, rtZ_1, acp_N, Option.bind_some, wp_some_iff, true_and, and_true, false_and, and_false, or_true, true_or, or_false, false_or, not_true_eq_false, not_false_eq_true, if_true, if_false, if_pos, if_neg, lt_sub, le_sub, sub_lt3, sub_le3, Bool.false_and, b2n_f]
    · simp (disch := omega) only [i_0, i_1, i_2, i_3, i_4, i_5, i_6, i_7, i_8, i_9, i_10, i_11, i_12, i_13, i_14, i_15, i_16, i_17, i_18, i_19, i_20, i_21, i_22, i_23, i_24, i_25, i_26, i_27, i_31, i_32, i_40, i_42, i_45, i_48, i_51, i_52, i_56, i_58, i_59, i_60, i_61, i_62, i_63, i_64, i_85, i_90, i_100, i_112, i_120, i_121, i_127, i_128, i_130, i_144, i_171, i_192, i_193, i_197, i_200, i_207, i_235, i_240, i_248, i_252, i_254, i_255, i_256, i_512, i_544, i_768, i_769, i_793, i_1000, i_1023, i_1024, i_1200, i_1538, i_1541, i_1545, i_2046, i_2047, i_2049, i_2060, i_2736, i_2737, i_2817, i_2818, i_2819, i_2820, i_2821, i_2831, i_2832, i_3077, i_3085, i_3843, i_3849, i_3851, i_3852, i_4129, i_4353, i_4865, i_5121, i_5122, i_5123, i_6156, i_8192, i_12288, i_16383, i_32000, i_33280, i_49152, i_53247, i_60304, i_64000, i_64512, i_65521, i_65535, i_449838109, nI_add, pk_mul, pk_sub, nI_mm, nI_leI, nI_ltI, nI_eq, pk_div, jrem_N, jshl_N, jshr_N, jushr_N, jmin_N, jmax_N, an_1, an_3, an_7, an_15, an_31, an_63, an_127, an_255, an_1023, an_2047, an_16383, an_65535, nm, pfI, rdI, rdW, rdL, rdI2, rdW2, ldA_N, stA_N, stB_N, stZ_N, pfZ_0, pfZ_1, rtZ_0, rtZ_1, acp_N, Option.bind_some, wp_some_iff, true_and, and_true, false_and, and_false, or_true, true_or, or_false, false_or, not_true_eq_false, not_false_eq_true, if_true, if_false, if_pos, if_neg, lt_sub, le_sub, sub_lt3, sub_le3, Bool.false_and, b2n_f]
theorem isD_8 {μ : Mem} {bs : List Nat} {s0 : Int32} (h : Seg μ 140 0 bs) (h1 : 13 ≤ bs.length) (h2 : bs.length ≤ 60) (hs : bs.length ≠ 13 → s0 = nI (bs.getD 11 0)) : c315_19 (nI 6) (nI 5) (nI (bs.length - 13)) s0 μ = some (μ, nI (b2n (fit 8 bs))) := by
  have g := gl_140
  have b11 := h.get 11
  unfold c315_19
  rw [nm, show (256 : Int32) * nI 6 + nI 5 = nI 1541 by decide]
  refine ite_no (show ¬ nI 1541 = (769 : Int32) by decide) ?_
  refine ite_no (show ¬ nI 1541 = (1538 : Int32) by decide) ?_
  refine ite_yes (show nI 1541 = (1541 : Int32) by decide) ?_
  have bD := h.get 13

  rw [show fit 8 bs = (decide (3 + 13 ≤ bs.length ∧ 1 ≤ bs.getD 13 0 ∧ bs.getD 13 0 ≤ 64 ∧ bs.length = 3 + 13 + bs.getD 13 0 * 0) && true) from rfl]
  by_cases q0 : 3 + 13 ≤ bs.length
  · have e13 := h.z (i := 13) (by omega)
    by_cases q : 3 + 13 ≤ bs.length ∧ 1 ≤ bs.getD 13 0 ∧ bs.getD 13 0 ≤ 64 ∧ bs.length = 3 + 13 + bs.getD 13 0 * 0
    · rw [decide_eq_true q]
      simp (disch := omega) only [i_0, i_1, i_2, i_3, i_4, i_5, i_6, i_7, i_8, i_9, i_10, i_11, i_12, i_13, i_14, i_15, i_16, i_17, i_18, i_19, i_20, i_21, i_22, i_23, i_24, i_25, i_26, i_27, i_31, i_32, i_40, i_42, i_45, i_48, i_51, i_52, i_56, i_58, i_59, i_60, i_61, i_62, i_63, i_64, i_85, i_90, i_100, i_112, i_120, i_121, i_127, i_128, i_130, i_144, i_171, i_192, i_193, i_197, i_200, i_207, i_235, i_240, i_248, i_252, i_254, i_255, i_256, i_512, i_544, i_768, i_769, i_793, i_1000, i_1023, i_1024, i_1200, i_1538, i_1541, i_1545, i_2046, i_2047, i_2049, i_2060, i_2736, i_2737, i_2817, i_2818, i_2819, i_2820, i_2821, i_2831, i_2832, i_3077, i_3085, i_3843, i_3849, i_3851, i_3852, i_4129, i_4353, i_4865, i_5121, i_5122, i_5123, i_6156, i_8192, i_12288, i_16383, i_32000, i_33280, i_49152, i_53247, i_60304, i_64000, i_64512, i_65521, i_65535, i_449838109, nI_add, pk_mul, pk_sub, nI_mm, nI_leI, nI_ltI, nI_eq, pk_div, jrem_N, jshl_N, jshr_N, jushr_N, jmin_N, jmax_N, an_1, an_3, an_7, an_15, an_31, an_63, an_127, an_255, an_1023, an_2047, an_16383, an_65535, nm, pfI, rdI, rdW, rdL, rdI2, rdW2, ldA_N, stA_N, stB_N, stZ_N, pfZ_0, pfZ_1, rtZ_0, rtZ_1, acp_N, Option.bind_some, wp_some_iff, true_and, and_true, false_and, and_false, or_true, true_or, or_false, false_or, not_true_eq_false, not_false_eq_true, if_true, if_false, if_pos, if_neg, lt_sub, le_sub, sub_lt3, sub_le3, e13, Bool.and_self, b2n_t]
    · rw [decide_eq_false q]
      by_cases q1 : 1 ≤ bs.getD 13 0
      · by_cases q3 : bs.getD 13 0 ≤ 64
        · by_cases q4 : bs.length = 16
          · simp (disch := omega) only [i_0, i_1, i_2, i_3, i_4, i_5, i_6, i_7, i_8, i_9, i_10, i_11, i_12, i_13, i_14, i_15, i_16, i_17, i_18, i_19, i_20, i_21, i_22, i_23, i_24, i_25, i_26, i_27, i_31, i_32, i_40, i_42, i_45, i_48, i_51, i_52, i_56, i_58, i_59, i_60, i_61, i_62, i_63, i_64, i_85, i_90, i_100, i_112, i_120, i_121, i_127, i_128, i_130, i_144, i_171, i_192, i_193, i_197, i_200, i_207, i_235, i_240, i_248, i_252, i_254, i_255, i_256, i_512, i_544, i_768, i_769, i_793, i_1000, i_1023, i_1024, i_1200, i_1538, i_1541, i_1545, i_2046, i_2047, i_2049, i_2060, i_2736, i_2737, i_2817, i_2818, i_2819, i_2820, i_2821, i_2831, i_2832, i_3077, i_3085, i_3843, i_3849, i_3851, i_3852, i_4129, i_4353, i_4865, i_5121, i_5122, i_5123, i_6156, i_8192, i_12288, i_16383, i_32000, i_33280, i_49152, i_53247, i_60304, i_64000, i_64512, i_65521, i_65535, i_449838109, nI_add, pk_mul, pk_sub, nI_mm, nI_leI, nI_ltI, nI_eq, pk_div, jrem_N, jshl_N, jshr_N, jushr_N, jmin_N, jmax_N, an_1, an_3, an_7, an_15, an_31, an_63, an_127, an_255, an_1023, an_2047, an_16383, an_65535, nm, pfI, rdI, rdW, rdL, rdI2, rdW2, ldA_N, stA_N, stB_N, stZ_N, pfZ_0, pfZ_1, rtZ_0, rtZ_1, acp_N, Option.bind_some, wp_some_iff, true_and, and_true, false_and, and_false, or_true, true_or, or_false, false_or, not_true_eq_false, not_false_eq_true, if_true, if_false, if_pos, if_neg, lt_sub, le_sub, sub_lt3, sub_le3, e13, Bool.false_and, b2n_f]
          · simp (disch := omega) only [i_0, i_1, i_2, i_3, i_4, i_5, i_6, i_7, i_8, i_9, i_10, i_11, i_12, i_13, i_14, i_15, i_16, i_17, i_18, i_19, i_20, i_21, i_22, i_23, i_24, i_25, i_26, i_27, i_31, i_32, i_40, i_42, i_45, i_48, i_51, i_52, i_56, i_58, i_59, i_60, i_61, i_62, i_63, i_64, i_85, i_90, i_100, i_112, i_120, i_121, i_127, i_128, i_130, i_144, i_171, i_192, i_193, i_197, i_200, i_207, i_235, i_240, i_248, i_252, i_254, i_255, i_256, i_512, i_544, i_768, i_769, i_793, i_1000, i_1023, i_1024, i_1200, i_1538, i_1541, i_1545, i_2046, i_2047, i_2049, i_2060, i_2736, i_2737, i_2817, i_2818, i_2819, i_2820, i_2821, i_2831, i_2832, i_3077, i_3085, i_3843, i_3849, i_3851, i_3852, i_4129, i_4353, i_4865, i_5121, i_5122, i_5123, i_6156, i_8192, i_12288, i_16383, i_32000, i_33280, i_49152, i_53247, i_60304, i_64000, i_64512, i_65521, i_65535, i_449838109, nI_add, pk_mul, pk_sub, nI_mm, nI_leI, nI_ltI, nI_eq, pk_div, jrem_N, jshl_N, jshr_N, jushr_N, jmin_N, jmax_N, an_1, an_3, an_7, an_15, an_31, an_63, an_127, an_255, an_1023, an_2047, an_16383, an_65535, nm, pfI, rdI, rdW, rdL, rdI2, rdW2, ldA_N, stA_N, stB_N, stZ_N, pfZ_0, pfZ_1, rtZ_0, rtZ_1, acp_N, Option.bind_some, wp_some_iff, true_and, and_true, false_and, and_false, or_true, true_or, or_false, false_or, not_true_eq_false, not_false_eq_true, if_true, if_false, if_pos, if_neg, lt_sub, le_sub, sub_lt3, sub_le3, e13, Bool.false_and, b2n_f]
        · by_cases q4 : bs.length = 16
          · simp (disch := omega) only [i_0, i_1, i_2, i_3, i_4, i_5, i_6, i_7, i_8, i_9, i_10, i_11, i_12, i_13, i_14, i_15, i_16, i_17, i_18, i_19, i_20, i_21, i_22, i_23, i_24, i_25, i_26, i_27, i_31, i_32, i_40, i_42, i_45, i_48, i_51, i_52, i_56, i_58, i_59, i_60, i_61, i_62, i_63, i_64, i_85, i_90, i_100, i_112, i_120, i_121, i_127, i_128, i_130, i_144, i_171, i_192, i_193, i_197, i_200, i_207, i_235, i_240, i_248, i_252, i_254, i_255, i_256, i_512, i_544, i_768, i_769, i_793, i_1000, i_1023, i_1024, i_1200, i_1538, i_1541, i_1545, i_2046, i_2047, i_2049, i_2060, i_2736, i_2737, i_2817, i_2818, i_2819, i_2820, i_2821, i_2831, i_2832, i_3077, i_3085, i_3843, i_3849, i_3851, i_3852, i_4129, i_4353, i_4865, i_5121, i_5122, i_5123, i_6156, i_8192, i_12288, i_16383, i_32000, i_33280, i_49152, i_53247, i_60304, i_64000, i_64512, i_65521, i_65535, i_449838109, nI_add, pk_mul, pk_sub, nI_mm, nI_leI, nI_ltI, nI_eq, pk_div, jrem_N, jshl_N, jshr_N, jushr_N, jmin_N, jmax_N, an_1, an_3, an_7, an_15, an_31, an_63, an_127, an_255, an_1023, an_2047, an_16383, an_65535, nm, pfI, rdI, rdW, rdL, rdI2, rdW2, ldA_N, stA_N, stB_N, stZ_N, pfZ_0, pfZ_1, rtZ_0, rtZ_1, acp_N, Option.bind_some, wp_some_iff, true_and, and_true, false_and, and_false, or_true, true_or, or_false, false_or, not_true_eq_false, not_false_eq_true, if_true, if_false, if_pos, if_neg, lt_sub, le_sub, sub_lt3, sub_le3, e13, Bool.false_and, b2n_f]
          · simp (disch := omega) only [i_0, i_1, i_2, i_3, i_4, i_5, i_6, i_7, i_8, i_9, i_10, i_11, i_12, i_13, i_14, i_15, i_16, i_17, i_18, i_19, i_20, i_21, i_22, i_23, i_24, i_25, i_26, i_27, i_31, i_32, i_40, i_42, i_45, i_48, i_51, i_52, i_56, i_58, i_59, i_60, i_61, i_62, i_63, i_64, i_85, i_90, i_100, i_112, i_120, i_121, i_127, i_128, i_130, i_144, i_171, i_192, i_193, i_197, i_200, i_207, i_235, i_240, i_248, i_252, i_254, i_255, i_256, i_512, i_544, i_768, i_769, i_793, i_1000, i_1023, i_1024, i_1200, i_1538, i_1541, i_1545, i_2046, i_2047, i_2049, i_2060, i_2736, i_2737, i_2817, i_2818, i_2819, i_2820, i_2821, i_2831, i_2832, i_3077, i_3085, i_3843, i_3849, i_3851, i_3852, i_4129, i_4353, i_4865, i_5121, i_5122, i_5123, i_6156, i_8192, i_12288, i_16383, i_32000, i_33280, i_49152, i_53247, i_60304, i_64000, i_64512, i_65521, i_65535, i_449838109, nI_add, pk_mul, pk_sub, nI_mm, nI_leI, nI_ltI, nI_eq, pk_div, jrem_N, jshl_N, jshr_N, jushr_N, jmin_N, jmax_N, an_1, an_3, an_7, an_15, an_31, an_63, an_127, an_255, an_1023, an_2047, an_16383, an_65535, nm, pfI, rdI, rdW, rdL, rdI2, rdW2, ldA_N, stA_N, stB_N, stZ_N, pfZ_0, pfZ_1, rtZ_0, rtZ_1, acp_N, Option.bind_some, wp_some_iff, true_and, and_true, false_and, and_false, or_true, true_or, or_false, false_or, not_true_eq_false, not_false_eq_true, if_true, if_false, if_pos, if_neg, lt_sub, le_sub, sub_lt3, sub_le3, e13, Bool.false_and, b2n_f]
      · by_cases q4 : bs.length = 16
        · simp (disch := omega) only [i_0, i_1, i_2, i_3, i_4, i_5, i_6, i_7, i_8, i_9, i_10, i_11, i_12, i_13, i_14, i_15, i_16, i_17, i_18, i_19, i_20, i_21, i_22, i_23, i_24, i_25, i_26, i_27, i_31, i_32, i_40, i_42, i_45, i_48, i_51, i_52, i_56, i_58, i_59, i_60, i_61, i_62, i_63, i_64, i_85, i_90, i_100, i_112, i_120, i_121, i_127, i_128, i_130, i_144, i_171, i_192, i_193, i_197, i_200, i_207, i_235, i_240, i_248, i_252, i_254, i_255, i_256, i_512, i_544, i_768, i_769, i_793, i_1000, i_1023, i_1024, i_1200, i_1538, i_1541, i_1545, i_2046, i_2047, i_2049, i_2060, i_2736, i_2737, i_2817, i_2818, i_2819, i_2820, i_2821, i_2831, i_2832, i_3077, i_3085, i_3843, i_3849, i_3851, i_3852, i_4129, i_4353, i_4865, i_5121, i_5122, i_5123, i_6156, i_8192, i_12288, i_16383, i_32000, i_33280, i_49152, i_53247, i_60304, i_64000, i_64512, i_65521, i_65535, i_449838109, nI_add, pk_mul, pk_sub, nI_mm, nI_leI, nI_ltI, nI_eq, pk_div, jrem_N, jshl_N, jshr_N, jushr_N, jmin_N, jmax_N, an_1, an_3, an_7, an_15, an_31, an_63, an_127, an_255, an_1023, an_2047, an_16383, an_65535, nm, pfI, rdI, rdW, rdL, rdI2, rdW2, ldA_N, stA_N, stB_N, stZ_N, pfZ_0, pfZ_1, rtZ_0, rtZ_1, acp_N, Option.bind_some, wp_some_iff, true_and, and_true, false_and, and_false, or_true, true_or, or_false, false_or, not_true_eq_false, not_false_eq_true, if_true, if_false, if_pos, if_neg, lt_sub, le_sub, sub_lt3, sub_le3, e13, Bool.false_and, b2n_f]
        · simp (disch := omega) only [i_0, i_1, i_2, i_3, i_4, i_5, i_6, i_7, i_8, i_9, i_10, i_11, i_12, i_13, i_14, i_15, i_16, i_17, i_18, i_19, i_20, i_21, i_22, i_23, i_24, i_25, i_26, i_27, i_31, i_32, i_40, i_42, i_45, i_48, i_51, i_52, i_56, i_58, i_59, i_60, i_61, i_62, i_63, i_64, i_85, i_90, i_100, i_112, i_120, i_121, i_127, i_128, i_130, i_144, i_171, i_192, i_193, i_197, i_200, i_207, i_235, i_240, i_248, i_252, i_254, i_255, i_256, i_512, i_544, i_768, i_769, i_793, i_1000, i_1023, i_1024, i_1200, i_1538, i_1541, i_1545, i_2046, i_2047, i_2049, i_2060, i_2736, i_2737, i_2817, i_2818, i_2819, i_2820, i_2821, i_2831, i_2832, i_3077, i_3085, i_3843, i_3849, i_3851, i_3852, i_4129, i_4353, i_4865, i_5121, i_5122, i_5123, i_6156, i_8192, i_12288, i_16383, i_32000, i_33280, i_49152, i_53247, i_60304, i_64000, i_64512, i_65521, i_65535, i_449838109, nI_add, pk_mul, pk_sub, nI_mm, nI_leI, nI_ltI, nI_eq, pk_div, jrem_N, jshl_N, jshr_N, jushr_N, jmin_N, jmax_N, an_1, an_3, an_7, an_15, an_31, an_63, an_127, an_255, an_1023, an_2047, an_16383, an_65535, nm, pfI, rdI, rdW, rdL, rdI2, rdW2, ldA_N, stA_N, stB_N, stZ_N, pfZ_0, pfZ_1, rtZ_0, rtZ_1, acp_N, Option.bind_some, wp_some_iff, true_and, and_true, false_and, and_false, or_true, true_or, or_false, false_or, not_true_eq_false, not_false_eq_true, if_true, if_false, if_pos, if_neg, lt_sub, le_sub, sub_lt3, sub_le3, e13, Bool.false_and, b2n_f]
  · rw [decide_eq_false (fun z => q0 z.1)]
    by_cases q2 : bs.length = 13
    · simp (disch := omega) only [i_0, i_1, i_2, i_3, i_4, i_5, i_6, i_7, i_8, i_9, i_10, i_11, i_12, i_13, i_14, i_15, i_16, i_17, i_18, i_19, i_20, i_21, i_22, i_23, i_24, i_25, i_26, i_27, i_31, i_32, i_40, i_42, i_45, i_48, i_51, i_52, i_56, i_58, i_59, i_60, i_61, i_62, i_63, i_64, i_85, i_90, i_100, i_112, i_120, i_121, i_127, i_128, i_130, i_144, i_171, i_192, i_193, i_197, i_200, i_207, i_235, i_240, i_248, i_252, i_254, i_255, i_256, i_512, i_544, i_768, i_769, i_793, i_1000, i_1023, i_1024, i_1200, i_1538, i_1541, i_1545, i_2046, i_2047, i_2049, i_2060, i_2736, i_2737, i_2817, i_2818, i_2819, i_2820, i_2821, i_2831, i_2832, i_3077, i_3085, i_3843, i_3849, i_3851, i_3852, i_4129, i_4353, i_4865, i_5121, i_5122, i_5123, i_6156, i_8192, i_12288, i_16383, i_32000, i_33280, i_49152, i_53247, i_60304, i_64000, i_64512, i_65521, i_65535, i_449838109, nI_add, pk_mul, pk_sub, nI_mm, nI_leI, nI_ltI, nI_eq, pk_div, jrem_N, jshl_N, jshr_N, jushr_N, jmin_N, jmax_N, an_1, an_3, an_7, an_15, an_31, an_63, an_127, an_255, an_1023, an_2047, an_16383, an_65535, nm, pfI, rdI, rdW, rdL, rdI2, rdW2, ldA_N, stA_N, stB_N, stZ_N, pfZ_0, pfZ_1, rtZ_0, rtZ_1, acp_N, Option.bind_some, wp_some_iff, true_and, and_true, false_and, and_false, or_true, true_or, or_false, false_or, not_true_eq_false, not_false_eq_true, if_true, if_false, if_pos, if_neg, lt_sub, le_sub, sub_lt3, sub_le3, Bool.false_and, b2n_f]
    · simp (disch := omega) only [i_0, i_1, i_2, i_3, i_4, i_5, i_6, i_7, i_8, i_9, i_10, i_11, i_12, i_13, i_14, i_15, i_16, i_17, i_18, i_19, i_20, i_21, i_22, i_23, i_24, i_25, i_26, i_27, i_31, i_32, i_40, i_42, i_45, i_48, i_51, i_52, i_56, i_58, i_59, i_60, i_61, i_62, i_63, i_64, i_85, i_90, i_100, i_112, i_120, i_121, i_127, i_128, i_130, i_144, i_171, i_192, i_193, i_197, i_200, i_207, i_235, i_240, i_248, i_252, i_254, i_255, i_256, i_512, i_544, i_768, i_769, i_793, i_1000, i_1023, i_1024, i_1200, i_1538, i_1541, i_1545, i_2046, i_2047, i_2049, i_2060, i_2736, i_2737, i_2817, i_2818, i_2819, i_2820, i_2821, i_2831, i_2832, i_3077, i_3085, i_3843, i_3849, i_3851, i_3852, i_4129, i_4353, i_4865, i_5121, i_5122, i_5123, i_6156, i_8192, i_12288, i_16383, i_32000, i_33280, i_49152, i_53247, i_60304, i_64000, i_64512, i_65521, i_65535, i_449838109, nI_add, pk_mul, pk_sub, nI_mm, nI_leI, nI_ltI, nI_eq, pk_div, jrem_N, jshl_N, jshr_N, jushr_N, jmin_N, jmax_N, an_1, an_3, an_7, an_15, an_31, an_63, an_127, an_255, an_1023, an_2047, an_16383, an_65535, nm, pfI, rdI, rdW, rdL, rdI2, rdW2, ldA_N, stA_N, stB_N, stZ_N, pfZ_0, pfZ_1, rtZ_0, rtZ_1, acp_N, Option.bind_some, wp_some_iff, true_and, and_true, false_and, and_false, or_true, true_or, or_false, false_or, not_true_eq_false, not_false_eq_true, if_true, if_false, if_pos, if_neg, lt_sub, le_sub, sub_lt3, sub_le3, Bool.false_and, b2n_f]
theorem isD_9 {μ : Mem} {bs : List Nat} {s0 : Int32} (h : Seg μ 140 0 bs) (h1 : 13 ≤ bs.length) (h2 : bs.length ≤ 60) (hs : bs.length ≠ 13 → s0 = nI (bs.getD 11 0)) : c315_19 (nI 6) (nI 9) (nI (bs.length - 13)) s0 μ = some (μ, nI (b2n (fit 9 bs))) := by
  have g := gl_140
  have b11 := h.get 11
  unfold c315_19
  rw [nm, show (256 : Int32) * nI 6 + nI 9 = nI 1545 by decide]
  refine ite_no (show ¬ nI 1545 = (769 : Int32) by decide) ?_
  refine ite_no (show ¬ nI 1545 = (1538 : Int32) by decide) ?_
  refine ite_no (show ¬ nI 1545 = (1541 : Int32) by decide) ?_
  refine ite_yes (show nI 1545 = (1545 : Int32) by decide) ?_
  have b13 := h.get 13
  have b14 := h.get 14
  rw [show fit 9 bs = (decide (bs.length = 4 + 13) && decide (1 ≤ w2 bs 13)) from rfl]
  by_cases q : bs.length = 17
  · have e13 := word_M h (i := 13) (by omega) (by omega)
    rw [Nat.zero_add] at e13
    have hb : w2 bs 13 < 65536 := by unfold w2; have := h.get (13 + 1); omega
    simp (disch := omega) only [i_0, i_1, i_2, i_3, i_4, i_5, i_6, i_7, i_8, i_9, i_10, i_11, i_12, i_13, i_14, i_15, i_16, i_17, i_18, i_19, i_20, i_21, i_22, i_23, i_24, i_25, i_26, i_27, i_31, i_32, i_40, i_42, i_45, i_48, i_51, i_52, i_56, i_58, i_59, i_60, i_61, i_62, i_63, i_64, i_85, i_90, i_100, i_112, i_120, i_121, i_127, i_128, i_130, i_144, i_171, i_192, i_193, i_197, i_200, i_207, i_235, i_240, i_248, i_252, i_254, i_255, i_256, i_512, i_544, i_768, i_769, i_793, i_1000, i_1023, i_1024, i_1200, i_1538, i_1541, i_1545, i_2046, i_2047, i_2049, i_2060, i_2736, i_2737, i_2817, i_2818, i_2819, i_2820, i_2821, i_2831, i_2832, i_3077, i_3085, i_3843, i_3849, i_3851, i_3852, i_4129, i_4353, i_4865, i_5121, i_5122, i_5123, i_6156, i_8192, i_12288, i_16383, i_32000, i_33280, i_49152, i_53247, i_60304, i_64000, i_64512, i_65521, i_65535, i_449838109, nI_add, pk_mul, pk_sub, nI_mm, nI_leI, nI_ltI, nI_eq, pk_div, jrem_N, jshl_N, jshr_N, jushr_N, jmin_N, jmax_N, an_1, an_3, an_7, an_15, an_31, an_63, an_127, an_255, an_1023, an_2047, an_16383, an_65535, nm, pfI, rdI, rdW, rdL, rdI2, rdW2, ldA_N, stA_N, stB_N, stZ_N, pfZ_0, pfZ_1, rtZ_0, rtZ_1, acp_N, Option.bind_some, wp_some_iff, true_and, and_true, false_and, and_false, or_true, true_or, or_false, false_or, not_true_eq_false, not_false_eq_true, if_true, if_false, if_pos, if_neg, lt_sub, le_sub, sub_lt3, sub_le3, e13]
    rw [decide_eq_true (show bs.length = 4 + 13 from q)]
    by_cases z : 1 ≤ w2 bs 13
    · rw [if_neg (by omega), decide_eq_true z]; rfl
    · rw [if_pos (by omega), decide_eq_false z]; rfl
  · rw [decide_eq_false (show ¬ bs.length = 4 + 13 from q)]
    by_cases q2 : bs.length = 13
    · simp (disch := omega) only [i_0, i_1, i_2, i_3, i_4, i_5, i_6, i_7, i_8, i_9, i_10, i_11, i_12, i_13, i_14, i_15, i_16, i_17, i_18, i_19, i_20, i_21, i_22, i_23, i_24, i_25, i_26, i_27, i_31, i_32, i_40, i_42, i_45, i_48, i_51, i_52, i_56, i_58, i_59, i_60, i_61, i_62, i_63, i_64, i_85, i_90, i_100, i_112, i_120, i_121, i_127, i_128, i_130, i_144, i_171, i_192, i_193, i_197, i_200, i_207, i_235, i_240, i_248, i_252, i_254, i_255, i_256, i_512, i_544, i_768, i_769, i_793, i_1000, i_1023, i_1024, i_1200, i_1538, i_1541, i_1545, i_2046, i_2047, i_2049, i_2060, i_2736, i_2737, i_2817, i_2818, i_2819, i_2820, i_2821, i_2831, i_2832, i_3077, i_3085, i_3843, i_3849, i_3851, i_3852, i_4129, i_4353, i_4865, i_5121, i_5122, i_5123, i_6156, i_8192, i_12288, i_16383, i_32000, i_33280, i_49152, i_53247, i_60304, i_64000, i_64512, i_65521, i_65535, i_449838109, nI_add, pk_mul, pk_sub, nI_mm, nI_leI, nI_ltI, nI_eq, pk_div, jrem_N, jshl_N, jshr_N, jushr_N, jmin_N, jmax_N, an_1, an_3, an_7, an_15, an_31, an_63, an_127, an_255, an_1023, an_2047, an_16383, an_65535, nm, pfI, rdI, rdW, rdL, rdI2, rdW2, ldA_N, stA_N, stB_N, stZ_N, pfZ_0, pfZ_1, rtZ_0, rtZ_1, acp_N, Option.bind_some, wp_some_iff, true_and, and_true, false_and, and_false, or_true, true_or, or_false, false_or, not_true_eq_false, not_false_eq_true, if_true, if_false, if_pos, if_neg, lt_sub, le_sub, sub_lt3, sub_le3, Bool.false_and, b2n_f]
    · simp (disch := omega) only [i_0, i_1, i_2, i_3, i_4, i_5, i_6, i_7, i_8, i_9, i_10, i_11, i_12, i_13, i_14, i_15, i_16, i_17, i_18, i_19, i_20, i_21, i_22, i_23, i_24, i_25, i_26, i_27, i_31, i_32, i_40, i_42, i_45, i_48, i_51, i_52, i_56, i_58, i_59, i_60, i_61, i_62, i_63, i_64, i_85, i_90, i_100, i_112, i_120, i_121, i_127, i_128, i_130, i_144, i_171, i_192, i_193, i_197, i_200, i_207, i_235, i_240, i_248, i_252, i_254, i_255, i_256, i_512, i_544, i_768, i_769, i_793, i_1000, i_1023, i_1024, i_1200, i_1538, i_1541, i_1545, i_2046, i_2047, i_2049, i_2060, i_2736, i_2737, i_2817, i_2818, i_2819, i_2820, i_2821, i_2831, i_2832, i_3077, i_3085, i_3843, i_3849, i_3851, i_3852, i_4129, i_4353, i_4865, i_5121, i_5122, i_5123, i_6156, i_8192, i_12288, i_16383, i_32000, i_33280, i_49152, i_53247, i_60304, i_64000, i_64512, i_65521, i_65535, i_449838109, nI_add, pk_mul, pk_sub, nI_mm, nI_leI, nI_ltI, nI_eq, pk_div, jrem_N, jshl_N, jshr_N, jushr_N, jmin_N, jmax_N, an_1, an_3, an_7, an_15, an_31, an_63, an_127, an_255, an_1023, an_2047, an_16383, an_65535, nm, pfI, rdI, rdW, rdL, rdI2, rdW2, ldA_N, stA_N, stB_N, stZ_N, pfZ_0, pfZ_1, rtZ_0, rtZ_1, acp_N, Option.bind_some, wp_some_iff, true_and, and_true, false_and, and_false, or_true, true_or, or_false, false_or, not_true_eq_false, not_false_eq_true, if_true, if_false, if_pos, if_neg, lt_sub, le_sub, sub_lt3, sub_le3, Bool.false_and, b2n_f]
theorem isD_10 {μ : Mem} {bs : List Nat} {s0 : Int32} (h : Seg μ 140 0 bs) (h1 : 13 ≤ bs.length) (h2 : bs.length ≤ 60) (hs : bs.length ≠ 13 → s0 = nI (bs.getD 11 0)) : c315_19 (nI 8) (nI 1) (nI (bs.length - 13)) s0 μ = some (μ, nI (b2n (fit 10 bs))) := by
  have g := gl_140
  have b11 := h.get 11
  unfold c315_19
  rw [nm, show (256 : Int32) * nI 8 + nI 1 = nI 2049 by decide]
  refine ite_no (show ¬ nI 2049 = (769 : Int32) by decide) ?_
  refine ite_no (show ¬ nI 2049 = (1538 : Int32) by decide) ?_
  refine ite_no (show ¬ nI 2049 = (1541 : Int32) by decide) ?_
  refine ite_no (show ¬ nI 2049 = (1545 : Int32) by decide) ?_
  refine ite_yes (show nI 2049 = (2049 : Int32) by decide) ?_
  rw [fitN rfl rfl, show lnc 10 = 5 from rfl]
  by_cases q : bs.length = 5 + 13
  · rw [decide_eq_true q]
    simp (disch := omega) only [i_0, i_1, i_2, i_3, i_4, i_5, i_6, i_7, i_8, i_9, i_10, i_11, i_12, i_13, i_14, i_15, i_16, i_17, i_18, i_19, i_20, i_21, i_22, i_23, i_24, i_25, i_26, i_27, i_31, i_32, i_40, i_42, i_45, i_48, i_51, i_52, i_56, i_58, i_59, i_60, i_61, i_62, i_63, i_64, i_85, i_90, i_100, i_112, i_120, i_121, i_127, i_128, i_130, i_144, i_171, i_192, i_193, i_197, i_200, i_207, i_235, i_240, i_248, i_252, i_254, i_255, i_256, i_512, i_544, i_768, i_769, i_793, i_1000, i_1023, i_1024, i_1200, i_1538, i_1541, i_1545, i_2046, i_2047, i_2049, i_2060, i_2736, i_2737, i_2817, i_2818, i_2819, i_2820, i_2821, i_2831, i_2832, i_3077, i_3085, i_3843, i_3849, i_3851, i_3852, i_4129, i_4353, i_4865, i_5121, i_5122, i_5123, i_6156, i_8192, i_12288, i_16383, i_32000, i_33280, i_49152, i_53247, i_60304, i_64000, i_64512, i_65521, i_65535, i_449838109, nI_add, pk_mul, pk_sub, nI_mm, nI_leI, nI_ltI, nI_eq, pk_div, jrem_N, jshl_N, jshr_N, jushr_N, jmin_N, jmax_N, an_1, an_3, an_7, an_15, an_31, an_63, an_127, an_255, an_1023, an_2047, an_16383, an_65535, nm, pfI, rdI, rdW, rdL, rdI2, rdW2, ldA_N, stA_N, stB_N, stZ_N, pfZ_0, pfZ_1, rtZ_0, rtZ_1, acp_N, Option.bind_some, wp_some_iff, true_and, and_true, false_and, and_false, or_true, true_or, or_false, false_or, not_true_eq_false, not_false_eq_true, if_true, if_false, if_pos, if_neg, lt_sub, le_sub, sub_lt3, sub_le3, b2n_t]
  · rw [decide_eq_false q]
    simp (disch := omega) only [i_0, i_1, i_2, i_3, i_4, i_5, i_6, i_7, i_8, i_9, i_10, i_11, i_12, i_13, i_14, i_15, i_16, i_17, i_18, i_19, i_20, i_21, i_22, i_23, i_24, i_25, i_26, i_27, i_31, i_32, i_40, i_42, i_45, i_48, i_51, i_52, i_56, i_58, i_59, i_60, i_61, i_62, i_63, i_64, i_85, i_90, i_100, i_112, i_120, i_121, i_127, i_128, i_130, i_144, i_171, i_192, i_193, i_197, i_200, i_207, i_235, i_240, i_248, i_252, i_254, i_255, i_256, i_512, i_544, i_768, i_769, i_793, i_1000, i_1023, i_1024, i_1200, i_1538, i_1541, i_1545, i_2046, i_2047, i_2049, i_2060, i_2736, i_2737, i_2817, i_2818, i_2819, i_2820, i_2821, i_2831, i_2832, i_3077, i_3085, i_3843, i_3849, i_3851, i_3852, i_4129, i_4353, i_4865, i_5121, i_5122, i_5123, i_6156, i_8192, i_12288, i_16383, i_32000, i_33280, i_49152, i_53247, i_60304, i_64000, i_64512, i_65521, i_65535, i_449838109, nI_add, pk_mul, pk_sub, nI_mm, nI_leI, nI_ltI, nI_eq, pk_div, jrem_N, jshl_N, jshr_N, jushr_N, jmin_N, jmax_N, an_1, an_3, an_7, an_15, an_31, an_63, an_127, an_255, an_1023, an_2047, an_16383, an_65535, nm, pfI, rdI, rdW, rdL, rdI2, rdW2, ldA_N, stA_N, stB_N, stZ_N, pfZ_0, pfZ_1, rtZ_0, rtZ_1, acp_N, Option.bind_some, wp_some_iff, true_and, and_true, false_and, and_false, or_true, true_or, or_false, false_or, not_true_eq_false, not_false_eq_true, if_true, if_false, if_pos, if_neg, lt_sub, le_sub, sub_lt3, sub_le3, b2n_f]
theorem isD_11 {μ : Mem} {bs : List Nat} {s0 : Int32} (h : Seg μ 140 0 bs) (h1 : 13 ≤ bs.length) (h2 : bs.length ≤ 60) (hs : bs.length ≠ 13 → s0 = nI (bs.getD 11 0)) : c315_19 (nI 11) (nI 1) (nI (bs.length - 13)) s0 μ = some (μ, nI (b2n (fit 11 bs))) := by
  have g := gl_140
  have b11 := h.get 11
  unfold c315_19
  rw [nm, show (256 : Int32) * nI 11 + nI 1 = nI 2817 by decide]
  refine ite_no (show ¬ nI 2817 = (769 : Int32) by decide) ?_
  refine ite_no (show ¬ nI 2817 = (1538 : Int32) by decide) ?_
  refine ite_no (show ¬ nI 2817 = (1541 : Int32) by decide) ?_
  refine ite_no (show ¬ nI 2817 = (1545 : Int32) by decide) ?_
  refine ite_no (show ¬ nI 2817 = (2049 : Int32) by decide) ?_
  refine ite_yes (show nI 2817 = (2817 : Int32) by decide) ?_
  rw [fitN rfl rfl, show lnc 11 = 0 from rfl]
  by_cases q : bs.length = 0 + 13
  · rw [decide_eq_true q]
    simp (disch := omega) only [i_0, i_1, i_2, i_3, i_4, i_5, i_6, i_7, i_8, i_9, i_10, i_11, i_12, i_13, i_14, i_15, i_16, i_17, i_18, i_19, i_20, i_21, i_22, i_23, i_24, i_25, i_26, i_27, i_31, i_32, i_40, i_42, i_45, i_48, i_51, i_52, i_56, i_58, i_59, i_60, i_61, i_62, i_63, i_64, i_85, i_90, i_100, i_112, i_120, i_121, i_127, i_128, i_130, i_144, i_171, i_192, i_193, i_197, i_200, i_207, i_235, i_240, i_248, i_252, i_254, i_255, i_256, i_512, i_544, i_768, i_769, i_793, i_1000, i_1023, i_1024, i_1200, i_1538, i_1541, i_1545, i_2046, i_2047, i_2049, i_2060, i_2736, i_2737, i_2817, i_2818, i_2819, i_2820, i_2821, i_2831, i_2832, i_3077, i_3085, i_3843, i_3849, i_3851, i_3852, i_4129, i_4353, i_4865, i_5121, i_5122, i_5123, i_6156, i_8192, i_12288, i_16383, i_32000, i_33280, i_49152, i_53247, i_60304, i_64000, i_64512, i_65521, i_65535, i_449838109, nI_add, pk_mul, pk_sub, nI_mm, nI_leI, nI_ltI, nI_eq, pk_div, jrem_N, jshl_N, jshr_N, jushr_N, jmin_N, jmax_N, an_1, an_3, an_7, an_15, an_31, an_63, an_127, an_255, an_1023, an_2047, an_16383, an_65535, nm, pfI, rdI, rdW, rdL, rdI2, rdW2, ldA_N, stA_N, stB_N, stZ_N, pfZ_0, pfZ_1, rtZ_0, rtZ_1, acp_N, Option.bind_some, wp_some_iff, true_and, and_true, false_and, and_false, or_true, true_or, or_false, false_or, not_true_eq_false, not_false_eq_true, if_true, if_false, if_pos, if_neg, lt_sub, le_sub, sub_lt3, sub_le3, b2n_t]
  · rw [decide_eq_false q]
    simp (disch := omega) only [i_0, i_1, i_2, i_3, i_4, i_5, i_6, i_7, i_8, i_9, i_10, i_11, i_12, i_13, i_14, i_15, i_16, i_17, i_18, i_19, i_20, i_21, i_22, i_23, i_24, i_25, i_26, i_27, i_31, i_32, i_40, i_42, i_45, i_48, i_51, i_52, i_56, i_58, i_59, i_60, i_61, i_62, i_63, i_64, i_85, i_90, i_100, i_112, i_120, i_121, i_127, i_128, i_130, i_144, i_171, i_192, i_193, i_197, i_200, i_207, i_235, i_240, i_248, i_252, i_254, i_255, i_256, i_512, i_544, i_768, i_769, i_793, i_1000, i_1023, i_1024, i_1200, i_1538, i_1541, i_1545, i_2046, i_2047, i_2049, i_2060, i_2736, i_2737, i_2817, i_2818, i_2819, i_2820, i_2821, i_2831, i_2832, i_3077, i_3085, i_3843, i_3849, i_3851, i_3852, i_4129, i_4353, i_4865, i_5121, i_5122, i_5123, i_6156, i_8192, i_12288, i_16383, i_32000, i_33280, i_49152, i_53247, i_60304, i_64000, i_64512, i_65521, i_65535, i_449838109, nI_add, pk_mul, pk_sub, nI_mm, nI_leI, nI_ltI, nI_eq, pk_div, jrem_N, jshl_N, jshr_N, jushr_N, jmin_N, jmax_N, an_1, an_3, an_7, an_15, an_31, an_63, an_127, an_255, an_1023, an_2047, an_16383, an_65535, nm, pfI, rdI, rdW, rdL, rdI2, rdW2, ldA_N, stA_N, stB_N, stZ_N, pfZ_0, pfZ_1, rtZ_0, rtZ_1, acp_N, Option.bind_some, wp_some_iff, true_and, and_true, false_and, and_false, or_true, true_or, or_false, false_or, not_true_eq_false, not_false_eq_true, if_true, if_false, if_pos, if_neg, lt_sub, le_sub, sub_lt3, sub_le3, b2n_f]
theorem isD_12 {μ : Mem} {bs : List Nat} {s0 : Int32} (h : Seg μ 140 0 bs) (h1 : 13 ≤ bs.length) (h2 : bs.length ≤ 60) (hs : bs.length ≠ 13 → s0 = nI (bs.getD 11 0)) : c315_19 (nI 11) (nI 2) (nI (bs.length - 13)) s0 μ = some (μ, nI (b2n (fit 12 bs))) := by
  have g := gl_140
  have b11 := h.get 11
  unfold c315_19
  rw [nm, show (256 : Int32) * nI 11 + nI 2 = nI 2818 by decide]
  refine ite_no (show ¬ nI 2818 = (769 : Int32) by decide) ?_
  refine ite_no (show ¬ nI 2818 = (1538 : Int32) by decide) ?_
  refine ite_no (show ¬ nI 2818 = (1541 : Int32) by decide) ?_
  refine ite_no (show ¬ nI 2818 = (1545 : Int32) by decide) ?_
  refine ite_no (show ¬ nI 2818 = (2049 : Int32) by decide) ?_
  refine ite_no (show ¬ nI 2818 = (2817 : Int32) by decide) ?_
  refine ite_yes (show nI 2818 = (2818 : Int32) by decide) ?_
  rw [fitN rfl rfl, show lnc 12 = 0 from rfl]
  by_cases q : bs.length = 0 + 13
  · rw [decide_eq_true q]
    simp (disch := omega) only [i_0, i_1, i_2, i_3, i_4, i_5, i_6, i_7, i_8, i_9, i_10, i_11, i_12, i_13, i_14, i_15, i_16, i_17, i_18, i_19, i_20, i_21, i_22, i_23, i_24, i_25, i_26, i_27, i_31, i_32, i_40, i_42, i_45, i_48, i_51, i_52, i_56, i_58, i_59, i_60, i_61, i_62, i_63, i_64, i_85, i_90, i_100, i_112, i_120, i_121, i_127, i_128, i_130, i_144, i_171, i_192, i_193, i_197, i_200, i_207, i_235, i_240, i_248, i_252, i_254, i_255, i_256, i_512, i_544, i_768, i_769, i_793, i_1000, i_1023, i_1024, i_1200, i_1538, i_1541, i_1545, i_2046, i_2047, i_2049, i_2060, i_2736, i_2737, i_2817, i_2818, i_2819, i_2820, i_2821, i_2831, i_2832, i_3077, i_3085, i_3843, i_3849, i_3851, i_3852, i_4129, i_4353, i_4865, i_5121, i_5122, i_5123, i_6156, i_8192, i_12288, i_16383, i_32000, i_33280, i_49152, i_53247, i_60304, i_64000, i_64512, i_65521, i_65535, i_449838109, nI_add, pk_mul, pk_sub, nI_mm, nI_leI, nI_ltI, nI_eq, pk_div, jrem_N, jshl_N, jshr_N, jushr_N, jmin_N, jmax_N, an_1, an_3, an_7, an_15, an_31, an_63, an_127, an_255, an_1023, an_2047, an_16383, an_65535, nm, pfI, rdI, rdW, rdL, rdI2, rdW2, ldA_N, stA_N, stB_N, stZ_N, pfZ_0, pfZ_1, rtZ_0, rtZ_1, acp_N, Option.bind_some, wp_some_iff, true_and, and_true, false_and, and_false, or_true, true_or, or_false, false_or, not_true_eq_false, not_false_eq_true, if_true, if_false, if_pos, if_neg, lt_sub, le_sub, sub_lt3, sub_le3, b2n_t]
  · rw [decide_eq_false q]
    simp (disch := omega) only [i_0, i_1, i_2, i_3, i_4, i_5, i_6, i_7, i_8, i_9, i_10, i_11, i_12, i_13, i_14, i_15, i_16, i_17, i_18, i_19, i_20, i_21, i_22, i_23, i_24, i_25, i_26, i_27, i_31, i_32, i_40, i_42, i_45, i_48, i_51, i_52, i_56, i_58, i_59, i_60, i_61, i_62, i_63, i_64, i_85, i_90, i_100, i_112, i_120, i_121, i_127, i_128, i_130, i_144, i_171, i_192, i_193, i_197, i_200, i_207, i_235, i_240, i_248, i_252, i_254, i_255, i_256, i_512, i_544, i_768, i_769, i_793, i_1000, i_1023, i_1024, i_1200, i_1538, i_1541, i_1545, i_2046, i_2047, i_2049, i_2060, i_2736, i_2737, i_2817, i_2818, i_2819, i_2820, i_2821, i_2831, i_2832, i_3077, i_3085, i_3843, i_3849, i_3851, i_3852, i_4129, i_4353, i_4865, i_5121, i_5122, i_5123, i_6156, i_8192, i_12288, i_16383, i_32000, i_33280, i_49152, i_53247, i_60304, i_64000, i_64512, i_65521, i_65535, i_449838109, nI_add, pk_mul, pk_sub, nI_mm, nI_leI, nI_ltI, nI_eq, pk_div, jrem_N, jshl_N, jshr_N, jushr_N, jmin_N, jmax_N, an_1, an_3, an_7, an_15, an_31, an_63, an_127, an_255, an_1023, an_2047, an_16383, an_65535, nm, pfI, rdI, rdW, rdL, rdI2, rdW2, ldA_N, stA_N, stB_N, stZ_N, pfZ_0, pfZ_1, rtZ_0, rtZ_1, acp_N, Option.bind_some, wp_some_iff, true_and, and_true, false_and, and_false, or_true, true_or, or_false, false_or, not_true_eq_false, not_false_eq_true, if_true, if_false, if_pos, if_neg, lt_sub, le_sub, sub_lt3, sub_le3, b2n_f]
theorem isD_13 {μ : Mem} {bs : List Nat} {s0 : Int32} (h : Seg μ 140 0 bs) (h1 : 13 ≤ bs.length) (h2 : bs.length ≤ 60) (hs : bs.length ≠ 13 → s0 = nI (bs.getD 11 0)) : c315_19 (nI 11) (nI 3) (nI (bs.length - 13)) s0 μ = some (μ, nI (b2n (fit 13 bs))) := by
  have g := gl_140
  have b11 := h.get 11
  unfold c315_19
  rw [nm, show (256 : Int32) * nI 11 + nI 3 = nI 2819 by decide]
  refine ite_no (show ¬ nI 2819 = (769 : Int32) by decide) ?_
  refine ite_no (show ¬ nI 2819 = (1538 : Int32) by decide) ?_
  refine ite_no (show ¬ nI 2819 = (1541 : Int32) by decide) ?_
  refine ite_no (show ¬ nI 2819 = (1545 : Int32) by decide) ?_
  refine ite_no (show ¬ nI 2819 = (2049 : Int32) by decide) ?_
  refine ite_no (show ¬ nI 2819 = (2817 : Int32) by decide) ?_
  refine ite_no (show ¬ nI 2819 = (2818 : Int32) by decide) ?_
  refine ite_yes (show nI 2819 = (2819 : Int32) by decide) ?_
  rw [fitN rfl rfl, show lnc 13 = 0 from rfl]
  by_cases q : bs.length = 0 + 13
  · rw [decide_eq_true q]
    simp (disch := omega) only [i_0, i_1, i_2, i_3, i_4, i_5, i_6, i_7, i_8, i_9, i_10, i_11, i_12, i_13, i_14, i_15, i_16, i_17, i_18, i_19, i_20, i_21, i_22, i_23, i_24, i_25, i_26, i_27, i_31, i_32, i_40, i_42, i_45, i_48, i_51, i_52, i_56, i_58, i_59, i_60, i_61, i_62, i_63, i_64, i_85, i_90, i_100, i_112, i_120, i_121, i_127, i_128, i_130, i_144, i_171, i_192, i_193, i_197, i_200, i_207, i_235, i_240, i_248, i_252, i_254, i_255, i_256, i_512, i_544, i_768, i_769, i_793, i_1000, i_1023, i_1024, i_1200, i_1538, i_1541, i_1545, i_2046, i_2047, i_2049, i_2060, i_2736, i_2737, i_2817, i_2818, i_2819, i_2820, i_2821, i_2831, i_2832, i_3077, i_3085, i_3843, i_3849, i_3851, i_3852, i_4129, i_4353, i_4865, i_5121, i_5122, i_5123, i_6156, i_8192, i_12288, i_16383, i_32000, i_33280, i_49152, i_53247, i_60304, i_64000, i_64512, i_65521, i_65535, i_449838109, nI_add, pk_mul, pk_sub, nI_mm, nI_leI, nI_ltI, nI_eq, pk_div, jrem_N, jshl_N, jshr_N, jushr_N, jmin_N, jmax_N, an_1, an_3, an_7, an_15, an_31, an_63, an_127, an_255, an_1023, an_2047, an_16383, an_65535, nm, pfI, rdI, rdW, rdL, rdI2, rdW2, ldA_N, stA_N, stB_N, stZ_N, pfZ_0, pfZ_1, rtZ_0, rtZ_1, acp_N, Option.bind_some, wp_some_iff, true_and, and_true, false_and, and_false, or_true, true_or, or_false, false_or, not_true_eq_false, not_false_eq_true, if_true, if_false, if_pos, if_neg, lt_sub, le_sub, sub_lt3, sub_le3, b2n_t]
  · rw [decide_eq_false q]
    simp (disch := omega) only [i_0, i_1, i_2, i_3, i_4, i_5, i_6, i_7, i_8, i_9, i_10, i_11, i_12, i_13, i_14, i_15, i_16, i_17, i_18, i_19, i_20, i_21, i_22, i_23, i_24, i_25, i_26, i_27, i_31, i_32, i_40, i_42, i_45, i_48, i_51, i_52, i_56, i_58, i_59, i_60, i_61, i_62, i_63, i_64, i_85, i_90, i_100, i_112, i_120, i_121, i_127, i_128, i_130, i_144, i_171, i_192, i_193, i_197, i_200, i_207, i_235, i_240, i_248, i_252, i_254, i_255, i_256, i_512, i_544, i_768, i_769, i_793, i_1000, i_1023, i_1024, i_1200, i_1538, i_1541, i_1545, i_2046, i_2047, i_2049, i_2060, i_2736, i_2737, i_2817, i_2818, i_2819, i_2820, i_2821, i_2831, i_2832, i_3077, i_3085, i_3843, i_3849, i_3851, i_3852, i_4129, i_4353, i_4865, i_5121, i_5122, i_5123, i_6156, i_8192, i_12288, i_16383, i_32000, i_33280, i_49152, i_53247, i_60304, i_64000, i_64512, i_65521, i_65535, i_449838109, nI_add, pk_mul, pk_sub, nI_mm, nI_leI, nI_ltI, nI_eq, pk_div, jrem_N, jshl_N, jshr_N, jushr_N, jmin_N, jmax_N, an_1, an_3, an_7, an_15, an_31, an_63, an_127, an_255, an_1023, an_2047, an_16383, an_65535, nm, pfI, rdI, rdW, rdL, rdI2, rdW2, ldA_N, stA_N, stB_N, stZ_N, pfZ_0, pfZ_1, rtZ_0, rtZ_1, acp_N, Option.bind_some, wp_some_iff, true_and, and_true, false_and, and_false, or_true, true_or, or_false, false_or, not_true_eq_false, not_false_eq_true, if_true, if_false, if_pos, if_neg, lt_sub, le_sub, sub_lt3, sub_le3, b2n_f]
theorem isD_14 {μ : Mem} {bs : List Nat} {s0 : Int32} (h : Seg μ 140 0 bs) (h1 : 13 ≤ bs.length) (h2 : bs.length ≤ 60) (hs : bs.length ≠ 13 → s0 = nI (bs.getD 11 0)) : c315_19 (nI 11) (nI 4) (nI (bs.length - 13)) s0 μ = some (μ, nI (b2n (fit 14 bs))) := by
  have g := gl_140
  have b11 := h.get 11
  unfold c315_19
  rw [nm, show (256 : Int32) * nI 11 + nI 4 = nI 2820 by decide]
  refine ite_no (show ¬ nI 2820 = (769 : Int32) by decide) ?_
  refine ite_no (show ¬ nI 2820 = (1538 : Int32) by decide) ?_
  refine ite_no (show ¬ nI 2820 = (1541 : Int32) by decide) ?_
  refine ite_no (show ¬ nI 2820 = (1545 : Int32) by decide) ?_
  refine ite_no (show ¬ nI 2820 = (2049 : Int32) by decide) ?_
  refine ite_no (show ¬ nI 2820 = (2817 : Int32) by decide) ?_
  refine ite_no (show ¬ nI 2820 = (2818 : Int32) by decide) ?_
  refine ite_no (show ¬ nI 2820 = (2819 : Int32) by decide) ?_
  refine ite_yes (show nI 2820 = (2820 : Int32) by decide) ?_
  rw [show fit 14 bs = (decide (5 + 26 ≤ bs.length ∧ bs.length ≤ 5 + 53) && true) from rfl]
  by_cases q : 5 + 26 ≤ bs.length ∧ bs.length ≤ 5 + 53
  · rw [decide_eq_true q]
    simp (disch := omega) only [i_0, i_1, i_2, i_3, i_4, i_5, i_6, i_7, i_8, i_9, i_10, i_11, i_12, i_13, i_14, i_15, i_16, i_17, i_18, i_19, i_20, i_21, i_22, i_23, i_24, i_25, i_26, i_27, i_31, i_32, i_40, i_42, i_45, i_48, i_51, i_52, i_56, i_58, i_59, i_60, i_61, i_62, i_63, i_64, i_85, i_90, i_100, i_112, i_120, i_121, i_127, i_128, i_130, i_144, i_171, i_192, i_193, i_197, i_200, i_207, i_235, i_240, i_248, i_252, i_254, i_255, i_256, i_512, i_544, i_768, i_769, i_793, i_1000, i_1023, i_1024, i_1200, i_1538, i_1541, i_1545, i_2046, i_2047, i_2049, i_2060, i_2736, i_2737, i_2817, i_2818, i_2819, i_2820, i_2821, i_2831, i_2832, i_3077, i_3085, i_3843, i_3849, i_3851, i_3852, i_4129, i_4353, i_4865, i_5121, i_5122, i_5123, i_6156, i_8192, i_12288, i_16383, i_32000, i_33280, i_49152, i_53247, i_60304, i_64000, i_64512, i_65521, i_65535, i_449838109, nI_add, pk_mul, pk_sub, nI_mm, nI_leI, nI_ltI, nI_eq, pk_div, jrem_N, jshl_N, jshr_N, jushr_N, jmin_N, jmax_N, an_1, an_3, an_7, an_15, an_31, an_63, an_127, an_255, an_1023, an_2047, an_16383, an_65535, nm, pfI, rdI, rdW, rdL, rdI2, rdW2, ldA_N, stA_N, stB_N, stZ_N, pfZ_0, pfZ_1, rtZ_0, rtZ_1, acp_N, Option.bind_some, wp_some_iff, true_and, and_true, false_and, and_false, or_true, true_or, or_false, false_or, not_true_eq_false, not_false_eq_true, if_true, if_false, if_pos, if_neg, lt_sub, le_sub, sub_lt3, sub_le3, Bool.and_self, b2n_t]
  · rw [decide_eq_false q]
    by_cases q2 : bs.length = 13
    · simp (disch := omega) only [i_0, i_1, i_2, i_3, i_4, i_5, i_6, i_7, i_8, i_9, i_10, i_11, i_12, i_13, i_14, i_15, i_16, i_17, i_18, i_19, i_20, i_21, i_22, i_23, i_24, i_25, i_26, i_27, i_31, i_32, i_40, i_42, i_45, i_48, i_51, i_52, i_56, i_58, i_59, i_60, i_61, i_62, i_63, i_64, i_85, i_90, i_100, i_112, i_120, i_121, i_127, i_128, i_130, i_144, i_171, i_192, i_193, i_197, i_200, i_207, i_235, i_240, i_248, i_252, i_254, i_255, i_256, i_512, i_544, i_768, i_769, i_793, i_1000, i_1023, i_1024, i_1200, i_1538, i_1541, i_1545, i_2046, i_2047, i_2049, i_2060, i_2736, i_2737, i_2817, i_2818, i_2819, i_2820, i_2821, i_2831, i_2832, i_3077, i_3085, i_3843, i_3849, i_3851, i_3852, i_4129, i_4353, i_4865, i_5121, i_5122, i_5123, i_6156, i_8192, i_12288, i_16383, i_32000, i_33280, i_49152, i_53247, i_60304, i_64000, i_64512, i_65521, i_65535, i_449838109, nI_add, pk_mul, pk_sub, nI_mm, nI_leI, nI_ltI, nI_eq, pk_div, jrem_N, jshl_N, jshr_N, jushr_N, jmin_N, jmax_N, an_1, an_3, an_7, an_15, an_31, an_63, an_127, an_255, an_1023, an_2047, an_16383, an_65535, nm, pfI, rdI, rdW, rdL, rdI2, rdW2, ldA_N, stA_N, stB_N, stZ_N, pfZ_0, pfZ_1, rtZ_0, rtZ_1, acp_N, Option.bind_some, wp_some_iff, true_and, and_true, false_and, and_false, or_true, true_or, or_false, false_or, not_true_eq_false, not_false_eq_true, if_true, if_false, if_pos, if_neg, lt_sub, le_sub, sub_lt3, sub_le3, Bool.false_and, b2n_f]
    · by_cases q3 : bs.length < 31
      · simp (disch := omega) only [i_0, i_1, i_2, i_3, i_4, i_5, i_6, i_7, i_8, i_9, i_10, i_11, i_12, i_13, i_14, i_15, i_16, i_17, i_18, i_19, i_20, i_21, i_22, i_23, i_24, i_25, i_26, i_27, i_31, i_32, i_40, i_42, i_45, i_48, i_51, i_52, i_56, i_58, i_59, i_60, i_61, i_62, i_63, i_64, i_85, i_90, i_100, i_112, i_120, i_121, i_127, i_128, i_130, i_144, i_171, i_192, i_193, i_197, i_200, i_207, i_235, i_240, i_248, i_252, i_254, i_255, i_256, i_512, i_544, i_768, i_769, i_793, i_1000, i_1023, i_1024, i_1200, i_1538, i_1541, i_1545, i_2046, i_2047, i_2049, i_2060, i_2736, i_2737, i_2817, i_2818, i_2819, i_2820, i_2821, i_2831, i_2832, i_3077, i_3085, i_3843, i_3849, i_3851, i_3852, i_4129, i_4353, i_4865, i_5121, i_5122, i_5123, i_6156, i_8192, i_12288, i_16383, i_32000, i_33280, i_49152, i_53247, i_60304, i_64000, i_64512, i_65521, i_65535, i_449838109, nI_add, pk_mul, pk_sub, nI_mm, nI_leI, nI_ltI, nI_eq, pk_div, jrem_N, jshl_N, jshr_N, jushr_N, jmin_N, jmax_N, an_1, an_3, an_7, an_15, an_31, an_63, an_127, an_255, an_1023, an_2047, an_16383, an_65535, nm, pfI, rdI, rdW, rdL, rdI2, rdW2, ldA_N, stA_N, stB_N, stZ_N, pfZ_0, pfZ_1, rtZ_0, rtZ_1, acp_N, Option.bind_some, wp_some_iff, true_and, and_true, false_and, and_false, or_true, true_or, or_false, false_or, not_true_eq_false, not_false_eq_true, if_true, if_false, if_pos, if_neg, lt_sub, le_sub, sub_lt3, sub_le3, Bool.false_and, b2n_f]
      · simp (disch := omega) only [i_0, i_1, i_2, i_3, i_4, i_5, i_6, i_7, i_8, i_9, i_10, i_11, i_12, i_13, i_14, i_15, i_16, i_17, i_18, i_19, i_20, i_21, i_22, i_23, i_24, i_25, i_26, i_27, i_31, i_32, i_40, i_42, i_45, i_48, i_51, i_52, i_56, i_58, i_59, i_60, i_61, i_62, i_63, i_64, i_85, i_90, i_100, i_112, i_120, i_121, i_127, i_128, i_130, i_144, i_171, i_192, i_193, i_197, i_200, i_207, i_235, i_240, i_248, i_252, i_254, i_255, i_256, i_512, i_544, i_768, i_769, i_793, i_1000, i_1023, i_1024, i_1200, i_1538, i_1541, i_1545, i_2046, i_2047, i_2049, i_2060, i_2736, i_2737, i_2817, i_2818, i_2819, i_2820, i_2821, i_2831, i_2832, i_3077, i_3085, i_3843, i_3849, i_3851, i_3852, i_4129, i_4353, i_4865, i_5121, i_5122, i_5123, i_6156, i_8192, i_12288, i_16383, i_32000, i_33280, i_49152, i_53247, i_60304, i_64000, i_64512, i_65521, i_65535, i_449838109, nI_add, pk_mul, pk_sub, nI_mm, nI_leI, nI_ltI, nI_eq, pk_div, jrem_N, jshl_N, jshr_N, jushr_N, jmin_N, jmax_N, an_1, an_3, an_7, an_15, an_31, an_63, an_127, an_255, an_1023, an_2047, an_16383, an_65535, nm, pfI, rdI, rdW, rdL, rdI2, rdW2, ldA_N, stA_N, stB_N, stZ_N, pfZ_0, pfZ_1, rtZ_0, rtZ_1, acp_N, Option.bind_some, wp_some_iff, true_and, and_true, false_and, and_false, or_true, true_or, or_false, false_or, not_true_eq_false, not_false_eq_true, if_true, if_false, if_pos, if_neg, lt_sub, le_sub, sub_lt3, sub_le3, Bool.false_and, b2n_f]
theorem isD_15 {μ : Mem} {bs : List Nat} {s0 : Int32} (h : Seg μ 140 0 bs) (h1 : 13 ≤ bs.length) (h2 : bs.length ≤ 60) (hs : bs.length ≠ 13 → s0 = nI (bs.getD 11 0)) : c315_19 (nI 11) (nI 5) (nI (bs.length - 13)) s0 μ = some (μ, nI (b2n (fit 15 bs))) := by
  have g := gl_140
  have b11 := h.get 11
  unfold c315_19
  rw [nm, show (256 : Int32) * nI 11 + nI 5 = nI 2821 by decide]
  refine ite_no (show ¬ nI 2821 = (769 : Int32) by decide) ?_
  refine ite_no (show ¬ nI 2821 = (1538 : Int32) by decide) ?_
  refine ite_no (show ¬ nI 2821 = (1541 : Int32) by decide) ?_
  refine ite_no (show ¬ nI 2821 = (1545 : Int32) by decide) ?_
  refine ite_no (show ¬ nI 2821 = (2049 : Int32) by decide) ?_
  refine ite_no (show ¬ nI 2821 = (2817 : Int32) by decide) ?_
  refine ite_no (show ¬ nI 2821 = (2818 : Int32) by decide) ?_
  refine ite_no (show ¬ nI 2821 = (2819 : Int32) by decide) ?_
  refine ite_no (show ¬ nI 2821 = (2820 : Int32) by decide) ?_
  refine ite_yes (show nI 2821 = (2821 : Int32) by decide) ?_
  rw [fitN rfl rfl, show lnc 15 = 2 from rfl]
  by_cases q : bs.length = 2 + 13
  · rw [decide_eq_true q]
    simp (disch := omega) only [i_0, i_1, i_2, i_3, i_4, i_5, i_6, i_7, i_8, i_9, i_10, i_11, i_12, i_13, i_14, i_15, i_16, i_17, i_18, i_19, i_20, i_21, i_22, i_23, i_24, i_25, i_26, i_27, i_31, i_32, i_40, i_42, i_45, i_48, i_51, i_52, i_56, i_58, i_59, i_60, i_61, i_62, i_63, i_64, i_85, i_90, i_100, i_112, i_120, i_121, i_127, i_128, i_130, i_144, i_171, i_192, i_193, i_197, i_200, i_207, i_235, i_240, i_248, i_252, i_254, i_255, i_256, i_512, i_544, i_768, i_769, i_793, i_1000, i_1023, i_1024, i_1200, i_1538, i_1541, i_1545, i_2046, i_2047, i_2049, i_2060, i_2736, i_2737, i_2817, i_2818, i_2819, i_2820, i_2821, i_2831, i_2832, i_3077, i_3085, i_3843, i_3849, i_3851, i_3852, i_4129, i_4353, i_4865, i_5121, i_5122, i_5123, i_6156, i_8192, i_12288, i_16383, i_32000, i_33280, i_49152, i_53247, i_60304, i_64000, i_64512, i_65521, i_65535, i_449838109, nI_add, pk_mul, pk_sub, nI_mm, nI_leI, nI_ltI, nI_eq, pk_div, jrem_N, jshl_N, jshr_N, jushr_N, jmin_N, jmax_N, an_1, an_3, an_7, an_15, an_31, an_63, an_127, an_255, an_1023, an_2047, an_16383, an_65535, nm, pfI, rdI, rdW, rdL, rdI2, rdW2, ldA_N, stA_N, stB_N, stZ_N, pfZ_0, pfZ_1, rtZ_0, rtZ_1, acp_N, Option.bind_some, wp_some_iff, true_and, and_true, false_and, and_false, or_true, true_or, or_false, false_or, not_true_eq_false, not_false_eq_true, if_true, if_false, if_pos, if_neg, lt_sub, le_sub, sub_lt3, sub_le3, b2n_t]
  · rw [decide_eq_false q]
    simp (disch := omega) only [i_0, i_1, i_2, i_3, i_4, i_5, i_6, i_7, i_8, i_9, i_10, i_11, i_12, i_13, i_14, i_15, i_16, i_17, i_18, i_19, i_20, i_21, i_22, i_23, i_24, i_25, i_26, i_27, i_31, i_32, i_40, i_42, i_45, i_48, i_51, i_52, i_56, i_58, i_59, i_60, i_61, i_62, i_63, i_64, i_85, i_90, i_100, i_112, i_120, i_121, i_127, i_128, i_130, i_144, i_171, i_192, i_193, i_197, i_200, i_207, i_235, i_240, i_248, i_252, i_254, i_255, i_256, i_512, i_544, i_768, i_769, i_793, i_1000, i_1023, i_1024, i_1200, i_1538, i_1541, i_1545, i_2046, i_2047, i_2049, i_2060, i_2736, i_2737, i_2817, i_2818, i_2819, i_2820, i_2821, i_2831, i_2832, i_3077, i_3085, i_3843, i_3849, i_3851, i_3852, i_4129, i_4353, i_4865, i_5121, i_5122, i_5123, i_6156, i_8192, i_12288, i_16383, i_32000, i_33280, i_49152, i_53247, i_60304, i_64000, i_64512, i_65521, i_65535, i_449838109, nI_add, pk_mul, pk_sub, nI_mm, nI_leI, nI_ltI, nI_eq, pk_div, jrem_N, jshl_N, jshr_N, jushr_N, jmin_N, jmax_N, an_1, an_3, an_7, an_15, an_31, an_63, an_127, an_255, an_1023, an_2047, an_16383, an_65535, nm, pfI, rdI, rdW, rdL, rdI2, rdW2, ldA_N, stA_N, stB_N, stZ_N, pfZ_0, pfZ_1, rtZ_0, rtZ_1, acp_N, Option.bind_some, wp_some_iff, true_and, and_true, false_and, and_false, or_true, true_or, or_false, false_or, not_true_eq_false, not_false_eq_true, if_true, if_false, if_pos, if_neg, lt_sub, le_sub, sub_lt3, sub_le3, b2n_f]
theorem isD_16 {μ : Mem} {bs : List Nat} {s0 : Int32} (h : Seg μ 140 0 bs) (h1 : 13 ≤ bs.length) (h2 : bs.length ≤ 60) (hs : bs.length ≠ 13 → s0 = nI (bs.getD 11 0)) : c315_19 (nI 11) (nI 15) (nI (bs.length - 13)) s0 μ = some (μ, nI (b2n (fit 16 bs))) := by
  have g := gl_140
  have b11 := h.get 11
  unfold c315_19
  rw [nm, show (256 : Int32) * nI 11 + nI 15 = nI 2831 by decide]
  refine ite_no (show ¬ nI 2831 = (769 : Int32) by decide) ?_
  refine ite_no (show ¬ nI 2831 = (1538 : Int32) by decide) ?_
  refine ite_no (show ¬ nI 2831 = (1541 : Int32) by decide) ?_
  refine ite_no (show ¬ nI 2831 = (1545 : Int32) by decide) ?_
  refine ite_no (show ¬ nI 2831 = (2049 : Int32) by decide) ?_
  refine ite_no (show ¬ nI 2831 = (2817 : Int32) by decide) ?_
  refine ite_no (show ¬ nI 2831 = (2818 : Int32) by decide) ?_
  refine ite_no (show ¬ nI 2831 = (2819 : Int32) by decide) ?_
  refine ite_no (show ¬ nI 2831 = (2820 : Int32) by decide) ?_
  refine ite_no (show ¬ nI 2831 = (2821 : Int32) by decide) ?_
  refine ite_yes (show nI 2831 = (2831 : Int32) by decide) ?_
  rw [fitN rfl rfl, show lnc 16 = 4 from rfl]
  by_cases q : bs.length = 4 + 13
  · rw [decide_eq_true q]
    simp (disch := omega) only [i_0, i_1, i_2, i_3, i_4, i_5, i_6, i_7, i_8, i_9, i_10, i_11, i_12, i_13, i_14, i_15, i_16, i_17, i_18, i_19, i_20, i_21, i_22, i_23, i_24, i_25, i_26, i_27, i_31, i_32, i_40, i_42, i_45, i_48, i_51, i_52, i_56, i_58, i_59, i_60, i_61, i_62, i_63, i_64, i_85, i_90, i_100, i_112, i_120, i_121, i_127, i_128, i_130, i_144, i_171, i_192, i_193, i_197, i_200, i_207, i_235, i_240, i_248, i_252, i_254, i_255, i_256, i_512, i_544, i_768, i_769, i_793, i_1000, i_1023, i_1024, i_1200, i_1538, i_1541, i_1545, i_2046, i_2047, i_2049, i_2060, i_2736, i_2737, i_2817, i_2818, i_2819, i_2820, i_2821, i_2831, i_2832, i_3077, i_3085, i_3843, i_3849, i_3851, i_3852, i_4129, i_4353, i_4865, i_5121, i_5122, i_5123, i_6156, i_8192, i_12288, i_16383, i_32000, i_33280, i_49152, i_53247, i_60304, i_64000, i_64512, i_65521, i_65535, i_449838109, nI_add, pk_mul, pk_sub, nI_mm, nI_leI, nI_ltI, nI_eq, pk_div, jrem_N, jshl_N, jshr_N, jushr_N, jmin_N, jmax_N, an_1, an_3, an_7, an_15, an_31, an_63, an_127, an_255, an_1023, an_2047, an_16383, an_65535, nm, pfI, rdI, rdW, rdL, rdI2, rdW2, ldA_N, stA_N, stB_N, stZ_N, pfZ_0, pfZ_1, rtZ_0, rtZ_1, acp_N, Option.bind_some, wp_some_iff, true_and, and_true, false_and, and_false, or_true, true_or, or_false, false_or, not_true_eq_false, not_false_eq_true, if_true, if_false, if_pos, if_neg, lt_sub, le_sub, sub_lt3, sub_le3, b2n_t]
  · rw [decide_eq_false q]
    simp (disch := omega) only [i_0, i_1, i_2, i_3, i_4, i_5, i_6, i_7, i_8, i_9, i_10, i_11, i_12, i_13, i_14, i_15, i_16, i_17, i_18, i_19, i_20, i_21, i_22, i_23, i_24, i_25, i_26, i_27, i_31, i_32, i_40, i_42, i_45, i_48, i_51, i_52, i_56, i_58, i_59, i_60, i_61, i_62, i_63, i_64, i_85, i_90, i_100, i_112, i_120, i_121, i_127, i_128, i_130, i_144, i_171, i_192, i_193, i_197, i_200, i_207, i_235, i_240, i_248, i_252, i_254, i_255, i_256, i_512, i_544, i_768, i_769, i_793, i_1000, i_1023, i_1024, i_1200, i_1538, i_1541, i_1545, i_2046, i_2047, i_2049, i_2060, i_2736, i_2737, i_2817, i_2818, i_2819, i_2820, i_2821, i_2831, i_2832, i_3077, i_3085, i_3843, i_3849, i_3851, i_3852, i_4129, i_4353, i_4865, i_5121, i_5122, i_5123, i_6156, i_8192, i_12288, i_16383, i_32000, i_33280, i_49152, i_53247, i_60304, i_64000, i_64512, i_65521, i_65535, i_449838109, nI_add, pk_mul, pk_sub, nI_mm, nI_leI, nI_ltI, nI_eq, pk_div, jrem_N, jshl_N, jshr_N, jushr_N, jmin_N, jmax_N, an_1, an_3, an_7, an_15, an_31, an_63, an_127, an_255, an_1023, an_2047, an_16383, an_65535, nm, pfI, rdI, rdW, rdL, rdI2, rdW2, ldA_N, stA_N, stB_N, stZ_N, pfZ_0, pfZ_1, rtZ_0, rtZ_1, acp_N, Option.bind_some, wp_some_iff, true_and, and_true, false_and, and_false, or_true, true_or, or_false, false_or, not_true_eq_false, not_false_eq_true, if_true, if_false, if_pos, if_neg, lt_sub, le_sub, sub_lt3, sub_le3, b2n_f]
theorem isD_17 {μ : Mem} {bs : List Nat} {s0 : Int32} (h : Seg μ 140 0 bs) (h1 : 13 ≤ bs.length) (h2 : bs.length ≤ 60) (hs : bs.length ≠ 13 → s0 = nI (bs.getD 11 0)) : c315_19 (nI 11) (nI 16) (nI (bs.length - 13)) s0 μ = some (μ, nI (b2n (fit 17 bs))) := by
  have g := gl_140
  have b11 := h.get 11
  unfold c315_19
  rw [nm, show (256 : Int32) * nI 11 + nI 16 = nI 2832 by decide]
  refine ite_no (show ¬ nI 2832 = (769 : Int32) by decide) ?_
  refine ite_no (show ¬ nI 2832 = (1538 : Int32) by decide) ?_
  refine ite_no (show ¬ nI 2832 = (1541 : Int32) by decide) ?_
  refine ite_no (show ¬ nI 2832 = (1545 : Int32) by decide) ?_
  refine ite_no (show ¬ nI 2832 = (2049 : Int32) by decide) ?_
  refine ite_no (show ¬ nI 2832 = (2817 : Int32) by decide) ?_
  refine ite_no (show ¬ nI 2832 = (2818 : Int32) by decide) ?_
  refine ite_no (show ¬ nI 2832 = (2819 : Int32) by decide) ?_
  refine ite_no (show ¬ nI 2832 = (2820 : Int32) by decide) ?_
  refine ite_no (show ¬ nI 2832 = (2821 : Int32) by decide) ?_
  refine ite_no (show ¬ nI 2832 = (2831 : Int32) by decide) ?_
  refine ite_yes (show nI 2832 = (2832 : Int32) by decide) ?_
  rw [fitN rfl rfl, show lnc 17 = 0 from rfl]
  by_cases q : bs.length = 0 + 13
  · rw [decide_eq_true q]
    simp (disch := omega) only [i_0, i_1, i_2, i_3, i_4, i_5, i_6, i_7, i_8, i_9, i_10, i_11, i_12, i_13, i_14, i_15, i_16, i_17, i_18, i_19, i_20, i_21, i_22, i_23, i_24, i_25, i_26, i_27, i_31, i_32, i_40, i_42, i_45, i_48, i_51, i_52, i_56, i_58, i_59, i_60, i_61, i_62, i_63, i_64, i_85, i_90, i_100, i_112, i_120, i_121, i_127, i_128, i_130, i_144, i_171, i_192, i_193, i_197, i_200, i_207, i_235, i_240, i_248, i_252, i_254, i_255, i_256, i_512, i_544, i_768, i_769, i_793, i_1000, i_1023, i_1024, i_1200, i_1538, i_1541, i_1545, i_2046, i_2047, i_2049, i_2060, i_2736, i_2737, i_2817, i_2818, i_2819, i_2820, i_2821, i_2831, i_2832, i_3077, i_3085, i_3843, i_3849, i_3851, i_3852, i_4129, i_4353, i_4865, i_5121, i_5122, i_5123, i_6156, i_8192, i_12288, i_16383, i_32000, i_33280, i_49152, i_53247, i_60304, i_64000, i_64512, i_65521, i_65535, i_449838109, nI_add, pk_mul, pk_sub, nI_mm, nI_leI, nI_ltI, nI_eq, pk_div, jrem_N, jshl_N, jshr_N, jushr_N, jmin_N, jmax_N, an_1, an_3, an_7, an_15, an_31, an_63, an_127, an_255, an_1023, an_2047, an_16383, an_65535, nm, pfI, rdI, rdW, rdL, rdI2, rdW2, ldA_N, stA_N, stB_N, stZ_N, pfZ_0, pfZ_1, rtZ_0, rtZ_1, acp_N, Option.bind_some, wp_some_iff, true_and, and_true, false_and, and_false, or_true, true_or, or_false, false_or, not_true_eq_false, not_false_eq_true, if_true, if_false, if_pos, if_neg, lt_sub, le_sub, sub_lt3, sub_le3, b2n_t]
  · rw [decide_eq_false q]
    simp (disch := omega) only [i_0, i_1, i_2, i_3, i_4, i_5, i_6, i_7, i_8, i_9, i_10, i_11, i_12, i_13, i_14, i_15, i_16, i_17, i_18, i_19, i_20, i_21, i_22, i_23, i_24, i_25, i_26, i_27, i_31, i_32, i_40, i_42, i_45, i_48, i_51, i_52, i_56, i_58, i_59, i_60, i_61, i_62, i_63, i_64, i_85, i_90, i_100, i_112, i_120, i_121, i_127, i_128, i_130, i_144, i_171, i_192, i_193, i_197, i_200, i_207, i_235, i_240, i_248, i_252, i_254, i_255, i_256, i_512, i_544, i_768, i_769, i_793, i_1000, i_1023, i_1024, i_1200, i_1538, i_1541, i_1545, i_2046, i_2047, i_2049, i_2060, i_2736, i_2737, i_2817, i_2818, i_2819, i_2820, i_2821, i_2831, i_2832, i_3077, i_3085, i_3843, i_3849, i_3851, i_3852, i_4129, i_4353, i_4865, i_5121, i_5122, i_5123, i_6156, i_8192, i_12288, i_16383, i_32000, i_33280, i_49152, i_53247, i_60304, i_64000, i_64512, i_65521, i_65535, i_449838109, nI_add, pk_mul, pk_sub, nI_mm, nI_leI, nI_ltI, nI_eq, pk_div, jrem_N, jshl_N, jshr_N, jushr_N, jmin_N, jmax_N, an_1, an_3, an_7, an_15, an_31, an_63, an_127, an_255, an_1023, an_2047, an_16383, an_65535, nm, pfI, rdI, rdW, rdL, rdI2, rdW2, ldA_N, stA_N, stB_N, stZ_N, pfZ_0, pfZ_1, rtZ_0, rtZ_1, acp_N, Option.bind_some, wp_some_iff, true_and, and_true, false_and, and_false, or_true, true_or, or_false, false_or, not_true_eq_false, not_false_eq_true, if_true, if_false, if_pos, if_neg, lt_sub, le_sub, sub_lt3, sub_le3, b2n_f]
theorem isD_18 {μ : Mem} {bs : List Nat} {s0 : Int32} (h : Seg μ 140 0 bs) (h1 : 13 ≤ bs.length) (h2 : bs.length ≤ 60) (hs : bs.length ≠ 13 → s0 = nI (bs.getD 11 0)) : c315_19 (nI 11) (nI 20) (nI (bs.length - 13)) s0 μ = some (μ, nI (b2n (fit 18 bs))) := by
  have g := gl_140
  have b11 := h.get 11
  unfold c315_19
  rw [nm, show (256 : Int32) * nI 11 + nI 20 = nI 2836 by decide]
  refine ite_no (show ¬ nI 2836 = (769 : Int32) by decide) ?_
  refine ite_no (show ¬ nI 2836 = (1538 : Int32) by decide) ?_
  refine ite_no (show ¬ nI 2836 = (1541 : Int32) by decide) ?_
  refine ite_no (show ¬ nI 2836 = (1545 : Int32) by decide) ?_
  refine ite_no (show ¬ nI 2836 = (2049 : Int32) by decide) ?_
  refine ite_no (show ¬ nI 2836 = (2817 : Int32) by decide) ?_
  refine ite_no (show ¬ nI 2836 = (2818 : Int32) by decide) ?_
  refine ite_no (show ¬ nI 2836 = (2819 : Int32) by decide) ?_
  refine ite_no (show ¬ nI 2836 = (2820 : Int32) by decide) ?_
  refine ite_no (show ¬ nI 2836 = (2821 : Int32) by decide) ?_
  refine ite_no (show ¬ nI 2836 = (2831 : Int32) by decide) ?_
  refine ite_no (show ¬ nI 2836 = (2832 : Int32) by decide) ?_
  refine ite_no (show ¬ nI 2836 = (3077 : Int32) by decide) ?_
  refine ite_no (show ¬ nI 2836 = (3085 : Int32) by decide) ?_
  refine ite_no (show ¬ nI 2836 = (3843 : Int32) by decide) ?_
  refine ite_no (show ¬ nI 2836 = (3849 : Int32) by decide) ?_
  refine ite_no (show ¬ nI 2836 = (3851 : Int32) by decide) ?_
  refine ite_no (show ¬ nI 2836 = (3852 : Int32) by decide) ?_
  refine ite_no (show ¬ nI 2836 = (4353 : Int32) by decide) ?_
  refine ite_no (show ¬ nI 2836 = (4865 : Int32) by decide) ?_
  refine ite_no (show ¬ nI 2836 = (5121 : Int32) by decide) ?_
  refine ite_no (show ¬ nI 2836 = (5123 : Int32) by decide) ?_
  rw [fitN rfl rfl, show lnc 18 = 1 from rfl]
  by_cases q : bs.length = 1 + 13
  · rw [decide_eq_true q]
    simp (disch := omega) only [i_0, i_1, i_2, i_3, i_4, i_5, i_6, i_7, i_8, i_9, i_10, i_11, i_12, i_13, i_14, i_15, i_16, i_17, i_18, i_19, i_20, i_21, i_22, i_23, i_24, i_25, i_26, i_27, i_31, i_32, i_40, i_42, i_45, i_48, i_51, i_52, i_56, i_58, i_59, i_60, i_61, i_62, i_63, i_64, i_85, i_90, i_100, i_112, i_120, i_121, i_127, i_128, i_130, i_144, i_171, i_192, i_193, i_197, i_200, i_207, i_235, i_240, i_248, i_252, i_254, i_255, i_256, i_512, i_544, i_768, i_769, i_793, i_1000, i_1023, i_1024, i_1200, i_1538, i_1541, i_1545, i_2046, i_2047, i_2049, i_2060, i_2736, i_2737, i_2817, i_2818, i_2819, i_2820, i_2821, i_2831, i_2832, i_3077, i_3085, i_3843, i_3849, i_3851, i_3852, i_4129, i_4353, i_4865, i_5121, i_5122, i_5123, i_6156, i_8192, i_12288, i_16383, i_32000, i_33280, i_49152, i_53247, i_60304, i_64000, i_64512, i_65521, i_65535, i_449838109, nI_add, pk_mul, pk_sub, nI_mm, nI_leI, nI_ltI, nI_eq, pk_div, jrem_N, jshl_N, jshr_N, jushr_N, jmin_N, jmax_N, an_1, an_3, an_7, an_15, an_31, an_63, an_127, an_255, an_1023, an_2047, an_16383, an_65535, nm, pfI, rdI, rdW, rdL, rdI2, rdW2, ldA_N, stA_N, stB_N, stZ_N, pfZ_0, pfZ_1, rtZ_0, rtZ_1, acp_N, Option.bind_some, wp_some_iff, true_and, and_true, false_and, and_false, or_true, true_or, or_false, false_or, not_true_eq_false, not_false_eq_true, if_true, if_false, if_pos, if_neg, lt_sub, le_sub, sub_lt3, sub_le3, b2n_t]
  · rw [decide_eq_false q]
    simp (disch := omega) only [i_0, i_1, i_2, i_3, i_4, i_5, i_6, i_7, i_8, i_9, i_10, i_11, i_12, i_13, i_14, i_15, i_16, i_17, i_18, i_19, i_20, i_21, i_22, i_23, i_24, i_25, i_26, i_27, i_31, i_32, i_40, i_42, i_45, i_48, i_51, i_52, i_56, i_58, i_59, i_60, i_61, i_62, i_63, i_64, i_85, i_90, i_100, i_112, i_120, i_121, i_127, i_128, i_130, i_144, i_171, i_192, i_193, i_197, i_200, i_207, i_235, i_240, i_248, i_252, i_254, i_255, i_256, i_512, i_544, i_768, i_769, i_793, i_1000, i_1023, i_1024, i_1200, i_1538, i_1541, i_1545, i_2046, i_2047, i_2049, i_2060, i_2736, i_2737, i_2817, i_2818, i_2819, i_2820, i_2821, i_2831, i_2832, i_3077, i_3085, i_3843, i_3849, i_3851, i_3852, i_4129, i_4353, i_4865, i_5121, i_5122, i_5123, i_6156, i_8192, i_12288, i_16383, i_32000, i_33280, i_49152, i_53247, i_60304, i_64000, i_64512, i_65521, i_65535, i_449838109, nI_add, pk_mul, pk_sub, nI_mm, nI_leI, nI_ltI, nI_eq, pk_div, jrem_N, jshl_N, jshr_N, jushr_N, jmin_N, jmax_N, an_1, an_3, an_7, an_15, an_31, an_63, an_127, an_255, an_1023, an_2047, an_16383, an_65535, nm, pfI, rdI, rdW, rdL, rdI2, rdW2, ldA_N, stA_N, stB_N, stZ_N, pfZ_0, pfZ_1, rtZ_0, rtZ_1, acp_N, Option.bind_some, wp_some_iff, true_and, and_true, false_and, and_false, or_true, true_or, or_false, false_or, not_true_eq_false, not_false_eq_true, if_true, if_false, if_pos, if_neg, lt_sub, le_sub, sub_lt3, sub_le3, b2n_f]
theorem isD_19 {μ : Mem} {bs : List Nat} {s0 : Int32} (h : Seg μ 140 0 bs) (h1 : 13 ≤ bs.length) (h2 : bs.length ≤ 60) (hs : bs.length ≠ 13 → s0 = nI (bs.getD 11 0)) : c315_19 (nI 11) (nI 21) (nI (bs.length - 13)) s0 μ = some (μ, nI (b2n (fit 19 bs))) := by
  have g := gl_140
  have b11 := h.get 11
  unfold c315_19
  rw [nm, show (256 : Int32) * nI 11 + nI 21 = nI 2837 by decide]
  refine ite_no (show ¬ nI 2837 = (769 : Int32) by decide) ?_
  refine ite_no (show ¬ nI 2837 = (1538 : Int32) by decide) ?_
  refine ite_no (show ¬ nI 2837 = (1541 : Int32) by decide) ?_
  refine ite_no (show ¬ nI 2837 = (1545 : Int32) by decide) ?_
  refine ite_no (show ¬ nI 2837 = (2049 : Int32) by decide) ?_
  refine ite_no (show ¬ nI 2837 = (2817 : Int32) by decide) ?_
  refine ite_no (show ¬ nI 2837 = (2818 : Int32) by decide) ?_
  refine ite_no (show ¬ nI 2837 = (2819 : Int32) by decide) ?_
  refine ite_no (show ¬ nI 2837 = (2820 : Int32) by decide) ?_
  refine ite_no (show ¬ nI 2837 = (2821 : Int32) by decide) ?_
  refine ite_no (show ¬ nI 2837 = (2831 : Int32) by decide) ?_
  refine ite_no (show ¬ nI 2837 = (2832 : Int32) by decide) ?_
  refine ite_no (show ¬ nI 2837 = (3077 : Int32) by decide) ?_
  refine ite_no (show ¬ nI 2837 = (3085 : Int32) by decide) ?_
  refine ite_no (show ¬ nI 2837 = (3843 : Int32) by decide) ?_
  refine ite_no (show ¬ nI 2837 = (3849 : Int32) by decide) ?_
  refine ite_no (show ¬ nI 2837 = (3851 : Int32) by decide) ?_
  refine ite_no (show ¬ nI 2837 = (3852 : Int32) by decide) ?_
  refine ite_no (show ¬ nI 2837 = (4353 : Int32) by decide) ?_
  refine ite_no (show ¬ nI 2837 = (4865 : Int32) by decide) ?_
  refine ite_no (show ¬ nI 2837 = (5121 : Int32) by decide) ?_
  refine ite_no (show ¬ nI 2837 = (5123 : Int32) by decide) ?_
  rw [fitN rfl rfl, show lnc 19 = 1 from rfl]
  by_cases q : bs.length = 1 + 13
  · rw [decide_eq_true q]
    simp (disch := omega) only [i_0, i_1, i_2, i_3, i_4, i_5, i_6, i_7, i_8, i_9, i_10, i_11, i_12, i_13, i_14, i_15, i_16, i_17, i_18, i_19, i_20, i_21, i_22, i_23, i_24, i_25, i_26, i_27, i_31, i_32, i_40, i_42, i_45, i_48, i_51, i_52, i_56, i_58, i_59, i_60, i_61, i_62, i_63, i_64, i_85, i_90, i_100, i_112, i_120, i_121, i_127, i_128, i_130, i_144, i_171, i_192, i_193, i_197, i_200, i_207, i_235, i_240, i_248, i_252, i_254, i_255, i_256, i_512, i_544, i_768, i_769, i_793, i_1000, i_1023, i_1024, i_1200, i_1538, i_1541, i_1545, i_2046, i_2047, i_2049, i_2060, i_2736, i_2737, i_2817, i_2818, i_2819, i_2820, i_2821, i_2831, i_2832, i_3077, i_3085, i_3843, i_3849, i_3851, i_3852, i_4129, i_4353, i_4865, i_5121, i_5122, i_5123, i_6156, i_8192, i_12288, i_16383, i_32000, i_33280, i_49152, i_53247, i_60304, i_64000, i_64512, i_65521, i_65535, i_449838109, nI_add, pk_mul, pk_sub, nI_mm, nI_leI, nI_ltI, nI_eq, pk_div, jrem_N, jshl_N, jshr_N, jushr_N, jmin_N, jmax_N, an_1, an_3, an_7, an_15, an_31, an_63, an_127, an_255, an_1023, an_2047, an_16383, an_65535, nm, pfI, rdI, rdW, rdL, rdI2, rdW2, ldA_N, stA_N, stB_N, stZ_N, pfZ_0, pfZ_1, rtZ_0, rtZ_1, acp_N, Option.bind_some, wp_some_iff, true_and, and_true, false_and, and_false, or_true, true_or, or_false, false_or, not_true_eq_false, not_false_eq_true, if_true, if_false, if_pos, if_neg, lt_sub, le_sub, sub_lt3, sub_le3, b2n_t]
  · rw [decide_eq_false q]
    simp (disch := omega) only [i_0, i_1, i_2, i_3, i_4, i_5, i_6, i_7, i_8, i_9, i_10, i_11, i_12, i_13, i_14, i_15, i_16, i_17, i_18, i_19, i_20, i_21, i_22, i_23, i_24, i_25, i_26, i_27, i_31, i_32, i_40, i_42, i_45, i_48, i_51, i_52, i_56, i_58, i_59, i_60, i_61, i_62, i_63, i_64, i_85, i_90, i_100, i_112, i_120, i_121, i_127, i_128, i_130, i_144, i_171, i_192, i_193, i_197, i_200, i_207, i_235, i_240, i_248, i_252, i_254, i_255, i_256, i_512, i_544, i_768, i_769, i_793, i_1000, i_1023, i_1024, i_1200, i_1538, i_1541, i_1545, i_2046, i_2047, i_2049, i_2060, i_2736, i_2737, i_2817, i_2818, i_2819, i_2820, i_2821, i_2831, i_2832, i_3077, i_3085, i_3843, i_3849, i_3851, i_3852, i_4129, i_4353, i_4865, i_5121, i_5122, i_5123, i_6156, i_8192, i_12288, i_16383, i_32000, i_33280, i_49152, i_53247, i_60304, i_64000, i_64512, i_65521, i_65535, i_449838109, nI_add, pk_mul, pk_sub, nI_mm, nI_leI, nI_ltI, nI_eq, pk_div, jrem_N, jshl_N, jshr_N, jushr_N, jmin_N, jmax_N, an_1, an_3, an_7, an_15, an_31, an_63, an_127, an_255, an_1023, an_2047, an_16383, an_65535, nm, pfI, rdI, rdW, rdL, rdI2, rdW2, ldA_N, stA_N, stB_N, stZ_N, pfZ_0, pfZ_1, rtZ_0, rtZ_1, acp_N, Option.bind_some, wp_some_iff, true_and, and_true, false_and, and_false, or_true, true_or, or_false, false_or, not_true_eq_false, not_false_eq_true, if_true, if_false, if_pos, if_neg, lt_sub, le_sub, sub_lt3, sub_le3, b2n_f]
theorem isD_20 {μ : Mem} {bs : List Nat} {s0 : Int32} (h : Seg μ 140 0 bs) (h1 : 13 ≤ bs.length) (h2 : bs.length ≤ 60) (hs : bs.length ≠ 13 → s0 = nI (bs.getD 11 0)) : c315_19 (nI 12) (nI 1) (nI (bs.length - 13)) s0 μ = some (μ, nI (b2n (fit 20 bs))) := by
  have g := gl_140
  have b11 := h.get 11
  unfold c315_19
  rw [nm, show (256 : Int32) * nI 12 + nI 1 = nI 3073 by decide]
  refine ite_no (show ¬ nI 3073 = (769 : Int32) by decide) ?_
  refine ite_no (show ¬ nI 3073 = (1538 : Int32) by decide) ?_
  refine ite_no (show ¬ nI 3073 = (1541 : Int32) by decide) ?_
  refine ite_no (show ¬ nI 3073 = (1545 : Int32) by decide) ?_
  refine ite_no (show ¬ nI 3073 = (2049 : Int32) by decide) ?_
  refine ite_no (show ¬ nI 3073 = (2817 : Int32) by decide) ?_
  refine ite_no (show ¬ nI 3073 = (2818 : Int32) by decide) ?_
  refine ite_no (show ¬ nI 3073 = (2819 : Int32) by decide) ?_
  refine ite_no (show ¬ nI 3073 = (2820 : Int32) by decide) ?_
  refine ite_no (show ¬ nI 3073 = (2821 : Int32) by decide) ?_
  refine ite_no (show ¬ nI 3073 = (2831 : Int32) by decide) ?_
  refine ite_no (show ¬ nI 3073 = (2832 : Int32) by decide) ?_
  refine ite_no (show ¬ nI 3073 = (3077 : Int32) by decide) ?_
  refine ite_no (show ¬ nI 3073 = (3085 : Int32) by decide) ?_
  refine ite_no (show ¬ nI 3073 = (3843 : Int32) by decide) ?_
  refine ite_no (show ¬ nI 3073 = (3849 : Int32) by decide) ?_
  refine ite_no (show ¬ nI 3073 = (3851 : Int32) by decide) ?_
  refine ite_no (show ¬ nI 3073 = (3852 : Int32) by decide) ?_
  refine ite_no (show ¬ nI 3073 = (4353 : Int32) by decide) ?_
  refine ite_no (show ¬ nI 3073 = (4865 : Int32) by decide) ?_
  refine ite_no (show ¬ nI 3073 = (5121 : Int32) by decide) ?_
  refine ite_no (show ¬ nI 3073 = (5123 : Int32) by decide) ?_
  rw [fitN rfl rfl, show lnc 20 = 1 from rfl]
  by_cases q : bs.length = 1 + 13
  · rw [decide_eq_true q]
    simp (disch := omega) only [i_0, i_1, i_2, i_3, i_4, i_5, i_6, i_7, i_8, i_9, i_10, i_11, i_12, i_13, i_14, i_15, i_16, i_17, i_18, i_19, i_20, i_21, i_22, i_23, i_24, i_25, i_26, i_27, i_31, i_32, i_40, i_42, i_45, i_48, i_51, i_52, i_56, i_58, i_59, i_60, i_61, i_62, i_63, i_64, i_85, i_90, i_100, i_112, i_120, i_121, i_127, i_128, i_130, i_144, i_171, i_192, i_193, i_197, i_200, i_207, i_235, i_240, i_248, i_252, i_254, i_255, i_256, i_512, i_544, i_768, i_769, i_793, i_1000, i_1023, i_1024, i_1200, i_1538, i_1541, i_1545, i_2046, i_2047, i_2049, i_2060, i_2736, i_2737, i_2817, i_2818, i_2819, i_2820, i_2821, i_2831, i_2832, i_3077, i_3085, i_3843, i_3849, i_3851, i_3852, i_4129, i_4353, i_4865, i_5121, i_5122, i_5123, i_6156, i_8192, i_12288, i_16383, i_32000, i_33280, i_49152, i_53247, i_60304, i_64000, i_64512, i_65521, i_65535, i_449838109, nI_add, pk_mul, pk_sub, nI_mm, nI_leI, nI_ltI, nI_eq, pk_div, jrem_N, jshl_N, jshr_N, jushr_N, jmin_N, jmax_N, an_1, an_3, an_7, an_15, an_31, an_63, an_127, an_255, an_1023, an_2047, an_16383, an_65535, nm, pfI, rdI, rdW, rdL, rdI2, rdW2, ldA_N, stA_N, stB_N, stZ_N, pfZ_0, pfZ_1, rtZ_0, rtZ_1, acp_N, Option.bind_some, wp_some_iff, true_and, and_true, false_and, and_false, or_true, true_or, or_false, false_or, not_true_eq_false, not_false_eq_true, if_true, if_false, if_pos, if_neg, lt_sub, le_sub, sub_lt3, sub_le3, b2n_t]
  · rw [decide_eq_false q]
    simp (disch := omega) only [i_0, i_1, i_2, i_3, i_4, i_5, i_6, i_7, i_8, i_9, i_10, i_11, i_12, i_13, i_14, i_15, i_16, i_17, i_18, i_19, i_20, i_21, i_22, i_23, i_24, i_25, i_26, i_27, i_31, i_32, i_40, i_42, i_45, i_48, i_51, i_52, i_56, i_58, i_59, i_60, i_61, i_62, i_63, i_64, i_85, i_90, i_100, i_112, i_120, i_121, i_127, i_128, i_130, i_144, i_171, i_192, i_193, i_197, i_200, i_207, i_235, i_240, i_248, i_252, i_254, i_255, i_256, i_512, i_544, i_768, i_769, i_793, i_1000, i_1023, i_1024, i_1200, i_1538, i_1541, i_1545, i_2046, i_2047, i_2049, i_2060, i_2736, i_2737, i_2817, i_2818, i_2819, i_2820, i_2821, i_2831, i_2832, i_3077, i_3085, i_3843, i_3849, i_3851, i_3852, i_4129, i_4353, i_4865, i_5121, i_5122, i_5123, i_6156, i_8192, i_12288, i_16383, i_32000, i_33280, i_49152, i_53247, i_60304, i_64000, i_64512, i_65521, i_65535, i_449838109, nI_add, pk_mul, pk_sub, nI_mm, nI_leI, nI_ltI, nI_eq, pk_div, jrem_N, jshl_N, jshr_N, jushr_N, jmin_N, jmax_N, an_1, an_3, an_7, an_15, an_31, an_63, an_127, an_255, an_1023, an_2047, an_16383, an_65535, nm, pfI, rdI, rdW, rdL, rdI2, rdW2, ldA_N, stA_N, stB_N, stZ_N, pfZ_0, pfZ_1, rtZ_0, rtZ_1, acp_N, Option.bind_some, wp_some_iff, true_and, and_true, false_and, and_false, or_true, true_or, or_false, false_or, not_true_eq_false, not_false_eq_true, if_true, if_false, if_pos, if_neg, lt_sub, le_sub, sub_lt3, sub_le3, b2n_f]
theorem isD_21 {μ : Mem} {bs : List Nat} {s0 : Int32} (h : Seg μ 140 0 bs) (h1 : 13 ≤ bs.length) (h2 : bs.length ≤ 60) (hs : bs.length ≠ 13 → s0 = nI (bs.getD 11 0)) : c315_19 (nI 12) (nI 2) (nI (bs.length - 13)) s0 μ = some (μ, nI (b2n (fit 21 bs))) := by
  have g := gl_140
  have b11 := h.get 11
  unfold c315_19
  rw [nm, show (256 : Int32) * nI 12 + nI 2 = nI 3074 by decide]
  refine ite_no (show ¬ nI 3074 = (769 : Int32) by decide) ?_
  refine ite_no (show ¬ nI 3074 = (1538 : Int32) by decide) ?_
  refine ite_no (show ¬ nI 3074 = (1541 : Int32) by decide) ?_
  refine ite_no (show ¬ nI 3074 = (1545 : Int32) by decide) ?_
  refine ite_no (show ¬ nI 3074 = (2049 : Int32) by decide) ?_
  refine ite_no (show ¬ nI 3074 = (2817 : Int32) by decide) ?_
  refine ite_no (show ¬ nI 3074 = (2818 : Int32) by decide) ?_
  refine ite_no (show ¬ nI 3074 = (2819 : Int32) by decide) ?_
  refine ite_no (show ¬ nI 3074 = (2820 : Int32) by decide) ?_
  refine ite_no (show ¬ nI 3074 = (2821 : Int32) by decide) ?_
  refine ite_no (show ¬ nI 3074 = (2831 : Int32) by decide) ?_
  refine ite_no (show ¬ nI 3074 = (2832 : Int32) by decide) ?_
  refine ite_no (show ¬ nI 3074 = (3077 : Int32) by decide) ?_
  refine ite_no (show ¬ nI 3074 = (3085 : Int32) by decide) ?_
  refine ite_no (show ¬ nI 3074 = (3843 : Int32) by decide) ?_
  refine ite_no (show ¬ nI 3074 = (3849 : Int32) by decide) ?_
  refine ite_no (show ¬ nI 3074 = (3851 : Int32) by decide) ?_
  refine ite_no (show ¬ nI 3074 = (3852 : Int32) by decide) ?_
  refine ite_no (show ¬ nI 3074 = (4353 : Int32) by decide) ?_
  refine ite_no (show ¬ nI 3074 = (4865 : Int32) by decide) ?_
  refine ite_no (show ¬ nI 3074 = (5121 : Int32) by decide) ?_
  refine ite_no (show ¬ nI 3074 = (5123 : Int32) by decide) ?_
  rw [fitN rfl rfl, show lnc 21 = 1 from rfl]
  by_cases q : bs.length = 1 + 13
  · rw [decide_eq_true q]
    simp (disch := omega) only [i_0, i_1, i_2, i_3, i_4, i_5, i_6, i_7, i_8, i_9, i_10, i_11, i_12, i_13, i_14, i_15, i_16, i_17, i_18, i_19, i_20, i_21, i_22, i_23, i_24, i_25, i_26, i_27, i_31, i_32, i_40, i_42, i_45, i_48, i_51, i_52, i_56, i_58, i_59, i_60, i_61, i_62, i_63, i_64, i_85, i_90, i_100, i_112, i_120, i_121, i_127, i_128, i_130, i_144, i_171, i_192, i_193, i_197, i_200, i_207, i_235, i_240, i_248, i_252, i_254, i_255, i_256, i_512, i_544, i_768, i_769, i_793, i_1000, i_1023, i_1024, i_1200, i_1538, i_1541, i_1545, i_2046, i_2047, i_2049, i_2060, i_2736, i_2737, i_2817, i_2818, i_2819, i_2820, i_2821, i_2831, i_2832, i_3077, i_3085, i_3843, i_3849, i_3851, i_3852, i_4129, i_4353, i_4865, i_5121, i_5122, i_5123, i_6156, i_8192, i_12288, i_16383, i_32000, i_33280, i_49152, i_53247, i_60304, i_64000, i_64512, i_65521, i_65535, i_449838109, nI_add, pk_mul, pk_sub, nI_mm, nI_leI, nI_ltI, nI_eq, pk_div, jrem_N, jshl_N, jshr_N, jushr_N, jmin_N, jmax_N, an_1, an_3, an_7, an_15, an_31, an_63, an_127, an_255, an_1023, an_2047, an_16383, an_65535, nm, pfI, rdI, rdW, rdL, rdI2, rdW2, ldA_N, stA_N, stB_N, stZ_N, pfZ_0, pfZ_1, rtZ_0, rtZ_1, acp_N, Option.bind_some, wp_some_iff, true_and, and_true, false_and, and_false, or_true, true_or, or_false, false_or, not_true_eq_false, not_false_eq_true, if_true, if_false, if_pos, if_neg, lt_sub, le_sub, sub_lt3, sub_le3, b2n_t]
  · rw [decide_eq_false q]
    simp (disch := omega) only [i_0, i_1, i_2, i_3, i_4, i_5, i_6, i_7, i_8, i_9, i_10, i_11, i_12, i_13, i_14, i_15, i_16, i_17, i_18, i_19, i_20, i_21, i_22, i_23, i_24, i_25, i_26, i_27, i_31, i_32, i_40, i_42, i_45, i_48, i_51, i_52, i_56, i_58, i_59, i_60, i_61, i_62, i_63, i_64, i_85, i_90, i_100, i_112, i_120, i_121, i_127, i_128, i_130, i_144, i_171, i_192, i_193, i_197, i_200, i_207, i_235, i_240, i_248, i_252, i_254, i_255, i_256, i_512, i_544, i_768, i_769, i_793, i_1000, i_1023, i_1024, i_1200, i_1538, i_1541, i_1545, i_2046, i_2047, i_2049, i_2060, i_2736, i_2737, i_2817, i_2818, i_2819, i_2820, i_2821, i_2831, i_2832, i_3077, i_3085, i_3843, i_3849, i_3851, i_3852, i_4129, i_4353, i_4865, i_5121, i_5122, i_5123, i_6156, i_8192, i_12288, i_16383, i_32000, i_33280, i_49152, i_53247, i_60304, i_64000, i_64512, i_65521, i_65535, i_449838109, nI_add, pk_mul, pk_sub, nI_mm, nI_leI, nI_ltI, nI_eq, pk_div, jrem_N, jshl_N, jshr_N, jushr_N, jmin_N, jmax_N, an_1, an_3, an_7, an_15, an_31, an_63, an_127, an_255, an_1023, an_2047, an_16383, an_65535, nm, pfI, rdI, rdW, rdL, rdI2, rdW2, ldA_N, stA_N, stB_N, stZ_N, pfZ_0, pfZ_1, rtZ_0, rtZ_1, acp_N, Option.bind_some, wp_some_iff, true_and, and_true, false_and, and_false, or_true, true_or, or_false, false_or, not_true_eq_false, not_false_eq_true, if_true, if_false, if_pos, if_neg, lt_sub, le_sub, sub_lt3, sub_le3, b2n_f]
theorem isD_22 {μ : Mem} {bs : List Nat} {s0 : Int32} (h : Seg μ 140 0 bs) (h1 : 13 ≤ bs.length) (h2 : bs.length ≤ 60) (hs : bs.length ≠ 13 → s0 = nI (bs.getD 11 0)) : c315_19 (nI 12) (nI 5) (nI (bs.length - 13)) s0 μ = some (μ, nI (b2n (fit 22 bs))) := by
  have g := gl_140
  have b11 := h.get 11
  unfold c315_19
  rw [nm, show (256 : Int32) * nI 12 + nI 5 = nI 3077 by decide]
  refine ite_no (show ¬ nI 3077 = (769 : Int32) by decide) ?_
  refine ite_no (show ¬ nI 3077 = (1538 : Int32) by decide) ?_
  refine ite_no (show ¬ nI 3077 = (1541 : Int32) by decide) ?_
  refine ite_no (show ¬ nI 3077 = (1545 : Int32) by decide) ?_
  refine ite_no (show ¬ nI 3077 = (2049 : Int32) by decide) ?_
  refine ite_no (show ¬ nI 3077 = (2817 : Int32) by decide) ?_
  refine ite_no (show ¬ nI 3077 = (2818 : Int32) by decide) ?_
  refine ite_no (show ¬ nI 3077 = (2819 : Int32) by decide) ?_
  refine ite_no (show ¬ nI 3077 = (2820 : Int32) by decide) ?_
  refine ite_no (show ¬ nI 3077 = (2821 : Int32) by decide) ?_
  refine ite_no (show ¬ nI 3077 = (2831 : Int32) by decide) ?_
  refine ite_no (show ¬ nI 3077 = (2832 : Int32) by decide) ?_
  refine ite_yes (show nI 3077 = (3077 : Int32) by decide) ?_
  rw [fitN rfl rfl, show lnc 22 = 12 from rfl]
  by_cases q : bs.length = 12 + 13
  · rw [decide_eq_true q]
    simp (disch := omega) only [i_0, i_1, i_2, i_3, i_4, i_5, i_6, i_7, i_8, i_9, i_10, i_11, i_12, i_13, i_14, i_15, i_16, i_17, i_18, i_19, i_20, i_21, i_22, i_23, i_24, i_25, i_26, i_27, i_31, i_32, i_40, i_42, i_45, i_48, i_51, i_52, i_56, i_58, i_59, i_60, i_61, i_62, i_63, i_64, i_85, i_90, i_100, i_112, i_120, i_121, i_127, i_128, i_130, i_144, i_171, i_192, i_193, i_197, i_200, i_207, i_235, i_240, i_248, i_252, i_254, i_255, i_256, i_512, i_544, i_768, i_769, i_793, i_1000, i_1023, i_1024, i_1200, i_1538, i_1541, i_1545, i_2046, i_2047, i_2049, i_2060, i_2736, i_2737, i_2817, i_2818, i_2819, i_2820, i_2821, i_2831, i_2832, i_3077, i_3085, i_3843, i_3849, i_3851, i_3852, i_4129, i_4353, i_4865, i_5121, i_5122, i_5123, i_6156, i_8192, i_12288, i_16383, i_32000, i_33280, i_49152, i_53247, i_60304, i_64000, i_64512, i_65521, i_65535, i_449838109, nI_add, pk_mul, pk_sub, nI_mm, nI_leI, nI_ltI, nI_eq, pk_div, jrem_N, jshl_N, jshr_N, jushr_N, jmin_N, jmax_N, an_1, an_3, an_7, an_15, an_31, an_63, an_127, an_255, an_1023, an_2047, an_16383, an_65535, nm, pfI, rdI, rdW, rdL, rdI2, rdW2, ldA_N, stA_N, stB_N, stZ_N, pfZ_0, pfZ_1, rtZ_0, rtZ_1, acp_N, Option.bind_some, wp_some_iff, true_and, and_true, false_and, and_false, or_true, true_or, or_false, false_or, not_true_eq_false, not_false_eq_true, if_true, if_false, if_pos, if_neg, lt_sub, le_sub, sub_lt3, sub_le3, b2n_t]
  · rw [decide_eq_false q]
    simp (disch := omega) only [i_0, i_1, i_2, i_3, i_4, i_5, i_6, i_7, i_8, i_9, i_10, i_11, i_12, i_13, i_14, i_15, i_16, i_17, i_18, i_19, i_20, i_21, i_22, i_23, i_24, i_25, i_26, i_27, i_31, i_32, i_40, i_42, i_45, i_48, i_51, i_52, i_56, i_58, i_59, i_60, i_61, i_62, i_63, i_64, i_85, i_90, i_100, i_112, i_120, i_121, i_127, i_128, i_130, i_144, i_171, i_192, i_193, i_197, i_200, i_207, i_235, i_240, i_248, i_252, i_254, i_255, i_256, i_512, i_544, i_768, i_769, i_793, i_1000, i_1023, i_1024, i_1200, i_1538, i_1541, i_1545, i_2046, i_2047, i_2049, i_2060, i_2736, i_2737, i_2817, i_2818, i_2819, i_2820, i_2821, i_2831, i_2832, i_3077, i_3085, i_3843, i_3849, i_3851, i_3852, i_4129, i_4353, i_4865, i_5121, i_5122, i_5123, i_6156, i_8192, i_12288, i_16383, i_32000, i_33280, i_49152, i_53247, i_60304, i_64000, i_64512, i_65521, i_65535, i_449838109, nI_add, pk_mul, pk_sub, nI_mm, nI_leI, nI_ltI, nI_eq, pk_div, jrem_N, jshl_N, jshr_N, jushr_N, jmin_N, jmax_N, an_1, an_3, an_7, an_15, an_31, an_63, an_127, an_255, an_1023, an_2047, an_16383, an_65535, nm, pfI, rdI, rdW, rdL, rdI2, rdW2, ldA_N, stA_N, stB_N, stZ_N, pfZ_0, pfZ_1, rtZ_0, rtZ_1, acp_N, Option.bind_some, wp_some_iff, true_and, and_true, false_and, and_false, or_true, true_or, or_false, false_or, not_true_eq_false, not_false_eq_true, if_true, if_false, if_pos, if_neg, lt_sub, le_sub, sub_lt3, sub_le3, b2n_f]
theorem isD_23 {μ : Mem} {bs : List Nat} {s0 : Int32} (h : Seg μ 140 0 bs) (h1 : 13 ≤ bs.length) (h2 : bs.length ≤ 60) (hs : bs.length ≠ 13 → s0 = nI (bs.getD 11 0)) : c315_19 (nI 12) (nI 6) (nI (bs.length - 13)) s0 μ = some (μ, nI (b2n (fit 23 bs))) := by
  have g := gl_140
  have b11 := h.get 11
  unfold c315_19
  rw [nm, show (256 : Int32) * nI 12 + nI 6 = nI 3078 by decide]
  refine ite_no (show ¬ nI 3078 = (769 : Int32) by decide) ?_
  refine ite_no (show ¬ nI 3078 = (1538 : Int32) by decide) ?_
  refine ite_no (show ¬ nI 3078 = (1541 : Int32) by decide) ?_
  refine ite_no (show ¬ nI 3078 = (1545 : Int32) by decide) ?_
  refine ite_no (show ¬ nI 3078 = (2049 : Int32) by decide) ?_
  refine ite_no (show ¬ nI 3078 = (2817 : Int32) by decide) ?_
  refine ite_no (show ¬ nI 3078 = (2818 : Int32) by decide) ?_
  refine ite_no (show ¬ nI 3078 = (2819 : Int32) by decide) ?_
  refine ite_no (show ¬ nI 3078 = (2820 : Int32) by decide) ?_
  refine ite_no (show ¬ nI 3078 = (2821 : Int32) by decide) ?_
  refine ite_no (show ¬ nI 3078 = (2831 : Int32) by decide) ?_
  refine ite_no (show ¬ nI 3078 = (2832 : Int32) by decide) ?_
  refine ite_no (show ¬ nI 3078 = (3077 : Int32) by decide) ?_
  refine ite_no (show ¬ nI 3078 = (3085 : Int32) by decide) ?_
  refine ite_no (show ¬ nI 3078 = (3843 : Int32) by decide) ?_
  refine ite_no (show ¬ nI 3078 = (3849 : Int32) by decide) ?_
  refine ite_no (show ¬ nI 3078 = (3851 : Int32) by decide) ?_
  refine ite_no (show ¬ nI 3078 = (3852 : Int32) by decide) ?_
  refine ite_no (show ¬ nI 3078 = (4353 : Int32) by decide) ?_
  refine ite_no (show ¬ nI 3078 = (4865 : Int32) by decide) ?_
  refine ite_no (show ¬ nI 3078 = (5121 : Int32) by decide) ?_
  refine ite_no (show ¬ nI 3078 = (5123 : Int32) by decide) ?_
  rw [fitN rfl rfl, show lnc 23 = 1 from rfl]
  by_cases q : bs.length = 1 + 13
  · rw [decide_eq_true q]
    simp (disch := omega) only [i_0, i_1, i_2, i_3, i_4, i_5, i_6, i_7, i_8, i_9, i_10, i_11, i_12, i_13, i_14, i_15, i_16, i_17, i_18, i_19, i_20, i_21, i_22, i_23, i_24, i_25, i_26, i_27, i_31, i_32, i_40, i_42, i_45, i_48, i_51, i_52, i_56, i_58, i_59, i_60, i_61, i_62, i_63, i_64, i_85, i_90, i_100, i_112, i_120, i_121, i_127, i_128, i_130, i_144, i_171, i_192, i_193, i_197, i_200, i_207, i_235, i_240, i_248, i_252, i_254, i_255, i_256, i_512, i_544, i_768, i_769, i_793, i_1000, i_1023, i_1024, i_1200, i_1538, i_1541, i_1545, i_2046, i_2047, i_2049, i_2060, i_2736, i_2737, i_2817, i_2818, i_2819, i_2820, i_2821, i_2831, i_2832, i_3077, i_3085, i_3843, i_3849, i_3851, i_3852, i_4129, i_4353, i_4865, i_5121, i_5122, i_5123, i_6156, i_8192, i_12288, i_16383, i_32000, i_33280, i_49152, i_53247, i_60304, i_64000, i_64512, i_65521, i_65535, i_449838109, nI_add, pk_mul, pk_sub, nI_mm, nI_leI, nI_ltI, nI_eq, pk_div, jrem_N, jshl_N, jshr_N, jushr_N, jmin_N, jmax_N, an_1, an_3, an_7, an_15, an_31, an_63, an_127, an_255, an_1023, an_2047, an_16383, an_65535, nm, pfI, rdI, rdW, rdL, rdI2, rdW2, ldA_N, stA_N, stB_N, stZ_N, pfZ_0, pfZ_1, rtZ_0, rtZ_1, acp_N, Option.bind_some, wp_some_iff, true_and, and_true, false_and, and_false, or_true, true_or, or_false, false_or, not_true_eq_false, not_false_eq_true, if_true, if_false, if_pos, if_neg, lt_sub, le_sub, sub_lt3, sub_le3, b2n_t]
  · rw [decide_eq_false q]
    simp (disch := omega) only [i_0, i_1, i_2, i_3, i_4, i_5, i_6, i_7, i_8, i_9, i_10, i_11, i_12, i_13, i_14, i_15, i_16, i_17, i_18, i_19, i_20, i_21, i_22, i_23, i_24, i_25, i_26, i_27, i_31, i_32, i_40, i_42, i_45, i_48, i_51, i_52, i_56, i_58, i_59, i_60, i_61, i_62, i_63, i_64, i_85, i_90, i_100, i_112, i_120, i_121, i_127, i_128, i_130, i_144, i_171, i_192, i_193, i_197, i_200, i_207, i_235, i_240, i_248, i_252, i_254, i_255, i_256, i_512, i_544, i_768, i_769, i_793, i_1000, i_1023, i_1024, i_1200, i_1538, i_1541, i_1545, i_2046, i_2047, i_2049, i_2060, i_2736, i_2737, i_2817, i_2818, i_2819, i_2820, i_2821, i_2831, i_2832, i_3077, i_3085, i_3843, i_3849, i_3851, i_3852, i_4129, i_4353, i_4865, i_5121, i_5122, i_5123, i_6156, i_8192, i_12288, i_16383, i_32000, i_33280, i_49152, i_53247, i_60304, i_64000, i_64512, i_65521, i_65535, i_449838109, nI_add, pk_mul, pk_sub, nI_mm, nI_leI, nI_ltI, nI_eq, pk_div, jrem_N, jshl_N, jshr_N, jushr_N, jmin_N, jmax_N, an_1, an_3, an_7, an_15, an_31, an_63, an_127, an_255, an_1023, an_2047, an_16383, an_65535, nm, pfI, rdI, rdW, rdL, rdI2, rdW2, ldA_N, stA_N, stB_N, stZ_N, pfZ_0, pfZ_1, rtZ_0, rtZ_1, acp_N, Option.bind_some, wp_some_iff, true_and, and_true, false_and, and_false, or_true, true_or, or_false, false_or, not_true_eq_false, not_false_eq_true, if_true, if_false, if_pos, if_neg, lt_sub, le_sub, sub_lt3, sub_le3, b2n_f]
theorem isD_24 {μ : Mem} {bs : List Nat} {s0 : Int32} (h : Seg μ 140 0 bs) (h1 : 13 ≤ bs.length) (h2 : bs.length ≤ 60) (hs : bs.length ≠ 13 → s0 = nI (bs.getD 11 0)) : c315_19 (nI 12) (nI 13) (nI (bs.length - 13)) s0 μ = some (μ, nI (b2n (fit 24 bs))) := by
  have g := gl_140
  have b11 := h.get 11
  unfold c315_19
  rw [nm, show (256 : Int32) * nI 12 + nI 13 = nI 3085 by decide]
  refine ite_no (show ¬ nI 3085 = (769 : Int32) by decide) ?_
  refine ite_no (show ¬ nI 3085 = (1538 : Int32) by decide) ?_
  refine ite_no (show ¬ nI 3085 = (1541 : Int32) by decide) ?_
  refine ite_no (show ¬ nI 3085 = (1545 : Int32) by decide) ?_
  refine ite_no (show ¬ nI 3085 = (2049 : Int32) by decide) ?_
  refine ite_no (show ¬ nI 3085 = (2817 : Int32) by decide) ?_
  refine ite_no (show ¬ nI 3085 = (2818 : Int32) by decide) ?_
  refine ite_no (show ¬ nI 3085 = (2819 : Int32) by decide) ?_
  refine ite_no (show ¬ nI 3085 = (2820 : Int32) by decide) ?_
  refine ite_no (show ¬ nI 3085 = (2821 : Int32) by decide) ?_
  refine ite_no (show ¬ nI 3085 = (2831 : Int32) by decide) ?_
  refine ite_no (show ¬ nI 3085 = (2832 : Int32) by decide) ?_
  refine ite_no (show ¬ nI 3085 = (3077 : Int32) by decide) ?_
  refine ite_yes (show nI 3085 = (3085 : Int32) by decide) ?_
  rw [fitN rfl rfl, show lnc 24 = 0 from rfl]
  by_cases q : bs.length = 0 + 13
  · rw [decide_eq_true q]
    simp (disch := omega) only [i_0, i_1, i_2, i_3, i_4, i_5, i_6, i_7, i_8, i_9, i_10, i_11, i_12, i_13, i_14, i_15, i_16, i_17, i_18, i_19, i_20, i_21, i_22, i_23, i_24, i_25, i_26, i_27, i_31, i_32, i_40, i_42, i_45, i_48, i_51, i_52, i_56, i_58, i_59, i_60, i_61, i_62, i_63, i_64, i_85, i_90, i_100, i_112, i_120, i_121, i_127, i_128, i_130, i_144, i_171, i_192, i_193, i_197, i_200, i_207, i_235, i_240, i_248, i_252, i_254, i_255, i_256, i_512, i_544, i_768, i_769, i_793, i_1000, i_1023, i_1024, i_1200, i_1538, i_1541, i_1545, i_2046, i_2047, i_2049, i_2060, i_2736, i_2737, i_2817, i_2818, i_2819, i_2820, i_2821, i_2831, i_2832, i_3077, i_3085, i_3843, i_3849, i_3851, i_3852, i_4129, i_4353, i_4865, i_5121, i_5122, i_5123, i_6156, i_8192, i_12288, i_16383, i_32000, i_33280, i_49152, i_53247, i_60304, i_64000, i_64512, i_65521, i_65535, i_449838109, nI_add, pk_mul, pk_sub, nI_mm, nI_leI, nI_ltI, nI_eq, pk_div, jrem_N, jshl_N, jshr_N, jushr_N, jmin_N, jmax_N, an_1, an_3, an_7, an_15, an_31, an_63, an_127, an_255, an_1023, an_2047, an_16383, an_65535, nm, pfI, rdI, rdW, rdL, rdI2, rdW2, ldA_N, stA_N, stB_N, stZ_N, pfZ_0, pfZ_1, rtZ_0, rtZ_1, acp_N, Option.bind_some, wp_some_iff, true_and, and_true, false_and, and_false, or_true, true_or, or_false, false_or, not_true_eq_false, not_false_eq_true, if_true, if_false, if_pos, if_neg, lt_sub, le_sub, sub_lt3, sub_le3, b2n_t]
  · rw [decide_eq_false q]
    simp (disch := omega) only [i_0, i_1, i_2, i_3, i_4, i_5, i_6, i_7, i_8, i_9, i_10, i_11, i_12, i_13, i_14, i_15, i_16, i_17, i_18, i_19, i_20, i_21, i_22, i_23, i_24, i_25, i_26, i_27, i_31, i_32, i_40, i_42, i_45, i_48, i_51, i_52, i_56, i_58, i_59, i_60, i_61, i_62, i_63, i_64, i_85, i_90, i_100, i_112, i_120, i_121, i_127, i_128, i_130, i_144, i_171, i_192, i_193, i_197, i_200, i_207, i_235, i_240, i_248, i_252, i_254, i_255, i_256, i_512, i_544, i_768, i_769, i_793, i_1000, i_1023, i_1024, i_1200, i_1538, i_1541, i_1545, i_2046, i_2047, i_2049, i_2060, i_2736, i_2737, i_2817, i_2818, i_2819, i_2820, i_2821, i_2831, i_2832, i_3077, i_3085, i_3843, i_3849, i_3851, i_3852, i_4129, i_4353, i_4865, i_5121, i_5122, i_5123, i_6156, i_8192, i_12288, i_16383, i_32000, i_33280, i_49152, i_53247, i_60304, i_64000, i_64512, i_65521, i_65535, i_449838109, nI_add, pk_mul, pk_sub, nI_mm, nI_leI, nI_ltI, nI_eq, pk_div, jrem_N, jshl_N, jshr_N, jushr_N, jmin_N, jmax_N, an_1, an_3, an_7, an_15, an_31, an_63, an_127, an_255, an_1023, an_2047, an_16383, an_65535, nm, pfI, rdI, rdW, rdL, rdI2, rdW2, ldA_N, stA_N, stB_N, stZ_N, pfZ_0, pfZ_1, rtZ_0, rtZ_1, acp_N, Option.bind_some, wp_some_iff, true_and, and_true, false_and, and_false, or_true, true_or, or_false, false_or, not_true_eq_false, not_false_eq_true, if_true, if_false, if_pos, if_neg, lt_sub, le_sub, sub_lt3, sub_le3, b2n_f]
theorem isD_25 {μ : Mem} {bs : List Nat} {s0 : Int32} (h : Seg μ 140 0 bs) (h1 : 13 ≤ bs.length) (h2 : bs.length ≤ 60) (hs : bs.length ≠ 13 → s0 = nI (bs.getD 11 0)) : c315_19 (nI 15) (nI 1) (nI (bs.length - 13)) s0 μ = some (μ, nI (b2n (fit 25 bs))) := by
  have g := gl_140
  have b11 := h.get 11
  unfold c315_19
  rw [nm, show (256 : Int32) * nI 15 + nI 1 = nI 3841 by decide]
  refine ite_no (show ¬ nI 3841 = (769 : Int32) by decide) ?_
  refine ite_no (show ¬ nI 3841 = (1538 : Int32) by decide) ?_
  refine ite_no (show ¬ nI 3841 = (1541 : Int32) by decide) ?_
  refine ite_no (show ¬ nI 3841 = (1545 : Int32) by decide) ?_
  refine ite_no (show ¬ nI 3841 = (2049 : Int32) by decide) ?_
  refine ite_no (show ¬ nI 3841 = (2817 : Int32) by decide) ?_
  refine ite_no (show ¬ nI 3841 = (2818 : Int32) by decide) ?_
  refine ite_no (show ¬ nI 3841 = (2819 : Int32) by decide) ?_
  refine ite_no (show ¬ nI 3841 = (2820 : Int32) by decide) ?_
  refine ite_no (show ¬ nI 3841 = (2821 : Int32) by decide) ?_
  refine ite_no (show ¬ nI 3841 = (2831 : Int32) by decide) ?_
  refine ite_no (show ¬ nI 3841 = (2832 : Int32) by decide) ?_
  refine ite_no (show ¬ nI 3841 = (3077 : Int32) by decide) ?_
  refine ite_no (show ¬ nI 3841 = (3085 : Int32) by decide) ?_
  refine ite_no (show ¬ nI 3841 = (3843 : Int32) by decide) ?_
  refine ite_no (show ¬ nI 3841 = (3849 : Int32) by decide) ?_
  refine ite_no (show ¬ nI 3841 = (3851 : Int32) by decide) ?_
  refine ite_no (show ¬ nI 3841 = (3852 : Int32) by decide) ?_
  refine ite_no (show ¬ nI 3841 = (4353 : Int32) by decide) ?_
  refine ite_no (show ¬ nI 3841 = (4865 : Int32) by decide) ?_
  refine ite_no (show ¬ nI 3841 = (5121 : Int32) by decide) ?_
  refine ite_no (show ¬ nI 3841 = (5123 : Int32) by decide) ?_
  rw [fitN rfl rfl, show lnc 25 = 1 from rfl]
  by_cases q : bs.length = 1 + 13
  · rw [decide_eq_true q]
    simp (disch := omega) only [i_0, i_1, i_2, i_3, i_4, i_5, i_6, i_7, i_8, i_9, i_10, i_11, i_12, i_13, i_14, i_15, i_16, i_17, i_18, i_19, i_20, i_21, i_22, i_23, i_24, i_25, i_26, i_27, i_31, i_32, i_40, i_42, i_45, i_48, i_51, i_52, i_56, i_58, i_59, i_60, i_61, i_62, i_63, i_64, i_85, i_90, i_100, i_112, i_120, i_121, i_127, i_128, i_130, i_144, i_171, i_192, i_193, i_197, i_200, i_207, i_235, i_240, i_248, i_252, i_254, i_255, i_256, i_512, i_544, i_768, i_769, i_793, i_1000, i_1023, i_1024, i_1200, i_1538, i_1541, i_1545, i_2046, i_2047, i_2049, i_2060, i_2736, i_2737, i_2817, i_2818, i_2819, i_2820, i_2821, i_2831, i_2832, i_3077, i_3085, i_3843, i_3849, i_3851, i_3852, i_4129, i_4353, i_4865, i_5121, i_5122, i_5123, i_6156, i_8192, i_12288, i_16383, i_32000, i_33280, i_49152, i_53247, i_60304, i_64000, i_64512, i_65521, i_65535, i_449838109, nI_add, pk_mul, pk_sub, nI_mm, nI_leI, nI_ltI, nI_eq, pk_div, jrem_N, jshl_N, jshr_N, jushr_N, jmin_N, jmax_N, an_1, an_3, an_7, an_15, an_31, an_63, an_127, an_255, an_1023, an_2047, an_16383, an_65535, nm, pfI, rdI, rdW, rdL, rdI2, rdW2, ldA_N, stA_N, stB_N, stZ_N, pfZ_0, pfZ_1, rtZ_0, rtZ_1, acp_N, Option.bind_some, wp_some_iff, true_and, and_true, false_and, and_false, or_true, true_or, or_false, false_or, not_true_eq_false, not_false_eq_true, if_true, if_false, if_pos, if_neg, lt_sub, le_sub, sub_lt3, sub_le3, b2n_t]
  · rw [decide_eq_false q]
    simp (disch := omega) only [i_0, i_1, i_2, i_3, i_4, i_5, i_6, i_7, i_8, i_9, i_10, i_11, i_12, i_13, i_14, i_15, i_16, i_17, i_18, i_19, i_20, i_21, i_22, i_23, i_24, i_25, i_26, i_27, i_31, i_32, i_40, i_42, i_45, i_48, i_51, i_52, i_56, i_58, i_59, i_60, i_61, i_62, i_63, i_64, i_85, i_90, i_100, i_112, i_120, i_121, i_127, i_128, i_130, i_144, i_171, i_192, i_193, i_197, i_200, i_207, i_235, i_240, i_248, i_252, i_254, i_255, i_256, i_512, i_544, i_768, i_769, i_793, i_1000, i_1023, i_1024, i_1200, i_1538, i_1541, i_1545, i_2046, i_2047, i_2049, i_2060, i_2736, i_2737, i_2817, i_2818, i_2819, i_2820, i_2821, i_2831, i_2832, i_3077, i_3085, i_3843, i_3849, i_3851, i_3852, i_4129, i_4353, i_4865, i_5121, i_5122, i_5123, i_6156, i_8192, i_12288, i_16383, i_32000, i_33280, i_49152, i_53247, i_60304, i_64000, i_64512, i_65521, i_65535, i_449838109, nI_add, pk_mul, pk_sub, nI_mm, nI_leI, nI_ltI, nI_eq, pk_div, jrem_N, jshl_N, jshr_N, jushr_N, jmin_N, jmax_N, an_1, an_3, an_7, an_15, an_31, an_63, an_127, an_255, an_1023, an_2047, an_16383, an_65535, nm, pfI, rdI, rdW, rdL, rdI2, rdW2, ldA_N, stA_N, stB_N, stZ_N, pfZ_0, pfZ_1, rtZ_0, rtZ_1, acp_N, Option.bind_some, wp_some_iff, true_and, and_true, false_and, and_false, or_true, true_or, or_false, false_or, not_true_eq_false, not_false_eq_true, if_true, if_false, if_pos, if_neg, lt_sub, le_sub, sub_lt3, sub_le3, b2n_f]
theorem isD_26 {μ : Mem} {bs : List Nat} {s0 : Int32} (h : Seg μ 140 0 bs) (h1 : 13 ≤ bs.length) (h2 : bs.length ≤ 60) (hs : bs.length ≠ 13 → s0 = nI (bs.getD 11 0)) : c315_19 (nI 15) (nI 2) (nI (bs.length - 13)) s0 μ = some (μ, nI (b2n (fit 26 bs))) := by
  have g := gl_140
  have b11 := h.get 11
  unfold c315_19
  rw [nm, show (256 : Int32) * nI 15 + nI 2 = nI 3842 by decide]
  refine ite_no (show ¬ nI 3842 = (769 : Int32) by decide) ?_
  refine ite_no (show ¬ nI 3842 = (1538 : Int32) by decide) ?_
  refine ite_no (show ¬ nI 3842 = (1541 : Int32) by decide) ?_
  refine ite_no (show ¬ nI 3842 = (1545 : Int32) by decide) ?_
  refine ite_no (show ¬ nI 3842 = (2049 : Int32) by decide) ?_
  refine ite_no (show ¬ nI 3842 = (2817 : Int32) by decide) ?_
  refine ite_no (show ¬ nI 3842 = (2818 : Int32) by decide) ?_
  refine ite_no (show ¬ nI 3842 = (2819 : Int32) by decide) ?_
  refine ite_no (show ¬ nI 3842 = (2820 : Int32) by decide) ?_
  refine ite_no (show ¬ nI 3842 = (2821 : Int32) by decide) ?_
  refine ite_no (show ¬ nI 3842 = (2831 : Int32) by decide) ?_
  refine ite_no (show ¬ nI 3842 = (2832 : Int32) by decide) ?_
  refine ite_no (show ¬ nI 3842 = (3077 : Int32) by decide) ?_
  refine ite_no (show ¬ nI 3842 = (3085 : Int32) by decide) ?_
  refine ite_no (show ¬ nI 3842 = (3843 : Int32) by decide) ?_
  refine ite_no (show ¬ nI 3842 = (3849 : Int32) by decide) ?_
  refine ite_no (show ¬ nI 3842 = (3851 : Int32) by decide) ?_
  refine ite_no (show ¬ nI 3842 = (3852 : Int32) by decide) ?_
  refine ite_no (show ¬ nI 3842 = (4353 : Int32) by decide) ?_
  refine ite_no (show ¬ nI 3842 = (4865 : Int32) by decide) ?_
  refine ite_no (show ¬ nI 3842 = (5121 : Int32) by decide) ?_
  refine ite_no (show ¬ nI 3842 = (5123 : Int32) by decide) ?_
  rw [fitN rfl rfl, show lnc 26 = 1 from rfl]
  by_cases q : bs.length = 1 + 13
  · rw [decide_eq_true q]
    simp (disch := omega) only [i_0, i_1, i_2, i_3, i_4, i_5, i_6, i_7, i_8, i_9, i_10, i_11, i_12, i_13, i_14, i_15, i_16, i_17, i_18, i_19, i_20, i_21, i_22, i_23, i_24, i_25, i_26, i_27, i_31, i_32, i_40, i_42, i_45, i_48, i_51, i_52, i_56, i_58, i_59, i_60, i_61, i_62, i_63, i_64, i_85, i_90, i_100, i_112, i_120, i_121, i_127, i_128, i_130, i_144, i_171, i_192, i_193, i_197, i_200, i_207, i_235, i_240, i_248, i_252, i_254, i_255, i_256, i_512, i_544, i_768, i_769, i_793, i_1000, i_1023, i_1024, i_1200, i_1538, i_1541, i_1545, i_2046, i_2047, i_2049, i_2060, i_2736, i_2737, i_2817, i_2818, i_2819, i_2820, i_2821, i_2831, i_2832, i_3077, i_3085, i_3843, i_3849, i_3851, i_3852, i_4129, i_4353, i_4865, i_5121, i_5122, i_5123, i_6156, i_8192, i_12288, i_16383, i_32000, i_33280, i_49152, i_53247, i_60304, i_64000, i_64512, i_65521, i_65535, i_449838109, nI_add, pk_mul, pk_sub, nI_mm, nI_leI, nI_ltI, nI_eq, pk_div, jrem_N, jshl_N, jshr_N, jushr_N, jmin_N, jmax_N, an_1, an_3, an_7, an_15, an_31, an_63, an_127, an_255, an_1023, an_2047, an_16383, an_65535, nm, pfI, rdI, rdW, rdL, rdI2, rdW2, ldA_N, stA_N, stB_N, stZ_N, pfZ_0, pfZ_1, rtZ_0, rtZ_1, acp_N, Option.bind_some, wp_some_iff, true_and, and_true, false_and, and_false, or_true, true_or, or_false, false_or, not_true_eq_false, not_false_eq_true, if_true, if_false, if_pos, if_neg, lt_sub, le_sub, sub_lt3, sub_le3, b2n_t]
  · rw [decide_eq_false q]
    simp (disch := omega) only [i_0, i_1, i_2, i_3, i_4, i_5, i_6, i_7, i_8, i_9, i_10, i_11, i_12, i_13, i_14, i_15, i_16, i_17, i_18, i_19, i_20, i_21, i_22, i_23, i_24, i_25, i_26, i_27, i_31, i_32, i_40, i_42, i_45, i_48, i_51, i_52, i_56, i_58, i_59, i_60, i_61, i_62, i_63, i_64, i_85, i_90, i_100, i_112, i_120, i_121, i_127, i_128, i_130, i_144, i_171, i_192, i_193, i_197, i_200, i_207, i_235, i_240, i_248, i_252, i_254, i_255, i_256, i_512, i_544, i_768, i_769, i_793, i_1000, i_1023, i_1024, i_1200, i_1538, i_1541, i_1545, i_2046, i_2047, i_2049, i_2060, i_2736, i_2737, i_2817, i_2818, i_2819, i_2820, i_2821, i_2831, i_2832, i_3077, i_3085, i_3843, i_3849, i_3851, i_3852, i_4129, i_4353, i_4865, i_5121, i_5122, i_5123, i_6156, i_8192, i_12288, i_16383, i_32000, i_33280, i_49152, i_53247, i_60304, i_64000, i_64512, i_65521, i_65535, i_449838109, nI_add, pk_mul, pk_sub, nI_mm, nI_leI, nI_ltI, nI_eq, pk_div, jrem_N, jshl_N, jshr_N, jushr_N, jmin_N, jmax_N, an_1, an_3, an_7, an_15, an_31, an_63, an_127, an_255, an_1023, an_2047, an_16383, an_65535, nm, pfI, rdI, rdW, rdL, rdI2, rdW2, ldA_N, stA_N, stB_N, stZ_N, pfZ_0, pfZ_1, rtZ_0, rtZ_1, acp_N, Option.bind_some, wp_some_iff, true_and, and_true, false_and, and_false, or_true, true_or, or_false, false_or, not_true_eq_false, not_false_eq_true, if_true, if_false, if_pos, if_neg, lt_sub, le_sub, sub_lt3, sub_le3, b2n_f]
theorem isD_27 {μ : Mem} {bs : List Nat} {s0 : Int32} (h : Seg μ 140 0 bs) (h1 : 13 ≤ bs.length) (h2 : bs.length ≤ 60) (hs : bs.length ≠ 13 → s0 = nI (bs.getD 11 0)) : c315_19 (nI 15) (nI 3) (nI (bs.length - 13)) s0 μ = some (μ, nI (b2n (fit 27 bs))) := by
  have g := gl_140
  have b11 := h.get 11
  unfold c315_19
  rw [nm, show (256 : Int32) * nI 15 + nI 3 = nI 3843 by decide]
  refine ite_no (show ¬ nI 3843 = (769 : Int32) by decide) ?_
  refine ite_no (show ¬ nI 3843 = (1538 : Int32) by decide) ?_
  refine ite_no (show ¬ nI 3843 = (1541 : Int32) by decide) ?_
  refine ite_no (show ¬ nI 3843 = (1545 : Int32) by decide) ?_
  refine ite_no (show ¬ nI 3843 = (2049 : Int32) by decide) ?_
  refine ite_no (show ¬ nI 3843 = (2817 : Int32) by decide) ?_
  refine ite_no (show ¬ nI 3843 = (2818 : Int32) by decide) ?_
  refine ite_no (show ¬ nI 3843 = (2819 : Int32) by decide) ?_
  refine ite_no (show ¬ nI 3843 = (2820 : Int32) by decide) ?_
  refine ite_no (show ¬ nI 3843 = (2821 : Int32) by decide) ?_
  refine ite_no (show ¬ nI 3843 = (2831 : Int32) by decide) ?_
  refine ite_no (show ¬ nI 3843 = (2832 : Int32) by decide) ?_
  refine ite_no (show ¬ nI 3843 = (3077 : Int32) by decide) ?_
  refine ite_no (show ¬ nI 3843 = (3085 : Int32) by decide) ?_
  refine ite_yes (show nI 3843 = (3843 : Int32) by decide) ?_
  rw [fitN rfl rfl, show lnc 27 = 3 from rfl]
  by_cases q : bs.length = 3 + 13
  · rw [decide_eq_true q]
    simp (disch := omega) only [i_0, i_1, i_2, i_3, i_4, i_5, i_6, i_7, i_8, i_9, i_10, i_11, i_12, i_13, i_14, i_15, i_16, i_17, i_18, i_19, i_20, i_21, i_22, i_23, i_24, i_25, i_26, i_27, i_31, i_32, i_40, i_42, i_45, i_48, i_51, i_52, i_56, i_58, i_59, i_60, i_61, i_62, i_63, i_64, i_85, i_90, i_100, i_112, i_120, i_121, i_127, i_128, i_130, i_144, i_171, i_192, i_193, i_197, i_200, i_207, i_235, i_240, i_248, i_252, i_254, i_255, i_256, i_512, i_544, i_768, i_769, i_793, i_1000, i_1023, i_1024, i_1200, i_1538, i_1541, i_1545, i_2046, i_2047, i_2049, i_2060, i_2736, i_2737, i_2817, i_2818, i_2819, i_2820, i_2821, i_2831, i_2832, i_3077, i_3085, i_3843, i_3849, i_3851, i_3852, i_4129, i_4353, i_4865, i_5121, i_5122, i_5123, i_6156, i_8192, i_12288, i_16383, i_32000, i_33280, i_49152, i_53247, i_60304, i_64000, i_64512, i_65521, i_65535, i_449838109, nI_add, pk_mul, pk_sub, nI_mm, nI_leI, nI_ltI, nI_eq, pk_div, jrem_N, jshl_N, jshr_N, jushr_N, jmin_N, jmax_N, an_1, an_3, an_7, an_15, an_31, an_63, an_127, an_255, an_1023, an_2047, an_16383, an_65535, nm, pfI, rdI, rdW, rdL, rdI2, rdW2, ldA_N, stA_N, stB_N, stZ_N, pfZ_0, pfZ_1, rtZ_0, rtZ_1, acp_N, Option.bind_some, wp_some_iff, true_and, and_true, false_and, and_false, or_true, true_or, or_false, false_or, not_true_eq_false, not_false_eq_true, if_true, if_false, if_pos, if_neg, lt_sub, le_sub, sub_lt3, sub_le3, b2n_t]
  · rw [decide_eq_false q]
    simp (disch := omega) only [i_0, i_1, i_2, i_3, i_4, i_5, i_6, i_7, i_8, i_9, i_10, i_11, i_12, i_13, i_14, i_15, i_16, i_17, i_18, i_19, i_20, i_21, i_22, i_23, i_24, i_25, i_26, i_27, i_31, i_32, i_40, i_42, i_45, i_48, i_51, i_52, i_56, i_58, i_59, i_60, i_61, i_62, i_63, i_64, i_85, i_90, i_100, i_112, i_120, i_121, i_127, i_128, i_130, i_144, i_171, i_192, i_193, i_197, i_200, i_207, i_235, i_240, i_248, i_252, i_254, i_255, i_256, i_512, i_544, i_768, i_769, i_793, i_1000, i_1023, i_1024, i_1200, i_1538, i_1541, i_1545, i_2046, i_2047, i_2049, i_2060, i_2736, i_2737, i_2817, i_2818, i_2819, i_2820, i_2821, i_2831, i_2832, i_3077, i_3085, i_3843, i_3849, i_3851, i_3852, i_4129, i_4353, i_4865, i_5121, i_5122, i_5123, i_6156, i_8192, i_12288, i_16383, i_32000, i_33280, i_49152, i_53247, i_60304, i_64000, i_64512, i_65521, i_65535, i_449838109, nI_add, pk_mul, pk_sub, nI_mm, nI_leI, nI_ltI, nI_eq, pk_div, jrem_N, jshl_N, jshr_N, jushr_N, jmin_N, jmax_N, an_1, an_3, an_7, an_15, an_31, an_63, an_127, an_255, an_1023, an_2047, an_16383, an_65535, nm, pfI, rdI, rdW, rdL, rdI2, rdW2, ldA_N, stA_N, stB_N, stZ_N, pfZ_0, pfZ_1, rtZ_0, rtZ_1, acp_N, Option.bind_some, wp_some_iff, true_and, and_true, false_and, and_false, or_true, true_or, or_false, false_or, not_true_eq_false, not_false_eq_true, if_true, if_false, if_pos, if_neg, lt_sub, le_sub, sub_lt3, sub_le3, b2n_f]
theorem isD_28 {μ : Mem} {bs : List Nat} {s0 : Int32} (h : Seg μ 140 0 bs) (h1 : 13 ≤ bs.length) (h2 : bs.length ≤ 60) (hs : bs.length ≠ 13 → s0 = nI (bs.getD 11 0)) : c315_19 (nI 15) (nI 9) (nI (bs.length - 13)) s0 μ = some (μ, nI (b2n (fit 28 bs))) := by
  have g := gl_140
  have b11 := h.get 11
  unfold c315_19
  rw [nm, show (256 : Int32) * nI 15 + nI 9 = nI 3849 by decide]
  refine ite_no (show ¬ nI 3849 = (769 : Int32) by decide) ?_
  refine ite_no (show ¬ nI 3849 = (1538 : Int32) by decide) ?_
  refine ite_no (show ¬ nI 3849 = (1541 : Int32) by decide) ?_
  refine ite_no (show ¬ nI 3849 = (1545 : Int32) by decide) ?_
  refine ite_no (show ¬ nI 3849 = (2049 : Int32) by decide) ?_
  refine ite_no (show ¬ nI 3849 = (2817 : Int32) by decide) ?_
  refine ite_no (show ¬ nI 3849 = (2818 : Int32) by decide) ?_
  refine ite_no (show ¬ nI 3849 = (2819 : Int32) by decide) ?_
  refine ite_no (show ¬ nI 3849 = (2820 : Int32) by decide) ?_
  refine ite_no (show ¬ nI 3849 = (2821 : Int32) by decide) ?_
  refine ite_no (show ¬ nI 3849 = (2831 : Int32) by decide) ?_
  refine ite_no (show ¬ nI 3849 = (2832 : Int32) by decide) ?_
  refine ite_no (show ¬ nI 3849 = (3077 : Int32) by decide) ?_
  refine ite_no (show ¬ nI 3849 = (3085 : Int32) by decide) ?_
  refine ite_no (show ¬ nI 3849 = (3843 : Int32) by decide) ?_
  refine ite_yes (show nI 3849 = (3849 : Int32) by decide) ?_
  rw [fitN rfl rfl, show lnc 28 = 9 from rfl]
  by_cases q : bs.length = 9 + 13
  · rw [decide_eq_true q]
    simp (disch := omega) only [i_0, i_1, i_2, i_3, i_4, i_5, i_6, i_7, i_8, i_9, i_10, i_11, i_12, i_13, i_14, i_15, i_16, i_17, i_18, i_19, i_20, i_21, i_22, i_23, i_24, i_25, i_26, i_27, i_31, i_32, i_40, i_42, i_45, i_48, i_51, i_52, i_56, i_58, i_59, i_60, i_61, i_62, i_63, i_64, i_85, i_90, i_100, i_112, i_120, i_121, i_127, i_128, i_130, i_144, i_171, i_192, i_193, i_197, i_200, i_207, i_235, i_240, i_248, i_252, i_254, i_255, i_256, i_512, i_544, i_768, i_769, i_793, i_1000, i_1023, i_1024, i_1200, i_1538, i_1541, i_1545, i_2046, i_2047, i_2049, i_2060, i_2736, i_2737, i_2817, i_2818, i_2819, i_2820, i_2821, i_2831, i_2832, i_3077, i_3085, i_3843, i_3849, i_3851, i_3852, i_4129, i_4353, i_4865, i_5121, i_5122, i_5123, i_6156, i_8192, i_12288, i_16383, i_32000, i_33280, i_49152, i_53247, i_60304, i_64000, i_64512, i_65521, i_65535, i_449838109, nI_add, pk_mul, pk_sub, nI_mm, nI_leI, nI_ltI, nI_eq, pk_div, jrem_N, jshl_N, jshr_N, jushr_N, jmin_N, jmax_N, an_1, an_3, an_7, an_15, an_31, an_63, an_127, an_255, an_1023, an_2047, an_16383, an_65535, nm, pfI, rdI, rdW, rdL, rdI2, rdW2, ldA_N, stA_N, stB_N, stZ_N, pfZ_0, pfZ_1, rtZ_0, rtZ_1, acp_N, Option.bind_some, wp_some_iff, true_and, and_true, false_and, and_false, or_true, true_or, or_false, false_or, not_true_eq_false, not_false_eq_true, if_true, if_false, if_pos, if_neg, lt_sub, le_sub, sub_lt3, sub_le3, b2n_t]
  · rw [decide_eq_false q]
    simp (disch := omega) only [i_0, i_1, i_2, i_3, i_4, i_5, i_6, i_7, i_8, i_9, i_10, i_11, i_12, i_13, i_14, i_15, i_16, i_17, i_18, i_19, i_20, i_21, i_22, i_23, i_24, i_25, i_26, i_27, i_31, i_32, i_40, i_42, i_45, i_48, i_51, i_52, i_56, i_58, i_59, i_60, i_61, i_62, i_63, i_64, i_85, i_90, i_100, i_112, i_120, i_121, i_127, i_128, i_130, i_144, i_171, i_192, i_193, i_197, i_200, i_207, i_235, i_240, i_248, i_252, i_254, i_255, i_256, i_512, i_544, i_768, i_769, i_793, i_1000, i_1023, i_1024, i_1200, i_1538, i_1541, i_1545, i_2046, i_2047, i_2049, i_2060, i_2736, i_2737, i_2817, i_2818, i_2819, i_2820, i_2821, i_2831, i_2832, i_3077, i_3085, i_3843, i_3849, i_3851, i_3852, i_4129, i_4353, i_4865, i_5121, i_5122, i_5123, i_6156, i_8192, i_12288, i_16383, i_32000, i_33280, i_49152, i_53247, i_60304, i_64000, i_64512, i_65521, i_65535, i_449838109, nI_add, pk_mul, pk_sub, nI_mm, nI_leI, nI_ltI, nI_eq, pk_div, jrem_N, jshl_N, jshr_N, jushr_N, jmin_N, jmax_N, an_1, an_3, an_7, an_15, an_31, an_63, an_127, an_255, an_1023, an_2047, an_16383, an_65535, nm, pfI, rdI, rdW, rdL, rdI2, rdW2, ldA_N, stA_N, stB_N, stZ_N, pfZ_0, pfZ_1, rtZ_0, rtZ_1, acp_N, Option.bind_some, wp_some_iff, true_and, and_true, false_and, and_false, or_true, true_or, or_false, false_or, not_true_eq_false, not_false_eq_true, if_true, if_false, if_pos, if_neg, lt_sub, le_sub, sub_lt3, sub_le3, b2n_f]
theorem isD_29 {μ : Mem} {bs : List Nat} {s0 : Int32} (h : Seg μ 140 0 bs) (h1 : 13 ≤ bs.length) (h2 : bs.length ≤ 60) (hs : bs.length ≠ 13 → s0 = nI (bs.getD 11 0)) : c315_19 (nI 15) (nI 11) (nI (bs.length - 13)) s0 μ = some (μ, nI (b2n (fit 29 bs))) := by
  have g := gl_140
  have b11 := h.get 11
  unfold c315_19
  rw [nm, show (256 : Int32) * nI 15 + nI 11 = nI 3851 by decide]
  refine ite_no (show ¬ nI 3851 = (769 : Int32) by decide) ?_
  refine ite_no (show ¬ nI 3851 = (1538 : Int32) by decide) ?_
  refine ite_no (show ¬ nI 3851 = (1541 : Int32) by decide) ?_
  refine ite_no (show ¬ nI 3851 = (1545 : Int32) by decide) ?_
  refine ite_no (show ¬ nI 3851 = (2049 : Int32) by decide) ?_
  refine ite_no (show ¬ nI 3851 = (2817 : Int32) by decide) ?_
  refine ite_no (show ¬ nI 3851 = (2818 : Int32) by decide) ?_
  refine ite_no (show ¬ nI 3851 = (2819 : Int32) by decide) ?_
  refine ite_no (show ¬ nI 3851 = (2820 : Int32) by decide) ?_
  refine ite_no (show ¬ nI 3851 = (2821 : Int32) by decide) ?_
  refine ite_no (show ¬ nI 3851 = (2831 : Int32) by decide) ?_
  refine ite_no (show ¬ nI 3851 = (2832 : Int32) by decide) ?_
  refine ite_no (show ¬ nI 3851 = (3077 : Int32) by decide) ?_
  refine ite_no (show ¬ nI 3851 = (3085 : Int32) by decide) ?_
  refine ite_no (show ¬ nI 3851 = (3843 : Int32) by decide) ?_
  refine ite_no (show ¬ nI 3851 = (3849 : Int32) by decide) ?_
  refine ite_yes (show nI 3851 = (3851 : Int32) by decide) ?_
  rw [fitN rfl rfl, show lnc 29 = 5 from rfl]
  by_cases q : bs.length = 5 + 13
  · rw [decide_eq_true q]
    simp (disch := omega) only [i_0, i_1, i_2, i_3, i_4, i_5, i_6, i_7, i_8, i_9, i_10, i_11, i_12, i_13, i_14, i_15, i_16, i_17, i_18, i_19, i_20, i_21, i_22, i_23, i_24, i_25, i_26, i_27, i_31, i_32, i_40, i_42, i_45, i_48, i_51, i_52, i_56, i_58, i_59, i_60, i_61, i_62, i_63, i_64, i_85, i_90, i_100, i_112, i_120, i_121, i_127, i_128, i_130, i_144, i_171, i_192, i_193, i_197, i_200, i_207, i_235, i_240, i_248, i_252, i_254, i_255, i_256, i_512, i_544, i_768, i_769, i_793, i_1000, i_1023, i_1024, i_1200, i_1538, i_1541, i_1545, i_2046, i_2047, i_2049, i_2060, i_2736, i_2737, i_2817, i_2818, i_2819, i_2820, i_2821, i_2831, i_2832, i_3077, i_3085, i_3843, i_3849, i_3851, i_3852, i_4129, i_4353, i_4865, i_5121, i_5122, i_5123, i_6156, i_8192, i_12288, i_16383, i_32000, i_33280, i_49152, i_53247, i_60304, i_64000, i_64512, i_65521, i_65535, i_449838109, nI_add, pk_mul, pk_sub, nI_mm, nI_leI, nI_ltI, nI_eq, pk_div, jrem_N, jshl_N, jshr_N, jushr_N, jmin_N, jmax_N, an_1, an_3, an_7, an_15, an_31, an_63, an_127, an_255, an_1023, an_2047, an_16383, an_65535, nm, pfI, rdI, rdW, rdL, rdI2, rdW2, ldA_N, stA_N, stB_N, stZ_N, pfZ_0, pfZ_1, rtZ_0, rtZ_1, acp_N, Option.bind_some, wp_some_iff, true_and, and_true, false_and, and_false, or_true, true_or, or_false, false_or, not_true_eq_false, not_false_eq_true, if_true, if_false, if_pos, if_neg, lt_sub, le_sub, sub_lt3, sub_le3, b2n_t]
  · rw [decide_eq_false q]
    simp (disch := omega) only [i_0, i_1, i_2, i_3, i_4, i_5, i_6, i_7, i_8, i_9, i_10, i_11, i_12, i_13, i_14, i_15, i_16, i_17, i_18, i_19, i_20, i_21, i_22, i_23, i_24, i_25, i_26, i_27, i_31, i_32, i_40, i_42, i_45, i_48, i_51, i_52, i_56, i_58, i_59, i_60, i_61, i_62, i_63, i_64, i_85, i_90, i_100, i_112, i_120, i_121, i_127, i_128, i_130, i_144, i_171, i_192, i_193, i_197, i_200, i_207, i_235, i_240, i_248, i_252, i_254, i_255, i_256, i_512, i_544, i_768, i_769, i_793, i_1000, i_1023, i_1024, i_1200, i_1538, i_1541, i_1545, i_2046, i_2047, i_2049, i_2060, i_2736, i_2737, i_2817, i_2818, i_2819, i_2820, i_2821, i_2831, i_2832, i_3077, i_3085, i_3843, i_3849, i_3851, i_3852, i_4129, i_4353, i_4865, i_5121, i_5122, i_5123, i_6156, i_8192, i_12288, i_16383, i_32000, i_33280, i_49152, i_53247, i_60304, i_64000, i_64512, i_65521, i_65535, i_449838109, nI_add, pk_mul, pk_sub, nI_mm, nI_leI, nI_ltI, nI_eq, pk_div, jrem_N, jshl_N, jshr_N, jushr_N, jmin_N, jmax_N, an_1, an_3, an_7, an_15, an_31, an_63, an_127, an_255, an_1023, an_2047, an_16383, an_65535, nm, pfI, rdI, rdW, rdL, rdI2, rdW2, ldA_N, stA_N, stB_N, stZ_N, pfZ_0, pfZ_1, rtZ_0, rtZ_1, acp_N, Option.bind_some, wp_some_iff, true_and, and_true, false_and, and_false, or_true, true_or, or_false, false_or, not_true_eq_false, not_false_eq_true, if_true, if_false, if_pos, if_neg, lt_sub, le_sub, sub_lt3, sub_le3, b2n_f]
theorem isD_30 {μ : Mem} {bs : List Nat} {s0 : Int32} (h : Seg μ 140 0 bs) (h1 : 13 ≤ bs.length) (h2 : bs.length ≤ 60) (hs : bs.length ≠ 13 → s0 = nI (bs.getD 11 0)) : c315_19 (nI 15) (nI 12) (nI (bs.length - 13)) s0 μ = some (μ, nI (b2n (fit 30 bs))) := by
  have g := gl_140
  have b11 := h.get 11
  unfold c315_19
  rw [nm, show (256 : Int32) * nI 15 + nI 12 = nI 3852 by decide]
  refine ite_no (show ¬ nI 3852 = (769 : Int32) by decide) ?_
  refine ite_no (show ¬ nI 3852 = (1538 : Int32) by decide) ?_
  refine ite_no (show ¬ nI 3852 = (1541 : Int32) by decide) ?_
  refine ite_no (show ¬ nI 3852 = (1545 : Int32) by decide) ?_
  refine ite_no (show ¬ nI 3852 = (2049 : Int32) by decide) ?_
  refine ite_no (show ¬ nI 3852 = (2817 : Int32) by decide) ?_
  refine ite_no (show ¬ nI 3852 = (2818 : Int32) by decide) ?_
  refine ite_no (show ¬ nI 3852 = (2819 : Int32) by decide) ?_
  refine ite_no (show ¬ nI 3852 = (2820 : Int32) by decide) ?_
  refine ite_no (show ¬ nI 3852 = (2821 : Int32) by decide) ?_
  refine ite_no (show ¬ nI 3852 = (2831 : Int32) by decide) ?_
  refine ite_no (show ¬ nI 3852 = (2832 : Int32) by decide) ?_
  refine ite_no (show ¬ nI 3852 = (3077 : Int32) by decide) ?_
  refine ite_no (show ¬ nI 3852 = (3085 : Int32) by decide) ?_
  refine ite_no (show ¬ nI 3852 = (3843 : Int32) by decide) ?_
  refine ite_no (show ¬ nI 3852 = (3849 : Int32) by decide) ?_
  refine ite_no (show ¬ nI 3852 = (3851 : Int32) by decide) ?_
  refine ite_yes (show nI 3852 = (3852 : Int32) by decide) ?_
  have b12 := h.get 12
  have e12 := h.z (i := 12) (by omega)
  rw [show fit 30 bs = (decide (bs.length = 2 + 13) && decide (bs.getD 12 0 ≤ 1)) from rfl]
  by_cases q : bs.length = 15
  · simp (disch := omega) only [i_0, i_1, i_2, i_3, i_4, i_5, i_6, i_7, i_8, i_9, i_10, i_11, i_12, i_13, i_14, i_15, i_16, i_17, i_18, i_19, i_20, i_21, i_22, i_23, i_24, i_25, i_26, i_27, i_31, i_32, i_40, i_42, i_45, i_48, i_51, i_52, i_56, i_58, i_59, i_60, i_61, i_62, i_63, i_64, i_85, i_90, i_100, i_112, i_120, i_121, i_127, i_128, i_130, i_144, i_171, i_192, i_193, i_197, i_200, i_207, i_235, i_240, i_248, i_252, i_254, i_255, i_256, i_512, i_544, i_768, i_769, i_793, i_1000, i_1023, i_1024, i_1200, i_1538, i_1541, i_1545, i_2046, i_2047, i_2049, i_2060, i_2736, i_2737, i_2817, i_2818, i_2819, i_2820, i_2821, i_2831, i_2832, i_3077, i_3085, i_3843, i_3849, i_3851, i_3852, i_4129, i_4353, i_4865, i_5121, i_5122, i_5123, i_6156, i_8192, i_12288, i_16383, i_32000, i_33280, i_49152, i_53247, i_60304, i_64000, i_64512, i_65521, i_65535, i_449838109, nI_add, pk_mul, pk_sub, nI_mm, nI_leI, nI_ltI, nI_eq, pk_div, jrem_N, jshl_N, jshr_N, jushr_N, jmin_N, jmax_N, an_1, an_3, an_7, an_15, an_31, an_63, an_127, an_255, an_1023, an_2047, an_16383, an_65535, nm, pfI, rdI, rdW, rdL, rdI2, rdW2, ldA_N, stA_N, stB_N, stZ_N, pfZ_0, pfZ_1, rtZ_0, rtZ_1, acp_N, Option.bind_some, wp_some_iff, true_and, and_true, false_and, and_false, or_true, true_or, or_false, false_or, not_true_eq_false, not_false_eq_true, if_true, if_false, if_pos, if_neg, lt_sub, le_sub, sub_lt3, sub_le3, e12]
    rw [decide_eq_true (show bs.length = 2 + 13 from q)]
    by_cases z : bs.getD 12 0 ≤ 1
    · rw [if_neg (by omega), decide_eq_true z]; rfl
    · rw [if_pos (by omega), decide_eq_false z]; rfl
  · rw [decide_eq_false (show ¬ bs.length = 2 + 13 from q)]
    by_cases q2 : bs.length = 13
    · simp (disch := omega) only [i_0, i_1, i_2, i_3, i_4, i_5, i_6, i_7, i_8, i_9, i_10, i_11, i_12, i_13, i_14, i_15, i_16, i_17, i_18, i_19, i_20, i_21, i_22, i_23, i_24, i_25, i_26, i_27, i_31, i_32, i_40, i_42, i_45, i_48, i_51, i_52, i_56, i_58, i_59, i_60, i_61, i_62, i_63, i_64, i_85, i_90, i_100, i_112, i_120, i_121, i_127, i_128, i_130, i_144, i_171, i_192, i_193, i_197, i_200, i_207, i_235, i_240, i_248, i_252, i_254, i_255, i_256, i_512, i_544, i_768, i_769, i_793, i_1000, i_1023, i_1024, i_1200, i_1538, i_1541, i_1545, i_2046, i_2047, i_2049, i_2060, i_2736, i_2737, i_2817, i_2818, i_2819, i_2820, i_2821, i_2831, i_2832, i_3077, i_3085, i_3843, i_3849, i_3851, i_3852, i_4129, i_4353, i_4865, i_5121, i_5122, i_5123, i_6156, i_8192, i_12288, i_16383, i_32000, i_33280, i_49152, i_53247, i_60304, i_64000, i_64512, i_65521, i_65535, i_449838109, nI_add, pk_mul, pk_sub, nI_mm, nI_leI, nI_ltI, nI_eq, pk_div, jrem_N, jshl_N, jshr_N, jushr_N, jmin_N, jmax_N, an_1, an_3, an_7, an_15, an_31, an_63, an_127, an_255, an_1023, an_2047, an_16383, an_65535, nm, pfI, rdI, rdW, rdL, rdI2, rdW2, ldA_N, stA_N, stB_N, stZ_N, pfZ_0, pfZ_1, rtZ_0, rtZ_1, acp_N, Option.bind_some, wp_some_iff, true_and, and_true, false_and, and_false, or_true, true_or, or_false, false_or, not_true_eq_false, not_false_eq_true, if_true, if_false, if_pos, if_neg, lt_sub, le_sub, sub_lt3, sub_le3, Bool.false_and, b2n_f]
    · simp (disch := omega) only [i_0, i_1, i_2, i_3, i_4, i_5, i_6, i_7, i_8, i_9, i_10, i_11, i_12, i_13, i_14, i_15, i_16, i_17, i_18, i_19, i_20, i_21, i_22, i_23, i_24, i_25, i_26, i_27, i_31, i_32, i_40, i_42, i_45, i_48, i_51, i_52, i_56, i_58, i_59, i_60, i_61, i_62, i_63, i_64, i_85, i_90, i_100, i_112, i_120, i_121, i_127, i_128, i_130, i_144, i_171, i_192, i_193, i_197, i_200, i_207, i_235, i_240, i_248, i_252, i_254, i_255, i_256, i_512, i_544, i_768, i_769, i_793, i_1000, i_1023, i_1024, i_1200, i_1538, i_1541, i_1545, i_2046, i_2047, i_2049, i_2060, i_2736, i_2737, i_2817, i_2818, i_2819, i_2820, i_2821, i_2831, i_2832, i_3077, i_3085, i_3843, i_3849, i_3851, i_3852, i_4129, i_4353, i_4865, i_5121, i_5122, i_5123, i_6156, i_8192, i_12288, i_16383, i_32000, i_33280, i_49152, i_53247, i_60304, i_64000, i_64512, i_65521, i_65535, i_449838109, nI_add, pk_mul, pk_sub, nI_mm, nI_leI, nI_ltI, nI_eq, pk_div, jrem_N, jshl_N, jshr_N, jushr_N, jmin_N, jmax_N, an_1, an_3, an_7, an_15, an_31, an_63, an_127, an_255, an_1023, an_2047, an_16383, an_65535, nm, pfI, rdI, rdW, rdL, rdI2, rdW2, ldA_N, stA_N, stB_N, stZ_N, pfZ_0, pfZ_1, rtZ_0, rtZ_1, acp_N, Option.bind_some, wp_some_iff, true_and, and_true, false_and, and_false, or_true, true_or, or_false, false_or, not_true_eq_false, not_false_eq_true, if_true, if_false, if_pos, if_neg, lt_sub, le_sub, sub_lt3, sub_le3, Bool.false_and, b2n_f]
theorem isD_31 {μ : Mem} {bs : List Nat} {s0 : Int32} (h : Seg μ 140 0 bs) (h1 : 13 ≤ bs.length) (h2 : bs.length ≤ 60) (hs : bs.length ≠ 13 → s0 = nI (bs.getD 11 0)) : c315_19 (nI 17) (nI 1) (nI (bs.length - 13)) s0 μ = some (μ, nI (b2n (fit 31 bs))) := by
  have g := gl_140
  have b11 := h.get 11
  unfold c315_19
  rw [nm, show (256 : Int32) * nI 17 + nI 1 = nI 4353 by decide]
  refine ite_no (show ¬ nI 4353 = (769 : Int32) by decide) ?_
  refine ite_no (show ¬ nI 4353 = (1538 : Int32) by decide) ?_
  refine ite_no (show ¬ nI 4353 = (1541 : Int32) by decide) ?_
  refine ite_no (show ¬ nI 4353 = (1545 : Int32) by decide) ?_
  refine ite_no (show ¬ nI 4353 = (2049 : Int32) by decide) ?_
  refine ite_no (show ¬ nI 4353 = (2817 : Int32) by decide) ?_
  refine ite_no (show ¬ nI 4353 = (2818 : Int32) by decide) ?_
  refine ite_no (show ¬ nI 4353 = (2819 : Int32) by decide) ?_
  refine ite_no (show ¬ nI 4353 = (2820 : Int32) by decide) ?_
  refine ite_no (show ¬ nI 4353 = (2821 : Int32) by decide) ?_
  refine ite_no (show ¬ nI 4353 = (2831 : Int32) by decide) ?_
  refine ite_no (show ¬ nI 4353 = (2832 : Int32) by decide) ?_
  refine ite_no (show ¬ nI 4353 = (3077 : Int32) by decide) ?_
  refine ite_no (show ¬ nI 4353 = (3085 : Int32) by decide) ?_
  refine ite_no (show ¬ nI 4353 = (3843 : Int32) by decide) ?_
  refine ite_no (show ¬ nI 4353 = (3849 : Int32) by decide) ?_
  refine ite_no (show ¬ nI 4353 = (3851 : Int32) by decide) ?_
  refine ite_no (show ¬ nI 4353 = (3852 : Int32) by decide) ?_
  refine ite_yes (show nI 4353 = (4353 : Int32) by decide) ?_
  rw [fitN rfl rfl, show lnc 31 = 0 from rfl]
  by_cases q : bs.length = 0 + 13
  · rw [decide_eq_true q]
    simp (disch := omega) only [i_0, i_1, i_2, i_3, i_4, i_5, i_6, i_7, i_8, i_9, i_10, i_11, i_12, i_13, i_14, i_15, i_16, i_17, i_18, i_19, i_20, i_21, i_22, i_23, i_24, i_25, i_26, i_27, i_31, i_32, i_40, i_42, i_45, i_48, i_51, i_52, i_56, i_58, i_59, i_60, i_61, i_62, i_63, i_64, i_85, i_90, i_100, i_112, i_120, i_121, i_127, i_128, i_130, i_144, i_171, i_192, i_193, i_197, i_200, i_207, i_235, i_240, i_248, i_252, i_254, i_255, i_256, i_512, i_544, i_768, i_769, i_793, i_1000, i_1023, i_1024, i_1200, i_1538, i_1541, i_1545, i_2046, i_2047, i_2049, i_2060, i_2736, i_2737, i_2817, i_2818, i_2819, i_2820, i_2821, i_2831, i_2832, i_3077, i_3085, i_3843, i_3849, i_3851, i_3852, i_4129, i_4353, i_4865, i_5121, i_5122, i_5123, i_6156, i_8192, i_12288, i_16383, i_32000, i_33280, i_49152, i_53247, i_60304, i_64000, i_64512, i_65521, i_65535, i_449838109, nI_add, pk_mul, pk_sub, nI_mm, nI_leI, nI_ltI, nI_eq, pk_div, jrem_N, jshl_N, jshr_N, jushr_N, jmin_N, jmax_N, an_1, an_3, an_7, an_15, an_31, an_63, an_127, an_255, an_1023, an_2047, an_16383, an_65535, nm, pfI, rdI, rdW, rdL, rdI2, rdW2, ldA_N, stA_N, stB_N, stZ_N, pfZ_0, pfZ_1, rtZ_0, rtZ_1, acp_N, Option.bind_some, wp_some_iff, true_and, and_true, false_and, and_false, or_true, true_or, or_false, false_or, not_true_eq_false, not_false_eq_true, if_true, if_false, if_pos, if_neg, lt_sub, le_sub, sub_lt3, sub_le3, b2n_t]
  · rw [decide_eq_false q]
    simp (disch := omega) only [i_0, i_1, i_2, i_3, i_4, i_5, i_6, i_7, i_8, i_9, i_10, i_11, i_12, i_13, i_14, i_15, i_16, i_17, i_18, i_19, i_20, i_21, i_22, i_23, i_24, i_25, i_26, i_27, i_31, i_32, i_40, i_42, i_45, i_48, i_51, i_52, i_56, i_58, i_59, i_60, i_61, i_62, i_63, i_64, i_85, i_90, i_100, i_112, i_120, i_121, i_127, i_128, i_130, i_144, i_171, i_192, i_193, i_197, i_200, i_207, i_235, i_240, i_248, i_252, i_254, i_255, i_256, i_512, i_544, i_768, i_769, i_793, i_1000, i_1023, i_1024, i_1200, i_1538, i_1541, i_1545, i_2046, i_2047, i_2049, i_2060, i_2736, i_2737, i_2817, i_2818, i_2819, i_2820, i_2821, i_2831, i_2832, i_3077, i_3085, i_3843, i_3849, i_3851, i_3852, i_4129, i_4353, i_4865, i_5121, i_5122, i_5123, i_6156, i_8192, i_12288, i_16383, i_32000, i_33280, i_49152, i_53247, i_60304, i_64000, i_64512, i_65521, i_65535, i_449838109, nI_add, pk_mul, pk_sub, nI_mm, nI_leI, nI_ltI, nI_eq, pk_div, jrem_N, jshl_N, jshr_N, jushr_N, jmin_N, jmax_N, an_1, an_3, an_7, an_15, an_31, an_63, an_127, an_255, an_1023, an_2047, an_16383, an_65535, nm, pfI, rdI, rdW, rdL, rdI2, rdW2, ldA_N, stA_N, stB_N, stZ_N, pfZ_0, pfZ_1, rtZ_0, rtZ_1, acp_N, Option.bind_some, wp_some_iff, true_and, and_true, false_and, and_false, or_true, true_or, or_false, false_or, not_true_eq_false, not_false_eq_true, if_true, if_false, if_pos, if_neg, lt_sub, le_sub, sub_lt3, sub_le3, b2n_f]
theorem isD_32 {μ : Mem} {bs : List Nat} {s0 : Int32} (h : Seg μ 140 0 bs) (h1 : 13 ≤ bs.length) (h2 : bs.length ≤ 60) (hs : bs.length ≠ 13 → s0 = nI (bs.getD 11 0)) : c315_19 (nI 19) (nI 1) (nI (bs.length - 13)) s0 μ = some (μ, nI (b2n (fit 32 bs))) := by
  have g := gl_140
  have b11 := h.get 11
  unfold c315_19
  rw [nm, show (256 : Int32) * nI 19 + nI 1 = nI 4865 by decide]
  refine ite_no (show ¬ nI 4865 = (769 : Int32) by decide) ?_
  refine ite_no (show ¬ nI 4865 = (1538 : Int32) by decide) ?_
  refine ite_no (show ¬ nI 4865 = (1541 : Int32) by decide) ?_
  refine ite_no (show ¬ nI 4865 = (1545 : Int32) by decide) ?_
  refine ite_no (show ¬ nI 4865 = (2049 : Int32) by decide) ?_
  refine ite_no (show ¬ nI 4865 = (2817 : Int32) by decide) ?_
  refine ite_no (show ¬ nI 4865 = (2818 : Int32) by decide) ?_
  refine ite_no (show ¬ nI 4865 = (2819 : Int32) by decide) ?_
  refine ite_no (show ¬ nI 4865 = (2820 : Int32) by decide) ?_
  refine ite_no (show ¬ nI 4865 = (2821 : Int32) by decide) ?_
  refine ite_no (show ¬ nI 4865 = (2831 : Int32) by decide) ?_
  refine ite_no (show ¬ nI 4865 = (2832 : Int32) by decide) ?_
  refine ite_no (show ¬ nI 4865 = (3077 : Int32) by decide) ?_
  refine ite_no (show ¬ nI 4865 = (3085 : Int32) by decide) ?_
  refine ite_no (show ¬ nI 4865 = (3843 : Int32) by decide) ?_
  refine ite_no (show ¬ nI 4865 = (3849 : Int32) by decide) ?_
  refine ite_no (show ¬ nI 4865 = (3851 : Int32) by decide) ?_
  refine ite_no (show ¬ nI 4865 = (3852 : Int32) by decide) ?_
  refine ite_no (show ¬ nI 4865 = (4353 : Int32) by decide) ?_
  refine ite_yes (show nI 4865 = (4865 : Int32) by decide) ?_
  have b12 := h.get 12
  have e12 := h.z (i := 12) (by omega)
  rw [show fit 32 bs = (decide (2 + 26 ≤ bs.length ∧ bs.length ≤ 2 + 53) && decide (bs.getD 12 0 ≤ 1)) from rfl]
  by_cases q : 2 + 26 ≤ bs.length ∧ bs.length ≤ 2 + 53
  · simp (disch := omega) only [i_0, i_1, i_2, i_3, i_4, i_5, i_6, i_7, i_8, i_9, i_10, i_11, i_12, i_13, i_14, i_15, i_16, i_17, i_18, i_19, i_20, i_21, i_22, i_23, i_24, i_25, i_26, i_27, i_31, i_32, i_40, i_42, i_45, i_48, i_51, i_52, i_56, i_58, i_59, i_60, i_61, i_62, i_63, i_64, i_85, i_90, i_100, i_112, i_120, i_121, i_127, i_128, i_130, i_144, i_171, i_192, i_193, i_197, i_200, i_207, i_235, i_240, i_248, i_252, i_254, i_255, i_256, i_512, i_544, i_768, i_769, i_793, i_1000, i_1023, i_1024, i_1200, i_1538, i_1541, i_1545, i_2046, i_2047, i_2049, i_2060, i_2736, i_2737, i_2817, i_2818, i_2819, i_2820, i_2821, i_2831, i_2832, i_3077, i_3085, i_3843, i_3849, i_3851, i_3852, i_4129, i_4353, i_4865, i_5121, i_5122, i_5123, i_6156, i_8192, i_12288, i_16383, i_32000, i_33280, i_49152, i_53247, i_60304, i_64000, i_64512, i_65521, i_65535, i_449838109, nI_add, pk_mul, pk_sub, nI_mm, nI_leI, nI_ltI, nI_eq, pk_div, jrem_N, jshl_N, jshr_N, jushr_N, jmin_N, jmax_N, an_1, an_3, an_7, an_15, an_31, an_63, an_127, an_255, an_1023, an_2047, an_16383, an_65535, nm, pfI, rdI, rdW, rdL, rdI2, rdW2, ldA_N, stA_N, stB_N, stZ_N, pfZ_0, pfZ_1, rtZ_0, rtZ_1, acp_N, Option.bind_some, wp_some_iff, true_and, and_true, false_and, and_false, or_true, true_or, or_false, false_or, not_true_eq_false, not_false_eq_true, if_true, if_false, if_pos, if_neg, lt_sub, le_sub, sub_lt3, sub_le3, e12]
    rw [decide_eq_true q]
    by_cases z : bs.getD 12 0 ≤ 1
    · rw [if_neg (by omega), decide_eq_true z]; rfl
    · rw [if_pos (by omega), decide_eq_false z]; rfl
  · rw [decide_eq_false q]
    by_cases q2 : bs.length = 13
    · simp (disch := omega) only [i_0, i_1, i_2, i_3, i_4, i_5, i_6, i_7, i_8, i_9, i_10, i_11, i_12, i_13, i_14, i_15, i_16, i_17, i_18, i_19, i_20, i_21, i_22, i_23, i_24, i_25, i_26, i_27, i_31, i_32, i_40, i_42, i_45, i_48, i_51, i_52, i_56, i_58, i_59, i_60, i_61, i_62, i_63, i_64, i_85, i_90, i_100, i_112, i_120, i_121, i_127, i_128, i_130, i_144, i_171, i_192, i_193, i_197, i_200, i_207, i_235, i_240, i_248, i_252, i_254, i_255, i_256, i_512, i_544, i_768, i_769, i_793, i_1000, i_1023, i_1024, i_1200, i_1538, i_1541, i_1545, i_2046, i_2047, i_2049, i_2060, i_2736, i_2737, i_2817, i_2818, i_2819, i_2820, i_2821, i_2831, i_2832, i_3077, i_3085, i_3843, i_3849, i_3851, i_3852, i_4129, i_4353, i_4865, i_5121, i_5122, i_5123, i_6156, i_8192, i_12288, i_16383, i_32000, i_33280, i_49152, i_53247, i_60304, i_64000, i_64512, i_65521, i_65535, i_449838109, nI_add, pk_mul, pk_sub, nI_mm, nI_leI, nI_ltI, nI_eq, pk_div, jrem_N, jshl_N, jshr_N, jushr_N, jmin_N, jmax_N, an_1, an_3, an_7, an_15, an_31, an_63, an_127, an_255, an_1023, an_2047, an_16383, an_65535, nm, pfI, rdI, rdW, rdL, rdI2, rdW2, ldA_N, stA_N, stB_N, stZ_N, pfZ_0, pfZ_1, rtZ_0, rtZ_1, acp_N, Option.bind_some, wp_some_iff, true_and, and_true, false_and, and_false, or_true, true_or, or_false, false_or, not_true_eq_false, not_false_eq_true, if_true, if_false, if_pos, if_neg, lt_sub, le_sub, sub_lt3, sub_le3, Bool.false_and, b2n_f]
    · by_cases q3 : bs.length < 28
      · simp (disch := omega) only [i_0, i_1, i_2, i_3, i_4, i_5, i_6, i_7, i_8, i_9, i_10, i_11, i_12, i_13, i_14, i_15, i_16, i_17, i_18, i_19, i_20, i_21, i_22, i_23, i_24, i_25, i_26, i_27, i_31, i_32, i_40, i_42, i_45, i_48, i_51, i_52, i_56, i_58, i_59, i_60, i_61, i_62, i_63, i_64, i_85, i_90, i_100, i_112, i_120, i_121, i_127, i_128, i_130, i_144, i_171, i_192, i_193, i_197, i_200, i_207, i_235, i_240, i_248, i_252, i_254, i_255, i_256, i_512, i_544, i_768, i_769, i_793, i_1000, i_1023, i_1024, i_1200, i_1538, i_1541, i_1545, i_2046, i_2047, i_2049, i_2060, i_2736, i_2737, i_2817, i_2818, i_2819, i_2820, i_2821, i_2831, i_2832, i_3077, i_3085, i_3843, i_3849, i_3851, i_3852, i_4129, i_4353, i_4865, i_5121, i_5122, i_5123, i_6156, i_8192, i_12288, i_16383, i_32000, i_33280, i_49152, i_53247, i_60304, i_64000, i_64512, i_65521, i_65535, i_449838109, nI_add, pk_mul, pk_sub, nI_mm, nI_leI, nI_ltI, nI_eq, pk_div, jrem_N, jshl_N, jshr_N, jushr_N, jmin_N, jmax_N, an_1, an_3, an_7, an_15, an_31, an_63, an_127, an_255, an_1023, an_2047, an_16383, an_65535, nm, pfI, rdI, rdW, rdL, rdI2, rdW2, ldA_N, stA_N, stB_N, stZ_N, pfZ_0, pfZ_1, rtZ_0, rtZ_1, acp_N, Option.bind_some, wp_some_iff, true_and, and_true, false_and, and_false, or_true, true_or, or_false, false_or, not_true_eq_false, not_false_eq_true, if_true, if_false, if_pos, if_neg, lt_sub, le_sub, sub_lt3, sub_le3, Bool.false_and, b2n_f]
      · simp (disch := omega) only [i_0, i_1, i_2, i_3, i_4, i_5, i_6, i_7, i_8, i_9, i_10, i_11, i_12, i_13, i_14, i_15, i_16, i_17, i_18, i_19, i_20, i_21, i_22, i_23, i_24, i_25, i_26, i_27, i_31, i_32, i_40, i_42, i_45, i_48, i_51, i_52, i_56, i_58, i_59, i_60, i_61, i_62, i_63, i_64, i_85, i_90, i_100, i_112, i_120, i_121, i_127, i_128, i_130, i_144, i_171, i_192, i_193, i_197, i_200, i_207, i_235, i_240, i_248, i_252, i_254, i_255, i_256, i_512, i_544, i_768, i_769, i_793, i_1000, i_1023, i_1024, i_1200, i_1538, i_1541, i_1545, i_2046, i_2047, i_2049, i_2060, i_2736, i_2737, i_2817, i_2818, i_2819, i_2820, i_2821, i_2831, i_2832, i_3077, i_3085, i_3843, i_3849, i_3851, i_3852, i_4129, i_4353, i_4865, i_5121, i_5122, i_5123, i_6156, i_8192, i_12288, i_16383, i_32000, i_33280, i_49152, i_53247, i_60304, i_64000, i_64512, i_65521, i_65535, i_449838109, nI_add, pk_mul, pk_sub, nI_mm, nI_leI, nI_ltI, nI_eq, pk_div, jrem_N, jshl_N, jshr_N, jushr_N, jmin_N, jmax_N, an_1, an_3, an_7, an_15, an_31, an_63, an_127, an_255, an_1023, an_2047, an_16383, an_65535, nm, pfI, rdI, rdW, rdL, rdI2, rdW2, ldA_N, stA_N, stB_N, stZ_N, pfZ_0, pfZ_1, rtZ_0, rtZ_1, acp_N, Option.bind_some, wp_some_iff, true_and, and_true, false_and, and_false, or_true, true_or, or_false, false_or, not_true_eq_false, not_false_eq_true, if_true, if_false, if_pos, if_neg, lt_sub, le_sub, sub_lt3, sub_le3, Bool.false_and, b2n_f]
theorem isD_33 {μ : Mem} {bs : List Nat} {s0 : Int32} (h : Seg μ 140 0 bs) (h1 : 13 ≤ bs.length) (h2 : bs.length ≤ 60) (hs : bs.length ≠ 13 → s0 = nI (bs.getD 11 0)) : c315_19 (nI 19) (nI 2) (nI (bs.length - 13)) s0 μ = some (μ, nI (b2n (fit 33 bs))) := by
  have g := gl_140
  have b11 := h.get 11
  unfold c315_19
  rw [nm, show (256 : Int32) * nI 19 + nI 2 = nI 4866 by decide]
  refine ite_no (show ¬ nI 4866 = (769 : Int32) by decide) ?_
  refine ite_no (show ¬ nI 4866 = (1538 : Int32) by decide) ?_
  refine ite_no (show ¬ nI 4866 = (1541 : Int32) by decide) ?_
  refine ite_no (show ¬ nI 4866 = (1545 : Int32) by decide) ?_
  refine ite_no (show ¬ nI 4866 = (2049 : Int32) by decide) ?_
  refine ite_no (show ¬ nI 4866 = (2817 : Int32) by decide) ?_
  refine ite_no (show ¬ nI 4866 = (2818 : Int32) by decide) ?_
  refine ite_no (show ¬ nI 4866 = (2819 : Int32) by decide) ?_
  refine ite_no (show ¬ nI 4866 = (2820 : Int32) by decide) ?_
  refine ite_no (show ¬ nI 4866 = (2821 : Int32) by decide) ?_
  refine ite_no (show ¬ nI 4866 = (2831 : Int32) by decide) ?_
  refine ite_no (show ¬ nI 4866 = (2832 : Int32) by decide) ?_
  refine ite_no (show ¬ nI 4866 = (3077 : Int32) by decide) ?_
  refine ite_no (show ¬ nI 4866 = (3085 : Int32) by decide) ?_
  refine ite_no (show ¬ nI 4866 = (3843 : Int32) by decide) ?_
  refine ite_no (show ¬ nI 4866 = (3849 : Int32) by decide) ?_
  refine ite_no (show ¬ nI 4866 = (3851 : Int32) by decide) ?_
  refine ite_no (show ¬ nI 4866 = (3852 : Int32) by decide) ?_
  refine ite_no (show ¬ nI 4866 = (4353 : Int32) by decide) ?_
  refine ite_no (show ¬ nI 4866 = (4865 : Int32) by decide) ?_
  refine ite_no (show ¬ nI 4866 = (5121 : Int32) by decide) ?_
  refine ite_no (show ¬ nI 4866 = (5123 : Int32) by decide) ?_
  rw [fitN rfl rfl, show lnc 33 = 1 from rfl]
  by_cases q : bs.length = 1 + 13
  · rw [decide_eq_true q]
    simp (disch := omega) only [i_0, i_1, i_2, i_3, i_4, i_5, i_6, i_7, i_8, i_9, i_10, i_11, i_12, i_13, i_14, i_15, i_16, i_17, i_18, i_19, i_20, i_21, i_22, i_23, i_24, i_25, i_26, i_27, i_31, i_32, i_40, i_42, i_45, i_48, i_51, i_52, i_56, i_58, i_59, i_60, i_61, i_62, i_63, i_64, i_85, i_90, i_100, i_112, i_120, i_121, i_127, i_128, i_130, i_144, i_171, i_192, i_193, i_197, i_200, i_207, i_235, i_240, i_248, i_252, i_254, i_255, i_256, i_512, i_544, i_768, i_769, i_793, i_1000, i_1023, i_1024, i_1200, i_1538, i_1541, i_1545, i_2046, i_2047, i_2049, i_2060, i_2736, i_2737, i_2817, i_2818, i_2819, i_2820, i_2821, i_2831, i_2832, i_3077, i_3085, i_3843, i_3849, i_3851, i_3852, i_4129, i_4353, i_4865, i_5121, i_5122, i_5123, i_6156, i_8192, i_12288, i_16383, i_32000, i_33280, i_49152, i_53247, i_60304, i_64000, i_64512, i_65521, i_65535, i_449838109, nI_add, pk_mul, pk_sub, nI_mm, nI_leI, nI_ltI, nI_eq, pk_div, jrem_N, jshl_N, jshr_N, jushr_N, jmin_N, jmax_N, an_1, an_3, an_7, an_15, an_31, an_63, an_127, an_255, an_1023, an_2047, an_16383, an_65535, nm, pfI, rdI, rdW, rdL, rdI2, rdW2, ldA_N, stA_N, stB_N, stZ_N, pfZ_0, pfZ_1, rtZ_0, rtZ_1, acp_N, Option.bind_some, wp_some_iff, true_and, and_true, false_and, and_false, or_true, true_or, or_false, false_or, not_true_eq_false, not_false_eq_true, if_true, if_false, if_pos, if_neg, lt_sub, le_sub, sub_lt3, sub_le3, b2n_t]
  · rw [decide_eq_false q]
    simp (disch := omega) only [i_0, i_1, i_2, i_3, i_4, i_5, i_6, i_7, i_8, i_9, i_10, i_11, i_12, i_13, i_14, i_15, i_16, i_17, i_18, i_19, i_20, i_21, i_22, i_23, i_24, i_25, i_26, i_27, i_31, i_32, i_40, i_42, i_45, i_48, i_51, i_52, i_56, i_58, i_59, i_60, i_61, i_62, i_63, i_64, i_85, i_90, i_100, i_112, i_120, i_121, i_127, i_128, i_130, i_144, i_171, i_192, i_193, i_197, i_200, i_207, i_235, i_240, i_248, i_252, i_254, i_255, i_256, i_512, i_544, i_768, i_769, i_793, i_1000, i_1023, i_1024, i_1200, i_1538, i_1541, i_1545, i_2046, i_2047, i_2049, i_2060, i_2736, i_2737, i_2817, i_2818, i_2819, i_2820, i_2821, i_2831, i_2832, i_3077, i_3085, i_3843, i_3849, i_3851, i_3852, i_4129, i_4353, i_4865, i_5121, i_5122, i_5123, i_6156, i_8192, i_12288, i_16383, i_32000, i_33280, i_49152, i_53247, i_60304, i_64000, i_64512, i_65521, i_65535, i_449838109, nI_add, pk_mul, pk_sub, nI_mm, nI_leI, nI_ltI, nI_eq, pk_div, jrem_N, jshl_N, jshr_N, jushr_N, jmin_N, jmax_N, an_1, an_3, an_7, an_15, an_31, an_63, an_127, an_255, an_1023, an_2047, an_16383, an_65535, nm, pfI, rdI, rdW, rdL, rdI2, rdW2, ldA_N, stA_N, stB_N, stZ_N, pfZ_0, pfZ_1, rtZ_0, rtZ_1, acp_N, Option.bind_some, wp_some_iff, true_and, and_true, false_and, and_false, or_true, true_or, or_false, false_or, not_true_eq_false, not_false_eq_true, if_true, if_false, if_pos, if_neg, lt_sub, le_sub, sub_lt3, sub_le3, b2n_f]
theorem isD_34 {μ : Mem} {bs : List Nat} {s0 : Int32} (h : Seg μ 140 0 bs) (h1 : 13 ≤ bs.length) (h2 : bs.length ≤ 60) (hs : bs.length ≠ 13 → s0 = nI (bs.getD 11 0)) : c315_19 (nI 19) (nI 4) (nI (bs.length - 13)) s0 μ = some (μ, nI (b2n (fit 34 bs))) := by
  have g := gl_140
  have b11 := h.get 11
  unfold c315_19
  rw [nm, show (256 : Int32) * nI 19 + nI 4 = nI 4868 by decide]
  refine ite_no (show ¬ nI 4868 = (769 : Int32) by decide) ?_
  refine ite_no (show ¬ nI 4868 = (1538 : Int32) by decide) ?_
  refine ite_no (show ¬ nI 4868 = (1541 : Int32) by decide) ?_
  refine ite_no (show ¬ nI 4868 = (1545 : Int32) by decide) ?_
  refine ite_no (show ¬ nI 4868 = (2049 : Int32) by decide) ?_
  refine ite_no (show ¬ nI 4868 = (2817 : Int32) by decide) ?_
  refine ite_no (show ¬ nI 4868 = (2818 : Int32) by decide) ?_
  refine ite_no (show ¬ nI 4868 = (2819 : Int32) by decide) ?_
  refine ite_no (show ¬ nI 4868 = (2820 : Int32) by decide) ?_
  refine ite_no (show ¬ nI 4868 = (2821 : Int32) by decide) ?_
  refine ite_no (show ¬ nI 4868 = (2831 : Int32) by decide) ?_
  refine ite_no (show ¬ nI 4868 = (2832 : Int32) by decide) ?_
  refine ite_no (show ¬ nI 4868 = (3077 : Int32) by decide) ?_
  refine ite_no (show ¬ nI 4868 = (3085 : Int32) by decide) ?_
  refine ite_no (show ¬ nI 4868 = (3843 : Int32) by decide) ?_
  refine ite_no (show ¬ nI 4868 = (3849 : Int32) by decide) ?_
  refine ite_no (show ¬ nI 4868 = (3851 : Int32) by decide) ?_
  refine ite_no (show ¬ nI 4868 = (3852 : Int32) by decide) ?_
  refine ite_no (show ¬ nI 4868 = (4353 : Int32) by decide) ?_
  refine ite_no (show ¬ nI 4868 = (4865 : Int32) by decide) ?_
  refine ite_no (show ¬ nI 4868 = (5121 : Int32) by decide) ?_
  refine ite_no (show ¬ nI 4868 = (5123 : Int32) by decide) ?_
  rw [fitN rfl rfl, show lnc 34 = 1 from rfl]
  by_cases q : bs.length = 1 + 13
  · rw [decide_eq_true q]
    simp (disch := omega) only [i_0, i_1, i_2, i_3, i_4, i_5, i_6, i_7, i_8, i_9, i_10, i_11, i_12, i_13, i_14, i_15, i_16, i_17, i_18, i_19, i_20, i_21, i_22, i_23, i_24, i_25, i_26, i_27, i_31, i_32, i_40, i_42, i_45, i_48, i_51, i_52, i_56, i_58, i_59, i_60, i_61, i_62, i_63, i_64, i_85, i_90, i_100, i_112, i_120, i_121, i_127, i_128, i_130, i_144, i_171, i_192, i_193, i_197, i_200, i_207, i_235, i_240, i_248, i_252, i_254, i_255, i_256, i_512, i_544, i_768, i_769, i_793, i_1000, i_1023, i_1024, i_1200, i_1538, i_1541, i_1545, i_2046, i_2047, i_2049, i_2060, i_2736, i_2737, i_2817, i_2818, i_2819, i_2820, i_2821, i_2831, i_2832, i_3077, i_3085, i_3843, i_3849, i_3851, i_3852, i_4129, i_4353, i_4865, i_5121, i_5122, i_5123, i_6156, i_8192, i_12288, i_16383, i_32000, i_33280, i_49152, i_53247, i_60304, i_64000, i_64512, i_65521, i_65535, i_449838109, nI_add, pk_mul, pk_sub, nI_mm, nI_leI, nI_ltI, nI_eq, pk_div, jrem_N, jshl_N, jshr_N, jushr_N, jmin_N, jmax_N, an_1, an_3, an_7, an_15, an_31, an_63, an_127, an_255, an_1023, an_2047, an_16383, an_65535, nm, pfI, rdI, rdW, rdL, rdI2, rdW2, ldA_N, stA_N, stB_N, stZ_N, pfZ_0, pfZ_1, rtZ_0, rtZ_1, acp_N, Option.bind_some, wp_some_iff, true_and, and_true, false_and, and_false, or_true, true_or, or_false, false_or, not_true_eq_false, not_false_eq_true, if_true, if_false, if_pos, if_neg, lt_sub, le_sub, sub_lt3, sub_le3, b2n_t]
  · rw [decide_eq_false q]
    simp (disch := omega) only [i_0, i_1, i_2, i_3, i_4, i_5, i_6, i_7, i_8, i_9, i_10, i_11, i_12, i_13, i_14, i_15, i_16, i_17, i_18, i_19, i_20, i_21, i_22, i_23, i_24, i_25, i_26, i_27, i_31, i_32, i_40, i_42, i_45, i_48, i_51, i_52, i_56, i_58, i_59, i_60, i_61, i_62, i_63, i_64, i_85, i_90, i_100, i_112, i_120, i_121, i_127, i_128, i_130, i_144, i_171, i_192, i_193, i_197, i_200, i_207, i_235, i_240, i_248, i_252, i_254, i_255, i_256, i_512, i_544, i_768, i_769, i_793, i_1000, i_1023, i_1024, i_1200, i_1538, i_1541, i_1545, i_2046, i_2047, i_2049, i_2060, i_2736, i_2737, i_2817, i_2818, i_2819, i_2820, i_2821, i_2831, i_2832, i_3077, i_3085, i_3843, i_3849, i_3851, i_3852, i_4129, i_4353, i_4865, i_5121, i_5122, i_5123, i_6156, i_8192, i_12288, i_16383, i_32000, i_33280, i_49152, i_53247, i_60304, i_64000, i_64512, i_65521, i_65535, i_449838109, nI_add, pk_mul, pk_sub, nI_mm, nI_leI, nI_ltI, nI_eq, pk_div, jrem_N, jshl_N, jshr_N, jushr_N, jmin_N, jmax_N, an_1, an_3, an_7, an_15, an_31, an_63, an_127, an_255, an_1023, an_2047, an_16383, an_65535, nm, pfI, rdI, rdW, rdL, rdI2, rdW2, ldA_N, stA_N, stB_N, stZ_N, pfZ_0, pfZ_1, rtZ_0, rtZ_1, acp_N, Option.bind_some, wp_some_iff, true_and, and_true, false_and, and_false, or_true, true_or, or_false, false_or, not_true_eq_false, not_false_eq_true, if_true, if_false, if_pos, if_neg, lt_sub, le_sub, sub_lt3, sub_le3, b2n_f]
theorem isD_35 {μ : Mem} {bs : List Nat} {s0 : Int32} (h : Seg μ 140 0 bs) (h1 : 13 ≤ bs.length) (h2 : bs.length ≤ 60) (hs : bs.length ≠ 13 → s0 = nI (bs.getD 11 0)) : c315_19 (nI 19) (nI 5) (nI (bs.length - 13)) s0 μ = some (μ, nI (b2n (fit 35 bs))) := by
  have g := gl_140
  have b11 := h.get 11
  unfold c315_19
  rw [nm, show (256 : Int32) * nI 19 + nI 5 = nI 4869 by decide]
  refine ite_no (show ¬ nI 4869 = (769 : Int32) by decide) ?_
  refine ite_no (show ¬ nI 4869 = (1538 : Int32) by decide) ?_
  refine ite_no (show ¬ nI 4869 = (1541 : Int32) by decide) ?_
  refine ite_no (show ¬ nI 4869 = (1545 : Int32) by decide) ?_
  refine ite_no (show ¬ nI 4869 = (2049 : Int32) by decide) ?_
  refine ite_no (show ¬ nI 4869 = (2817 : Int32) by decide) ?_
  refine ite_no (show ¬ nI 4869 = (2818 : Int32) by decide) ?_
  refine ite_no (show ¬ nI 4869 = (2819 : Int32) by decide) ?_
  refine ite_no (show ¬ nI 4869 = (2820 : Int32) by decide) ?_
  refine ite_no (show ¬ nI 4869 = (2821 : Int32) by decide) ?_
  refine ite_no (show ¬ nI 4869 = (2831 : Int32) by decide) ?_
  refine ite_no (show ¬ nI 4869 = (2832 : Int32) by decide) ?_
  refine ite_no (show ¬ nI 4869 = (3077 : Int32) by decide) ?_
  refine ite_no (show ¬ nI 4869 = (3085 : Int32) by decide) ?_
  refine ite_no (show ¬ nI 4869 = (3843 : Int32) by decide) ?_
  refine ite_no (show ¬ nI 4869 = (3849 : Int32) by decide) ?_
  refine ite_no (show ¬ nI 4869 = (3851 : Int32) by decide) ?_
  refine ite_no (show ¬ nI 4869 = (3852 : Int32) by decide) ?_
  refine ite_no (show ¬ nI 4869 = (4353 : Int32) by decide) ?_
  refine ite_no (show ¬ nI 4869 = (4865 : Int32) by decide) ?_
  refine ite_no (show ¬ nI 4869 = (5121 : Int32) by decide) ?_
  refine ite_no (show ¬ nI 4869 = (5123 : Int32) by decide) ?_
  rw [fitN rfl rfl, show lnc 35 = 1 from rfl]
  by_cases q : bs.length = 1 + 13
  · rw [decide_eq_true q]
    simp (disch := omega) only [i_0, i_1, i_2, i_3, i_4, i_5, i_6, i_7, i_8, i_9, i_10, i_11, i_12, i_13, i_14, i_15, i_16, i_17, i_18, i_19, i_20, i_21, i_22, i_23, i_24, i_25, i_26, i_27, i_31, i_32, i_40, i_42, i_45, i_48, i_51, i_52, i_56, i_58, i_59, i_60, i_61, i_62, i_63, i_64, i_85, i_90, i_100, i_112, i_120, i_121, i_127, i_128, i_130, i_144, i_171, i_192, i_193, i_197, i_200, i_207, i_235, i_240, i_248, i_252, i_254, i_255, i_256, i_512, i_544, i_768, i_769, i_793, i_1000, i_1023, i_1024, i_1200, i_1538, i_1541, i_1545, i_2046, i_2047, i_2049, i_2060, i_2736, i_2737, i_2817, i_2818, i_2819, i_2820, i_2821, i_2831, i_2832, i_3077, i_3085, i_3843, i_3849, i_3851, i_3852, i_4129, i_4353, i_4865, i_5121, i_5122, i_5123, i_6156, i_8192, i_12288, i_16383, i_32000, i_33280, i_49152, i_53247, i_60304, i_64000, i_64512, i_65521, i_65535, i_449838109, nI_add, pk_mul, pk_sub, nI_mm, nI_leI, nI_ltI, nI_eq, pk_div, jrem_N, jshl_N, jshr_N, jushr_N, jmin_N, jmax_N, an_1, an_3, an_7, an_15, an_31, an_63, an_127, an_255, an_1023, an_2047, an_16383, an_65535, nm, pfI, rdI, rdW, rdL, rdI2, rdW2, ldA_N, stA_N, stB_N, stZ_N, pfZ_0, pfZ_1, rtZ_0, rtZ_1, acp_N, Option.bind_some, wp_some_iff, true_and, and_true, false_and, and_false, or_true, true_or, or_false, false_or, not_true_eq_false, not_false_eq_true, if_true, if_false, if_pos, if_neg, lt_sub, le_sub, sub_lt3, sub_le3, b2n_t]
  · rw [decide_eq_false q]
    simp (disch := omega) only [i_0, i_1, i_2, i_3, i_4, i_5, i_6, i_7, i_8, i_9, i_10, i_11, i_12, i_13, i_14, i_15, i_16, i_17, i_18, i_19, i_20, i_21, i_22, i_23, i_24, i_25, i_26, i_27, i_31, i_32, i_40, i_42, i_45, i_48, i_51, i_52, i_56, i_58, i_59, i_60, i_61, i_62, i_63, i_64, i_85, i_90, i_100, i_112, i_120, i_121, i_127, i_128, i_130, i_144, i_171, i_192, i_193, i_197, i_200, i_207, i_235, i_240, i_248, i_252, i_254, i_255, i_256, i_512, i_544, i_768, i_769, i_793, i_1000, i_1023, i_1024, i_1200, i_1538, i_1541, i_1545, i_2046, i_2047, i_2049, i_2060, i_2736, i_2737, i_2817, i_2818, i_2819, i_2820, i_2821, i_2831, i_2832, i_3077, i_3085, i_3843, i_3849, i_3851, i_3852, i_4129, i_4353, i_4865, i_5121, i_5122, i_5123, i_6156, i_8192, i_12288, i_16383, i_32000, i_33280, i_49152, i_53247, i_60304, i_64000, i_64512, i_65521, i_65535, i_449838109, nI_add, pk_mul, pk_sub, nI_mm, nI_leI, nI_ltI, nI_eq, pk_div, jrem_N, jshl_N, jshr_N, jushr_N, jmin_N, jmax_N, an_1, an_3, an_7, an_15, an_31, an_63, an_127, an_255, an_1023, an_2047, an_16383, an_65535, nm, pfI, rdI, rdW, rdL, rdI2, rdW2, ldA_N, stA_N, stB_N, stZ_N, pfZ_0, pfZ_1, rtZ_0, rtZ_1, acp_N, Option.bind_some, wp_some_iff, true_and, and_true, false_and, and_false, or_true, true_or, or_false, false_or, not_true_eq_false, not_false_eq_true, if_true, if_false, if_pos, if_neg, lt_sub, le_sub, sub_lt3, sub_le3, b2n_f]
theorem isD_36 {μ : Mem} {bs : List Nat} {s0 : Int32} (h : Seg μ 140 0 bs) (h1 : 13 ≤ bs.length) (h2 : bs.length ≤ 60) (hs : bs.length ≠ 13 → s0 = nI (bs.getD 11 0)) : c315_19 (nI 20) (nI 1) (nI (bs.length - 13)) s0 μ = some (μ, nI (b2n (fit 36 bs))) := by
  have g := gl_140
  have b11 := h.get 11
  unfold c315_19
  rw [nm, show (256 : Int32) * nI 20 + nI 1 = nI 5121 by decide]
  refine ite_no (show ¬ nI 5121 = (769 : Int32) by decide) ?_
  refine ite_no (show ¬ nI 5121 = (1538 : Int32) by decide) ?_
  refine ite_no (show ¬ nI 5121 = (1541 : Int32) by decide) ?_
  refine ite_no (show ¬ nI 5121 = (1545 : Int32) by decide) ?_
  refine ite_no (show ¬ nI 5121 = (2049 : Int32) by decide) ?_
  refine ite_no (show ¬ nI 5121 = (2817 : Int32) by decide) ?_
  refine ite_no (show ¬ nI 5121 = (2818 : Int32) by decide) ?_
  refine ite_no (show ¬ nI 5121 = (2819 : Int32) by decide) ?_
  refine ite_no (show ¬ nI 5121 = (2820 : Int32) by decide) ?_
  refine ite_no (show ¬ nI 5121 = (2821 : Int32) by decide) ?_
  refine ite_no (show ¬ nI 5121 = (2831 : Int32) by decide) ?_
  refine ite_no (show ¬ nI 5121 = (2832 : Int32) by decide) ?_
  refine ite_no (show ¬ nI 5121 = (3077 : Int32) by decide) ?_
  refine ite_no (show ¬ nI 5121 = (3085 : Int32) by decide) ?_
  refine ite_no (show ¬ nI 5121 = (3843 : Int32) by decide) ?_
  refine ite_no (show ¬ nI 5121 = (3849 : Int32) by decide) ?_
  refine ite_no (show ¬ nI 5121 = (3851 : Int32) by decide) ?_
  refine ite_no (show ¬ nI 5121 = (3852 : Int32) by decide) ?_
  refine ite_no (show ¬ nI 5121 = (4353 : Int32) by decide) ?_
  refine ite_no (show ¬ nI 5121 = (4865 : Int32) by decide) ?_
  refine ite_yes (show nI 5121 = (5121 : Int32) by decide) ?_
  have bD := h.get 11

  rw [show fit 36 bs = (decide (1 + 13 ≤ bs.length ∧ 1 ≤ bs.getD 11 0 ∧ bs.getD 11 0 ≤ 8 ∧ bs.length = 1 + 13 + bs.getD 11 0 * 1) && true) from rfl]
  by_cases q2 : bs.length = 13
  · rw [decide_eq_false (by omega)]
    simp (disch := omega) only [i_0, i_1, i_2, i_3, i_4, i_5, i_6, i_7, i_8, i_9, i_10, i_11, i_12, i_13, i_14, i_15, i_16, i_17, i_18, i_19, i_20, i_21, i_22, i_23, i_24, i_25, i_26, i_27, i_31, i_32, i_40, i_42, i_45, i_48, i_51, i_52, i_56, i_58, i_59, i_60, i_61, i_62, i_63, i_64, i_85, i_90, i_100, i_112, i_120, i_121, i_127, i_128, i_130, i_144, i_171, i_192, i_193, i_197, i_200, i_207, i_235, i_240, i_248, i_252, i_254, i_255, i_256, i_512, i_544, i_768, i_769, i_793, i_1000, i_1023, i_1024, i_1200, i_1538, i_1541, i_1545, i_2046, i_2047, i_2049, i_2060, i_2736, i_2737, i_2817, i_2818, i_2819, i_2820, i_2821, i_2831, i_2832, i_3077, i_3085, i_3843, i_3849, i_3851, i_3852, i_4129, i_4353, i_4865, i_5121, i_5122, i_5123, i_6156, i_8192, i_12288, i_16383, i_32000, i_33280, i_49152, i_53247, i_60304, i_64000, i_64512, i_65521, i_65535, i_449838109, nI_add, pk_mul, pk_sub, nI_mm, nI_leI, nI_ltI, nI_eq, pk_div, jrem_N, jshl_N, jshr_N, jushr_N, jmin_N, jmax_N, an_1, an_3, an_7, an_15, an_31, an_63, an_127, an_255, an_1023, an_2047, an_16383, an_65535, nm, pfI, rdI, rdW, rdL, rdI2, rdW2, ldA_N, stA_N, stB_N, stZ_N, pfZ_0, pfZ_1, rtZ_0, rtZ_1, acp_N, Option.bind_some, wp_some_iff, true_and, and_true, false_and, and_false, or_true, true_or, or_false, false_or, not_true_eq_false, not_false_eq_true, if_true, if_false, if_pos, if_neg, lt_sub, le_sub, sub_lt3, sub_le3, Bool.false_and, b2n_f]
  · obtain rfl := hs q2
    by_cases q : 1 + 13 ≤ bs.length ∧ 1 ≤ bs.getD 11 0 ∧ bs.getD 11 0 ≤ 8 ∧ bs.length = 1 + 13 + bs.getD 11 0 * 1
    · rw [decide_eq_true q]
      simp (disch := omega) only [i_0, i_1, i_2, i_3, i_4, i_5, i_6, i_7, i_8, i_9, i_10, i_11, i_12, i_13, i_14, i_15, i_16, i_17, i_18, i_19, i_20, i_21, i_22, i_23, i_24, i_25, i_26, i_27, i_31, i_32, i_40, i_42, i_45, i_48, i_51, i_52, i_56, i_58, i_59, i_60, i_61, i_62, i_63, i_64, i_85, i_90, i_100, i_112, i_120, i_121, i_127, i_128, i_130, i_144, i_171, i_192, i_193, i_197, i_200, i_207, i_235, i_240, i_248, i_252, i_254, i_255, i_256, i_512, i_544, i_768, i_769, i_793, i_1000, i_1023, i_1024, i_1200, i_1538, i_1541, i_1545, i_2046, i_2047, i_2049, i_2060, i_2736, i_2737, i_2817, i_2818, i_2819, i_2820, i_2821, i_2831, i_2832, i_3077, i_3085, i_3843, i_3849, i_3851, i_3852, i_4129, i_4353, i_4865, i_5121, i_5122, i_5123, i_6156, i_8192, i_12288, i_16383, i_32000, i_33280, i_49152, i_53247, i_60304, i_64000, i_64512, i_65521, i_65535, i_449838109, nI_add, pk_mul, pk_sub, nI_mm, nI_leI, nI_ltI, nI_eq, pk_div, jrem_N, jshl_N, jshr_N, jushr_N, jmin_N, jmax_N, an_1, an_3, an_7, an_15, an_31, an_63, an_127, an_255, an_1023, an_2047, an_16383, an_65535, nm, pfI, rdI, rdW, rdL, rdI2, rdW2, ldA_N, stA_N, stB_N, stZ_N, pfZ_0, pfZ_1, rtZ_0, rtZ_1, acp_N, Option.bind_some, wp_some_iff, true_and, and_true, false_and, and_false, or_true, true_or, or_false, false_or, not_true_eq_false, not_false_eq_true, if_true, if_false, if_pos, if_neg, lt_sub, le_sub, sub_lt3, sub_le3, Bool.and_self, b2n_t]
    · rw [decide_eq_false q]
      by_cases q1 : 1 ≤ bs.getD 11 0
      · by_cases q3 : bs.getD 11 0 ≤ 8
        · simp (disch := omega) only [i_0, i_1, i_2, i_3, i_4, i_5, i_6, i_7, i_8, i_9, i_10, i_11, i_12, i_13, i_14, i_15, i_16, i_17, i_18, i_19, i_20, i_21, i_22, i_23, i_24, i_25, i_26, i_27, i_31, i_32, i_40, i_42, i_45, i_48, i_51, i_52, i_56, i_58, i_59, i_60, i_61, i_62, i_63, i_64, i_85, i_90, i_100, i_112, i_120, i_121, i_127, i_128, i_130, i_144, i_171, i_192, i_193, i_197, i_200, i_207, i_235, i_240, i_248, i_252, i_254, i_255, i_256, i_512, i_544, i_768, i_769, i_793, i_1000, i_1023, i_1024, i_1200, i_1538, i_1541, i_1545, i_2046, i_2047, i_2049, i_2060, i_2736, i_2737, i_2817, i_2818, i_2819, i_2820, i_2821, i_2831, i_2832, i_3077, i_3085, i_3843, i_3849, i_3851, i_3852, i_4129, i_4353, i_4865, i_5121, i_5122, i_5123, i_6156, i_8192, i_12288, i_16383, i_32000, i_33280, i_49152, i_53247, i_60304, i_64000, i_64512, i_65521, i_65535, i_449838109, nI_add, pk_mul, pk_sub, nI_mm, nI_leI, nI_ltI, nI_eq, pk_div, jrem_N, jshl_N, jshr_N, jushr_N, jmin_N, jmax_N, an_1, an_3, an_7, an_15, an_31, an_63, an_127, an_255, an_1023, an_2047, an_16383, an_65535, nm, pfI, rdI, rdW, rdL, rdI2, rdW2, ldA_N, stA_N, stB_N, stZ_N, pfZ_0, pfZ_1, rtZ_0, rtZ_1, acp_N, Option.bind_some, wp_some_iff, true_and, and_true, false_and, and_false, or_true, true_or, or_false, false_or, not_true_eq_false, not_false_eq_true, if_true, if_false, if_pos, if_neg, lt_sub, le_sub, sub_lt3, sub_le3, Bool.false_and, b2n_f]
        · simp (disch := omega) only [i_0, i_1, i_2, i_3, i_4, i_5, i_6, i_7, i_8, i_9, i_10, i_11, i_12, i_13, i_14, i_15, i_16, i_17, i_18, i_19, i_20, i_21, i_22, i_23, i_24, i_25, i_26, i_27, i_31, i_32, i_40, i_42, i_45, i_48, i_51, i_52, i_56, i_58, i_59, i_60, i_61, i_62, i_63, i_64, i_85, i_90, i_100, i_112, i_120, i_121, i_127, i_128, i_130, i_144, i_171, i_192, i_193, i_197, i_200, i_207, i_235, i_240, i_248, i_252, i_254, i_255, i_256, i_512, i_544, i_768, i_769, i_793, i_1000, i_1023, i_1024, i_1200, i_1538, i_1541, i_1545, i_2046, i_2047, i_2049, i_2060, i_2736, i_2737, i_2817, i_2818, i_2819, i_2820, i_2821, i_2831, i_2832, i_3077, i_3085, i_3843, i_3849, i_3851, i_3852, i_4129, i_4353, i_4865, i_5121, i_5122, i_5123, i_6156, i_8192, i_12288, i_16383, i_32000, i_33280, i_49152, i_53247, i_60304, i_64000, i_64512, i_65521, i_65535, i_449838109, nI_add, pk_mul, pk_sub, nI_mm, nI_leI, nI_ltI, nI_eq, pk_div, jrem_N, jshl_N, jshr_N, jushr_N, jmin_N, jmax_N, an_1, an_3, an_7, an_15, an_31, an_63, an_127, an_255, an_1023, an_2047, an_16383, an_65535, nm, pfI, rdI, rdW, rdL, rdI2, rdW2, ldA_N, stA_N, stB_N, stZ_N, pfZ_0, pfZ_1, rtZ_0, rtZ_1, acp_N, Option.bind_some, wp_some_iff, true_and, and_true, false_and, and_false, or_true, true_or, or_false, false_or, not_true_eq_false, not_false_eq_true, if_true, if_false, if_pos, if_neg, lt_sub, le_sub, sub_lt3, sub_le3, Bool.false_and, b2n_f]
      · simp (disch := omega) only [i_0, i_1, i_2, i_3, i_4, i_5, i_6, i_7, i_8, i_9, i_10, i_11, i_12, i_13, i_14, i_15, i_16, i_17, i_18, i_19, i_20, i_21, i_22, i_23, i_24, i_25, i_26, i_27, i_31, i_32, i_40, i_42, i_45, i_48, i_51, i_52, i_56, i_58, i_59, i_60, i_61, i_62, i_63, i_64, i_85, i_90, i_100, i_112, i_120, i_121, i_127, i_128, i_130, i_144, i_171, i_192, i_193, i_197, i_200, i_207, i_235, i_240, i_248, i_252, i_254, i_255, i_256, i_512, i_544, i_768, i_769, i_793, i_1000, i_1023, i_1024, i_1200, i_1538, i_1541, i_1545, i_2046, i_2047, i_2049, i_2060, i_2736, i_2737, i_2817, i_2818, i_2819, i_2820, i_2821, i_2831, i_2832, i_3077, i_3085, i_3843, i_3849, i_3851, i_3852, i_4129, i_4353, i_4865, i_5121, i_5122, i_5123, i_6156, i_8192, i_12288, i_16383, i_32000, i_33280, i_49152, i_53247, i_60304, i_64000, i_64512, i_65521, i_65535, i_449838109, nI_add, pk_mul, pk_sub, nI_mm, nI_leI, nI_ltI, nI_eq, pk_div, jrem_N, jshl_N, jshr_N, jushr_N, jmin_N, jmax_N, an_1, an_3, an_7, an_15, an_31, an_63, an_127, an_255, an_1023, an_2047, an_16383, an_65535, nm, pfI, rdI, rdW, rdL, rdI2, rdW2, ldA_N, stA_N, stB_N, stZ_N, pfZ_0, pfZ_1, rtZ_0, rtZ_1, acp_N, Option.bind_some, wp_some_iff, true_and, and_true, false_and, and_false, or_true, true_or, or_false, false_or, not_true_eq_false, not_false_eq_true, if_true, if_false, if_pos, if_neg, lt_sub, le_sub, sub_lt3, sub_le3, Bool.false_and, b2n_f]
theorem isD_37 {μ : Mem} {bs : List Nat} {s0 : Int32} (h : Seg μ 140 0 bs) (h1 : 13 ≤ bs.length) (h2 : bs.length ≤ 60) (hs : bs.length ≠ 13 → s0 = nI (bs.getD 11 0)) : c315_19 (nI 20) (nI 3) (nI (bs.length - 13)) s0 μ = some (μ, nI (b2n (fit 37 bs))) := by
  have g := gl_140
  have b11 := h.get 11
  unfold c315_19
  rw [nm, show (256 : Int32) * nI 20 + nI 3 = nI 5123 by decide]
  refine ite_no (show ¬ nI 5123 = (769 : Int32) by decide) ?_
  refine ite_no (show ¬ nI 5123 = (1538 : Int32) by decide) ?_
  refine ite_no (show ¬ nI 5123 = (1541 : Int32) by decide) ?_
  refine ite_no (show ¬ nI 5123 = (1545 : Int32) by decide) ?_
  refine ite_no (show ¬ nI 5123 = (2049 : Int32) by decide) ?_
  refine ite_no (show ¬ nI 5123 = (2817 : Int32) by decide) ?_
  refine ite_no (show ¬ nI 5123 = (2818 : Int32) by decide) ?_
  refine ite_no (show ¬ nI 5123 = (2819 : Int32) by decide) ?_
  refine ite_no (show ¬ nI 5123 = (2820 : Int32) by decide) ?_
  refine ite_no (show ¬ nI 5123 = (2821 : Int32) by decide) ?_
  refine ite_no (show ¬ nI 5123 = (2831 : Int32) by decide) ?_
  refine ite_no (show ¬ nI 5123 = (2832 : Int32) by decide) ?_
  refine ite_no (show ¬ nI 5123 = (3077 : Int32) by decide) ?_
  refine ite_no (show ¬ nI 5123 = (3085 : Int32) by decide) ?_
  refine ite_no (show ¬ nI 5123 = (3843 : Int32) by decide) ?_
  refine ite_no (show ¬ nI 5123 = (3849 : Int32) by decide) ?_
  refine ite_no (show ¬ nI 5123 = (3851 : Int32) by decide) ?_
  refine ite_no (show ¬ nI 5123 = (3852 : Int32) by decide) ?_
  refine ite_no (show ¬ nI 5123 = (4353 : Int32) by decide) ?_
  refine ite_no (show ¬ nI 5123 = (4865 : Int32) by decide) ?_
  refine ite_no (show ¬ nI 5123 = (5121 : Int32) by decide) ?_
  refine ite_yes (show nI 5123 = (5123 : Int32) by decide) ?_
  have bD := h.get 11

  rw [show fit 37 bs = (decide (1 + 13 ≤ bs.length ∧ 1 ≤ bs.getD 11 0 ∧ bs.getD 11 0 ≤ 6 ∧ bs.length = 1 + 13 + bs.getD 11 0 * 5) && true) from rfl]
  by_cases q2 : bs.length = 13
  · rw [decide_eq_false (by omega)]
    simp (disch := omega) only [i_0, i_1, i_2, i_3, i_4, i_5, i_6, i_7, i_8, i_9, i_10, i_11, i_12, i_13, i_14, i_15, i_16, i_17, i_18, i_19, i_20, i_21, i_22, i_23, i_24, i_25, i_26, i_27, i_31, i_32, i_40, i_42, i_45, i_48, i_51, i_52, i_56, i_58, i_59, i_60, i_61, i_62, i_63, i_64, i_85, i_90, i_100, i_112, i_120, i_121, i_127, i_128, i_130, i_144, i_171, i_192, i_193, i_197, i_200, i_207, i_235, i_240, i_248, i_252, i_254, i_255, i_256, i_512, i_544, i_768, i_769, i_793, i_1000, i_1023, i_1024, i_1200, i_1538, i_1541, i_1545, i_2046, i_2047, i_2049, i_2060, i_2736, i_2737, i_2817, i_2818, i_2819, i_2820, i_2821, i_2831, i_2832, i_3077, i_3085, i_3843, i_3849, i_3851, i_3852, i_4129, i_4353, i_4865, i_5121, i_5122, i_5123, i_6156, i_8192, i_12288, i_16383, i_32000, i_33280, i_49152, i_53247, i_60304, i_64000, i_64512, i_65521, i_65535, i_449838109, nI_add, pk_mul, pk_sub, nI_mm, nI_leI, nI_ltI, nI_eq, pk_div, jrem_N, jshl_N, jshr_N, jushr_N, jmin_N, jmax_N, an_1, an_3, an_7, an_15, an_31, an_63, an_127, an_255, an_1023, an_2047, an_16383, an_65535, nm, pfI, rdI, rdW, rdL, rdI2, rdW2, ldA_N, stA_N, stB_N, stZ_N, pfZ_0, pfZ_1, rtZ_0, rtZ_1, acp_N, Option.bind_some, wp_some_iff, true_and, and_true, false_and, and_false, or_true, true_or, or_false, false_or, not_true_eq_false, not_false_eq_true, if_true, if_false, if_pos, if_neg, lt_sub, le_sub, sub_lt3, sub_le3, Bool.false_and, b2n_f]
  · obtain rfl := hs q2
    by_cases q : 1 + 13 ≤ bs.length ∧ 1 ≤ bs.getD 11 0 ∧ bs.getD 11 0 ≤ 6 ∧ bs.length = 1 + 13 + bs.getD 11 0 * 5
    · rw [decide_eq_true q]
      simp (disch := omega) only [i_0, i_1, i_2, i_3, i_4, i_5, i_6, i_7, i_8, i_9, i_10, i_11, i_12, i_13, i_14, i_15, i_16, i_17, i_18, i_19, i_20, i_21, i_22, i_23, i_24, i_25, i_26, i_27, i_31, i_32, i_40, i_42, i_45, i_48, i_51, i_52, i_56, i_58, i_59, i_60, i_61, i_62, i_63, i_64, i_85, i_90, i_100, i_112, i_120, i_121, i_127, i_128, i_130, i_144, i_171, i_192, i_193, i_197, i_200, i_207, i_235, i_240, i_248, i_252, i_254, i_255, i_256, i_512, i_544, i_768, i_769, i_793, i_1000, i_1023, i_1024, i_1200, i_1538, i_1541, i_1545, i_2046, i_2047, i_2049, i_2060, i_2736, i_2737, i_2817, i_2818, i_2819, i_2820, i_2821, i_2831, i_2832, i_3077, i_3085, i_3843, i_3849, i_3851, i_3852, i_4129, i_4353, i_4865, i_5121, i_5122, i_5123, i_6156, i_8192, i_12288, i_16383, i_32000, i_33280, i_49152, i_53247, i_60304, i_64000, i_64512, i_65521, i_65535, i_449838109, nI_add, pk_mul, pk_sub, nI_mm, nI_leI, nI_ltI, nI_eq, pk_div, jrem_N, jshl_N, jshr_N, jushr_N, jmin_N, jmax_N, an_1, an_3, an_7, an_15, an_31, an_63, an_127, an_255, an_1023, an_2047, an_16383, an_65535, nm, pfI, rdI, rdW, rdL, rdI2, rdW2, ldA_N, stA_N, stB_N, stZ_N, pfZ_0, pfZ_1, rtZ_0, rtZ_1, acp_N, Option.bind_some, wp_some_iff, true_and, and_true, false_and, and_false, or_true, true_or, or_false, false_or, not_true_eq_false, not_false_eq_true, if_true, if_false, if_pos, if_neg, lt_sub, le_sub, sub_lt3, sub_le3, Bool.and_self, b2n_t]
    · rw [decide_eq_false q]
      by_cases q1 : 1 ≤ bs.getD 11 0
      · by_cases q3 : bs.getD 11 0 ≤ 6
        · simp (disch := omega) only [i_0, i_1, i_2, i_3, i_4, i_5, i_6, i_7, i_8, i_9, i_10, i_11, i_12, i_13, i_14, i_15, i_16, i_17, i_18, i_19, i_20, i_21, i_22, i_23, i_24, i_25, i_26, i_27, i_31, i_32, i_40, i_42, i_45, i_48, i_51, i_52, i_56, i_58, i_59, i_60, i_61, i_62, i_63, i_64, i_85, i_90, i_100, i_112, i_120, i_121, i_127, i_128, i_130, i_144, i_171, i_192, i_193, i_197, i_200, i_207, i_235, i_240, i_248, i_252, i_254, i_255, i_256, i_512, i_544, i_768, i_769, i_793, i_1000, i_1023, i_1024, i_1200, i_1538, i_1541, i_1545, i_2046, i_2047, i_2049, i_2060, i_2736, i_2737, i_2817, i_2818, i_2819, i_2820, i_2821, i_2831, i_2832, i_3077, i_3085, i_3843, i_3849, i_3851, i_3852, i_4129, i_4353, i_4865, i_5121, i_5122, i_5123, i_6156, i_8192, i_12288, i_16383, i_32000, i_33280, i_49152, i_53247, i_60304, i_64000, i_64512, i_65521, i_65535, i_449838109, nI_add, pk_mul, pk_sub, nI_mm, nI_leI, nI_ltI, nI_eq, pk_div, jrem_N, jshl_N, jshr_N, jushr_N, jmin_N, jmax_N, an_1, an_3, an_7, an_15, an_31, an_63, an_127, an_255, an_1023, an_2047, an_16383, an_65535, nm, pfI, rdI, rdW, rdL, rdI2, rdW2, ldA_N, stA_N, stB_N, stZ_N, pfZ_0, pfZ_1, rtZ_0, rtZ_1, acp_N, Option.bind_some, wp_some_iff, true_and, and_true, false_and, and_false, or_true, true_or, or_false, false_or, not_true_eq_false, not_false_eq_true, if_true, if_false, if_pos, if_neg, lt_sub, le_sub, sub_lt3, sub_le3, Bool.false_and, b2n_f]
        · simp (disch := omega) only [i_0, i_1, i_2, i_3, i_4, i_5, i_6, i_7, i_8, i_9, i_10, i_11, i_12, i_13, i_14, i_15, i_16, i_17, i_18, i_19, i_20, i_21, i_22, i_23, i_24, i_25, i_26, i_27, i_31, i_32, i_40, i_42, i_45, i_48, i_51, i_52, i_56, i_58, i_59, i_60, i_61, i_62, i_63, i_64, i_85, i_90, i_100, i_112, i_120, i_121, i_127, i_128, i_130, i_144, i_171, i_192, i_193, i_197, i_200, i_207, i_235, i_240, i_248, i_252, i_254, i_255, i_256, i_512, i_544, i_768, i_769, i_793, i_1000, i_1023, i_1024, i_1200, i_1538, i_1541, i_1545, i_2046, i_2047, i_2049, i_2060, i_2736, i_2737, i_2817, i_2818, i_2819, i_2820, i_2821, i_2831, i_2832, i_3077, i_3085, i_3843, i_3849, i_3851, i_3852, i_4129, i_4353, i_4865, i_5121, i_5122, i_5123, i_6156, i_8192, i_12288, i_16383, i_32000, i_33280, i_49152, i_53247, i_60304, i_64000, i_64512, i_65521, i_65535, i_449838109, nI_add, pk_mul, pk_sub, nI_mm, nI_leI, nI_ltI, nI_eq, pk_div, jrem_N, jshl_N, jshr_N, jushr_N, jmin_N, jmax_N, an_1, an_3, an_7, an_15, an_31, an_63, an_127, an_255, an_1023, an_2047, an_16383, an_65535, nm, pfI, rdI, rdW, rdL, rdI2, rdW2, ldA_N, stA_N, stB_N, stZ_N, pfZ_0, pfZ_1, rtZ_0, rtZ_1, acp_N, Option.bind_some, wp_some_iff, true_and, and_true, false_and, and_false, or_true, true_or, or_false, false_or, not_true_eq_false, not_false_eq_true, if_true, if_false, if_pos, if_neg, lt_sub, le_sub, sub_lt3, sub_le3, Bool.false_and, b2n_f]
      · simp (disch := omega) only [i_0, i_1, i_2, i_3, i_4, i_5, i_6, i_7, i_8, i_9, i_10, i_11, i_12, i_13, i_14, i_15, i_16, i_17, i_18, i_19, i_20, i_21, i_22, i_23, i_24, i_25, i_26, i_27, i_31, i_32, i_40, i_42, i_45, i_48, i_51, i_52, i_56, i_58, i_59, i_60, i_61, i_62, i_63, i_64, i_85, i_90, i_100, i_112, i_120, i_121, i_127, i_128, i_130, i_144, i_171, i_192, i_193, i_197, i_200, i_207, i_235, i_240, i_248, i_252, i_254, i_255, i_256, i_512, i_544, i_768, i_769, i_793, i_1000, i_1023, i_1024, i_1200, i_1538, i_1541, i_1545, i_2046, i_2047, i_2049, i_2060, i_2736, i_2737, i_2817, i_2818, i_2819, i_2820, i_2821, i_2831, i_2832, i_3077, i_3085, i_3843, i_3849, i_3851, i_3852, i_4129, i_4353, i_4865, i_5121, i_5122, i_5123, i_6156, i_8192, i_12288, i_16383, i_32000, i_33280, i_49152, i_53247, i_60304, i_64000, i_64512, i_65521, i_65535, i_449838109, nI_add, pk_mul, pk_sub, nI_mm, nI_leI, nI_ltI, nI_eq, pk_div, jrem_N, jshl_N, jshr_N, jushr_N, jmin_N, jmax_N, an_1, an_3, an_7, an_15, an_31, an_63, an_127, an_255, an_1023, an_2047, an_16383, an_65535, nm, pfI, rdI, rdW, rdL, rdI2, rdW2, ldA_N, stA_N, stB_N, stZ_N, pfZ_0, pfZ_1, rtZ_0, rtZ_1, acp_N, Option.bind_some, wp_some_iff, true_and, and_true, false_and, and_false, or_true, true_or, or_false, false_or, not_true_eq_false, not_false_eq_true, if_true, if_false, if_pos, if_neg, lt_sub, le_sub, sub_lt3, sub_le3, Bool.false_and, b2n_f]
theorem isDs_M {μ : Mem} {j : Nat} {bs : List Nat} {s0 : Int32} (hj : j < 38) (h : Seg μ 140 0 bs) (h1 : 13 ≤ bs.length) (h2 : bs.length ≤ 60) (hs : bs.length ≠ 13 → s0 = nI (bs.getD 11 0)) : c315_19 (nI (svc j)) (nI (sbc j)) (nI (bs.length - 13)) s0 μ = some (μ, nI (b2n (fit j bs))) := by
  have cs : j = 0 ∨ j = 1 ∨ j = 2 ∨ j = 3 ∨ j = 4 ∨ j = 5 ∨ j = 6 ∨ j = 7 ∨ j = 8 ∨ j = 9 ∨ j = 10 ∨ j = 11 ∨ j = 12 ∨ j = 13 ∨ j = 14 ∨ j = 15 ∨ j = 16 ∨ j = 17 ∨ j = 18 ∨ j = 19 ∨ j = 20 ∨ j = 21 ∨ j = 22 ∨ j = 23 ∨ j = 24 ∨ j = 25 ∨ j = 26 ∨ j = 27 ∨ j = 28 ∨ j = 29 ∨ j = 30 ∨ j = 31 ∨ j = 32 ∨ j = 33 ∨ j = 34 ∨ j = 35 ∨ j = 36 ∨ j = 37 := by omega
  rcases cs with rfl | rfl | rfl | rfl | rfl | rfl | rfl | rfl | rfl | rfl | rfl | rfl | rfl | rfl | rfl | rfl | rfl | rfl | rfl | rfl | rfl | rfl | rfl | rfl | rfl | rfl | rfl | rfl | rfl | rfl | rfl | rfl | rfl | rfl | rfl | rfl | rfl | rfl
  · exact isD_0 h h1 h2 hs
  · exact isD_1 h h1 h2 hs
  · exact isD_2 h h1 h2 hs
  · exact isD_3 h h1 h2 hs
  · exact isD_4 h h1 h2 hs
  · exact isD_5 h h1 h2 hs
  · exact isD_6 h h1 h2 hs
  · exact isD_7 h h1 h2 hs
  · exact isD_8 h h1 h2 hs
  · exact isD_9 h h1 h2 hs
  · exact isD_10 h h1 h2 hs
  · exact isD_11 h h1 h2 hs
  · exact isD_12 h h1 h2 hs
  · exact isD_13 h h1 h2 hs
  · exact isD_14 h h1 h2 hs
  · exact isD_15 h h1 h2 hs
  · exact isD_16 h h1 h2 hs
  · exact isD_17 h h1 h2 hs
  · exact isD_18 h h1 h2 hs
  · exact isD_19 h h1 h2 hs
  · exact isD_20 h h1 h2 hs
  · exact isD_21 h h1 h2 hs
  · exact isD_22 h h1 h2 hs
  · exact isD_23 h h1 h2 hs
  · exact isD_24 h h1 h2 hs
  · exact isD_25 h h1 h2 hs
  · exact isD_26 h h1 h2 hs
  · exact isD_27 h h1 h2 hs
  · exact isD_28 h h1 h2 hs
  · exact isD_29 h h1 h2 hs
  · exact isD_30 h h1 h2 hs
  · exact isD_31 h h1 h2 hs
  · exact isD_32 h h1 h2 hs
  · exact isD_33 h h1 h2 hs
  · exact isD_34 h h1 h2 hs
  · exact isD_35 h h1 h2 hs
  · exact isD_36 h h1 h2 hs
  · exact isD_37 h h1 h2 hs
theorem isD_M {μ : Mem} {j : Nat} {bs : List Nat} (hj : j < 38) (h : Seg μ 140 0 bs) (h1 : 13 ≤ bs.length) (h2 : bs.length ≤ 60) : f315 (nI (svc j)) (nI (sbc j)) (nI (bs.length - 13)) μ = some (μ, nI (b2n (fit j bs))) := by
  have g := gl_140
  unfold f315
  by_cases q : bs.length = 13
  · refine ite_yes ?_ (isDs_M hj h h1 h2 (fun z => absurd q z))
    rw [q]
    decide
  · have e11 := h.z (i := 11) (by omega)
    refine ite_no ?_ ?_
    · rw [i_0, nI_leI (by omega) (by omega)]
      omega
    · rw [i_11, ldA_N (by omega), e11, Option.bind_some]
      exact isDs_M hj h h1 h2 (fun _ => rfl)
theorem ne_l {a b : Nat} {c : Int32} (e : c = nI b) (h : ¬ a = b) (ha : a < 256) (hb : b < 256) : ¬ nI a = c := by
  rw [e, nI_eq (by omega) (by omega)]
  exact h
theorem in_no {p a b c d e : Nat} {A B C D E : Int32} (hA : A = nI a) (hB : B = nI b) (hC : C = nI c) (hD : D = nI d) (hE : E = nI e) (hp : p < 256) (hb : a < 256 ∧ b < 256 ∧ c < 256 ∧ d < 256 ∧ e < 256) (h : ¬ p = a ∧ ¬ p = b ∧ ¬ p = c ∧ ¬ p = d ∧ ¬ p = e) (μ : Mem) : f311 (nI p) A B C D E μ = some (μ, nI 0) := by
  unfold f311
  exact ite_no (ne_l hA h.1 hp hb.1) (ite_no (ne_l hB h.2.1 hp hb.2.1) (ite_no (ne_l hC h.2.2.1 hp hb.2.2.1) (ite_no (ne_l hD h.2.2.2.1 hp hb.2.2.2.1) (ite_no (ne_l hE h.2.2.2.2 hp hb.2.2.2.2) rfl))))
theorem isSv {sv : Nat} (h : sv < 256) (μ : Mem) : f310 (nI sv) μ = some (μ, nI (b2n (decide (sv ∈ svL)))) := by
  have m : sv ∈ svL ↔ sv = 3 ∨ sv = 5 ∨ sv = 6 ∨ sv = 8 ∨ sv = 11 ∨ sv = 12 ∨ sv = 15 ∨ sv = 17 ∨ sv = 19 ∨ sv = 20 := by
    unfold svL
    simp only [List.mem_cons, List.not_mem_nil, or_false]
    omega
  by_cases q : sv ∈ svL
  · rw [decide_eq_true q]
    rcases m.mp q with rfl | rfl | rfl | rfl | rfl | rfl | rfl | rfl | rfl | rfl <;> rfl
  · rw [decide_eq_false q]
    rw [m] at q
    unfold f310
    refine ite_no (ne_l i_3 (by omega) h (by omega)) ?_
    refine ite_no (ne_l i_5 (by omega) h (by omega)) ?_
    refine ite_no (ne_l i_6 (by omega) h (by omega)) ?_
    refine ite_no (ne_l i_8 (by omega) h (by omega)) ?_
    refine ite_no (ne_l i_11 (by omega) h (by omega)) ?_
    refine ite_no (ne_l i_12 (by omega) h (by omega)) ?_
    refine ite_no (ne_l i_15 (by omega) h (by omega)) ?_
    refine ite_no (ne_l i_17 (by omega) h (by omega)) ?_
    refine ite_no (ne_l i_19 (by omega) h (by omega)) ?_
    refine ite_no (ne_l i_20 (by omega) h (by omega)) ?_
    rfl
theorem isSub {sv sb : Nat} (hv : sv ∈ svL) (h : sb < 256) (μ : Mem) : f312 (nI sv) (nI sb) μ = some (μ, nI (b2n (fsh sv sb).isSome)) := by
  have m : sv = 3 ∨ sv = 5 ∨ sv = 6 ∨ sv = 8 ∨ sv = 11 ∨ sv = 12 ∨ sv = 15 ∨ sv = 17 ∨ sv = 19 ∨ sv = 20 := by
    unfold svL at hv
    simp only [List.mem_cons, List.not_mem_nil, or_false] at hv
    omega
  rcases m with rfl | rfl | rfl | rfl | rfl | rfl | rfl | rfl | rfl | rfl
  · by_cases q : sb = 1 ∨ sb = 3 ∨ sb = 5 ∨ sb = 6 ∨ sb = 27
    · rcases q with rfl | rfl | rfl | rfl | rfl
      · rw [fsh_some (sv := 3) (sb := 1) (i := 0) (by decide) rfl rfl]
        unfold f312
        refine ite_yes (show nI 3 = (3 : Int32) by decide) ?_
        rw [show f311 (nI 1) 1 3 5 6 27 μ = some (μ, nI 1) from rfl, Option.bind_some]
        exact rtZ_1
      · rw [fsh_some (sv := 3) (sb := 3) (i := 1) (by decide) rfl rfl]
        unfold f312
        refine ite_yes (show nI 3 = (3 : Int32) by decide) ?_
        rw [show f311 (nI 3) 1 3 5 6 27 μ = some (μ, nI 1) from rfl, Option.bind_some]
        exact rtZ_1
      · rw [fsh_some (sv := 3) (sb := 5) (i := 2) (by decide) rfl rfl]
        unfold f312
        refine ite_yes (show nI 3 = (3 : Int32) by decide) ?_
        rw [show f311 (nI 5) 1 3 5 6 27 μ = some (μ, nI 1) from rfl, Option.bind_some]
        exact rtZ_1
      · rw [fsh_some (sv := 3) (sb := 6) (i := 3) (by decide) rfl rfl]
        unfold f312
        refine ite_yes (show nI 3 = (3 : Int32) by decide) ?_
        rw [show f311 (nI 6) 1 3 5 6 27 μ = some (μ, nI 1) from rfl, Option.bind_some]
        exact rtZ_1
      · rw [fsh_some (sv := 3) (sb := 27) (i := 4) (by decide) rfl rfl]
        unfold f312
        refine ite_yes (show nI 3 = (3 : Int32) by decide) ?_
        rw [show f311 (nI 27) 1 3 5 6 27 μ = some (μ, nI 1) from rfl, Option.bind_some]
        exact rtZ_1
    · rw [fsh_none (fun i hi z => ?_)]
      · unfold f312
        refine ite_yes (show nI 3 = (3 : Int32) by decide) ?_
        rw [in_no (p := sb) i_1 i_3 i_5 i_6 i_27 h (by omega) (by omega) μ, Option.bind_some]
        exact rtZ_0
      · have key : (List.range 38).all (fun i => decide (svc i = 3 → sbc i = 1 ∨ sbc i = 3 ∨ sbc i = 5 ∨ sbc i = 6 ∨ sbc i = 27)) = true := by decide +kernel
        have := of_decide_eq_true (List.all_eq_true.mp key i (List.mem_range.mpr hi)) z.1
        omega
  · by_cases q : sb = 5 ∨ sb = 6
    · rcases q with rfl | rfl
      · rw [fsh_some (sv := 5) (sb := 5) (i := 5) (by decide) rfl rfl]
        rfl
      · rw [fsh_some (sv := 5) (sb := 6) (i := 6) (by decide) rfl rfl]
        rfl
    · rw [fsh_none (fun i hi z => ?_)]
      · unfold f312
        refine ite_no (show ¬ nI 5 = (3 : Int32) by decide) ?_
        refine ite_no (show ¬ nI 5 = (4 : Int32) by decide) ?_
        refine ite_yes (show nI 5 = (5 : Int32) by decide) ?_
        refine ite_no (ne_l i_5 (by omega) h (by omega)) ?_
        refine ite_no (ne_l i_6 (by omega) h (by omega)) ?_
        rfl
      · have key : (List.range 38).all (fun i => decide (svc i = 5 → sbc i = 5 ∨ sbc i = 6)) = true := by decide +kernel
        have := of_decide_eq_true (List.all_eq_true.mp key i (List.mem_range.mpr hi)) z.1
        omega
  · by_cases q : sb = 2 ∨ sb = 5 ∨ sb = 9
    · rcases q with rfl | rfl | rfl
      · rw [fsh_some (sv := 6) (sb := 2) (i := 7) (by decide) rfl rfl]
        rfl
      · rw [fsh_some (sv := 6) (sb := 5) (i := 8) (by decide) rfl rfl]
        rfl
      · rw [fsh_some (sv := 6) (sb := 9) (i := 9) (by decide) rfl rfl]
        rfl
    · rw [fsh_none (fun i hi z => ?_)]
      · unfold f312
        refine ite_no (show ¬ nI 6 = (3 : Int32) by decide) ?_
        refine ite_no (show ¬ nI 6 = (4 : Int32) by decide) ?_
        refine ite_no (show ¬ nI 6 = (5 : Int32) by decide) ?_
        refine ite_yes (show nI 6 = (6 : Int32) by decide) ?_
        refine ite_no (ne_l i_2 (by omega) h (by omega)) ?_
        refine ite_no (ne_l i_5 (by omega) h (by omega)) ?_
        refine ite_no (ne_l i_9 (by omega) h (by omega)) ?_
        rfl
      · have key : (List.range 38).all (fun i => decide (svc i = 6 → sbc i = 2 ∨ sbc i = 5 ∨ sbc i = 9)) = true := by decide +kernel
        have := of_decide_eq_true (List.all_eq_true.mp key i (List.mem_range.mpr hi)) z.1
        omega
  · by_cases q : sb = 1
    · subst q
      rw [fsh_some (sv := 8) (sb := 1) (i := 10) (by decide) rfl rfl]
      rfl
    · rw [fsh_none (fun i hi z => ?_)]
      · unfold f312
        refine ite_no (show ¬ nI 8 = (3 : Int32) by decide) ?_
        refine ite_no (show ¬ nI 8 = (4 : Int32) by decide) ?_
        refine ite_no (show ¬ nI 8 = (5 : Int32) by decide) ?_
        refine ite_no (show ¬ nI 8 = (6 : Int32) by decide) ?_
        refine ite_no (show ¬ nI 8 = (7 : Int32) by decide) ?_
        refine ite_yes (show nI 8 = (8 : Int32) by decide) ?_
        refine ite_no (ne_l i_1 (by omega) h (by omega)) ?_
        rfl
      · have key : (List.range 38).all (fun i => decide (svc i = 8 → sbc i = 1)) = true := by decide +kernel
        have := of_decide_eq_true (List.all_eq_true.mp key i (List.mem_range.mpr hi)) z.1
        omega
  · by_cases q : sb = 1 ∨ sb = 2 ∨ sb = 3 ∨ sb = 4 ∨ sb = 5 ∨ sb = 15 ∨ sb = 16 ∨ sb = 20 ∨ sb = 21
    · rcases q with rfl | rfl | rfl | rfl | rfl | rfl | rfl | rfl | rfl
      · rw [fsh_some (sv := 11) (sb := 1) (i := 11) (by decide) rfl rfl]
        rfl
      · rw [fsh_some (sv := 11) (sb := 2) (i := 12) (by decide) rfl rfl]
        rfl
      · rw [fsh_some (sv := 11) (sb := 3) (i := 13) (by decide) rfl rfl]
        rfl
      · rw [fsh_some (sv := 11) (sb := 4) (i := 14) (by decide) rfl rfl]
        rfl
      · rw [fsh_some (sv := 11) (sb := 5) (i := 15) (by decide) rfl rfl]
        rfl
      · rw [fsh_some (sv := 11) (sb := 15) (i := 16) (by decide) rfl rfl]
        rfl
      · rw [fsh_some (sv := 11) (sb := 16) (i := 17) (by decide) rfl rfl]
        rfl
      · rw [fsh_some (sv := 11) (sb := 20) (i := 18) (by decide) rfl rfl]
        rfl
      · rw [fsh_some (sv := 11) (sb := 21) (i := 19) (by decide) rfl rfl]
        rfl
    · rw [fsh_none (fun i hi z => ?_)]
      · unfold f312
        refine ite_no (show ¬ nI 11 = (3 : Int32) by decide) ?_
        refine ite_no (show ¬ nI 11 = (4 : Int32) by decide) ?_
        refine ite_no (show ¬ nI 11 = (5 : Int32) by decide) ?_
        refine ite_no (show ¬ nI 11 = (6 : Int32) by decide) ?_
        refine ite_no (show ¬ nI 11 = (7 : Int32) by decide) ?_
        refine ite_no (show ¬ nI 11 = (8 : Int32) by decide) ?_
        refine ite_no (show ¬ nI 11 = (9 : Int32) by decide) ?_
        refine ite_no (show ¬ nI 11 = (10 : Int32) by decide) ?_
        refine ite_yes (show nI 11 = (11 : Int32) by decide) ?_
        rw [in_no (p := sb) i_1 i_2 i_3 i_4 i_5 h (by omega) (by omega) μ, Option.bind_some]
        refine ite_yes (show nI 0 = 0 by decide) ?_
        dsimp only
        rw [in_no (p := sb) i_15 i_16 i_20 i_21 i_21 h (by omega) (by omega) μ, Option.bind_some]
        exact ite_yes (show nI 0 = 0 by decide) rtZ_0
      · have key : (List.range 38).all (fun i => decide (svc i = 11 → sbc i = 1 ∨ sbc i = 2 ∨ sbc i = 3 ∨ sbc i = 4 ∨ sbc i = 5 ∨ sbc i = 15 ∨ sbc i = 16 ∨ sbc i = 20 ∨ sbc i = 21)) = true := by decide +kernel
        have := of_decide_eq_true (List.all_eq_true.mp key i (List.mem_range.mpr hi)) z.1
        omega
  · by_cases q : sb = 1 ∨ sb = 2 ∨ sb = 5 ∨ sb = 6 ∨ sb = 13
    · rcases q with rfl | rfl | rfl | rfl | rfl
      · rw [fsh_some (sv := 12) (sb := 1) (i := 20) (by decide) rfl rfl]
        unfold f312
        refine ite_no (show ¬ nI 12 = (3 : Int32) by decide) ?_
        refine ite_no (show ¬ nI 12 = (4 : Int32) by decide) ?_
        refine ite_no (show ¬ nI 12 = (5 : Int32) by decide) ?_
        refine ite_no (show ¬ nI 12 = (6 : Int32) by decide) ?_
        refine ite_no (show ¬ nI 12 = (7 : Int32) by decide) ?_
        refine ite_no (show ¬ nI 12 = (8 : Int32) by decide) ?_
        refine ite_no (show ¬ nI 12 = (9 : Int32) by decide) ?_
        refine ite_no (show ¬ nI 12 = (10 : Int32) by decide) ?_
        refine ite_no (show ¬ nI 12 = (11 : Int32) by decide) ?_
        refine ite_yes (show nI 12 = (12 : Int32) by decide) ?_
        rw [show f311 (nI 1) 1 2 5 6 13 μ = some (μ, nI 1) from rfl, Option.bind_some]
        exact rtZ_1
      · rw [fsh_some (sv := 12) (sb := 2) (i := 21) (by decide) rfl rfl]
        unfold f312
        refine ite_no (show ¬ nI 12 = (3 : Int32) by decide) ?_
        refine ite_no (show ¬ nI 12 = (4 : Int32) by decide) ?_
        refine ite_no (show ¬ nI 12 = (5 : Int32) by decide) ?_
        refine ite_no (show ¬ nI 12 = (6 : Int32) by decide) ?_
        refine ite_no (show ¬ nI 12 = (7 : Int32) by decide) ?_
        refine ite_no (show ¬ nI 12 = (8 : Int32) by decide) ?_
        refine ite_no (show ¬ nI 12 = (9 : Int32) by decide) ?_
        refine ite_no (show ¬ nI 12 = (10 : Int32) by decide) ?_
        refine ite_no (show ¬ nI 12 = (11 : Int32) by decide) ?_
        refine ite_yes (show nI 12 = (12 : Int32) by decide) ?_
        rw [show f311 (nI 2) 1 2 5 6 13 μ = some (μ, nI 1) from rfl, Option.bind_some]
        exact rtZ_1
      · rw [fsh_some (sv := 12) (sb := 5) (i := 22) (by decide) rfl rfl]
        unfold f312
        refine ite_no (show ¬ nI 12 = (3 : Int32) by decide) ?_
        refine ite_no (show ¬ nI 12 = (4 : Int32) by decide) ?_
        refine ite_no (show ¬ nI 12 = (5 : Int32) by decide) ?_
        refine ite_no (show ¬ nI 12 = (6 : Int32) by decide) ?_
        refine ite_no (show ¬ nI 12 = (7 : Int32) by decide) ?_
        refine ite_no (show ¬ nI 12 = (8 : Int32) by decide) ?_
        refine ite_no (show ¬ nI 12 = (9 : Int32) by decide) ?_
        refine ite_no (show ¬ nI 12 = (10 : Int32) by decide) ?_
        refine ite_no (show ¬ nI 12 = (11 : Int32) by decide) ?_
        refine ite_yes (show nI 12 = (12 : Int32) by decide) ?_
        rw [show f311 (nI 5) 1 2 5 6 13 μ = some (μ, nI 1) from rfl, Option.bind_some]
        exact rtZ_1
      · rw [fsh_some (sv := 12) (sb := 6) (i := 23) (by decide) rfl rfl]
        unfold f312
        refine ite_no (show ¬ nI 12 = (3 : Int32) by decide) ?_
        refine ite_no (show ¬ nI 12 = (4 : Int32) by decide) ?_
        refine ite_no (show ¬ nI 12 = (5 : Int32) by decide) ?_
        refine ite_no (show ¬ nI 12 = (6 : Int32) by decide) ?_
        refine ite_no (show ¬ nI 12 = (7 : Int32) by decide) ?_
        refine ite_no (show ¬ nI 12 = (8 : Int32) by decide) ?_
        refine ite_no (show ¬ nI 12 = (9 : Int32) by decide) ?_
        refine ite_no (show ¬ nI 12 = (10 : Int32) by decide) ?_
        refine ite_no (show ¬ nI 12 = (11 : Int32) by decide) ?_
        refine ite_yes (show nI 12 = (12 : Int32) by decide) ?_
        rw [show f311 (nI 6) 1 2 5 6 13 μ = some (μ, nI 1) from rfl, Option.bind_some]
        exact rtZ_1
      · rw [fsh_some (sv := 12) (sb := 13) (i := 24) (by decide) rfl rfl]
        unfold f312
        refine ite_no (show ¬ nI 12 = (3 : Int32) by decide) ?_
        refine ite_no (show ¬ nI 12 = (4 : Int32) by decide) ?_
        refine ite_no (show ¬ nI 12 = (5 : Int32) by decide) ?_
        refine ite_no (show ¬ nI 12 = (6 : Int32) by decide) ?_
        refine ite_no (show ¬ nI 12 = (7 : Int32) by decide) ?_
        refine ite_no (show ¬ nI 12 = (8 : Int32) by decide) ?_
        refine ite_no (show ¬ nI 12 = (9 : Int32) by decide) ?_
        refine ite_no (show ¬ nI 12 = (10 : Int32) by decide) ?_
        refine ite_no (show ¬ nI 12 = (11 : Int32) by decide) ?_
        refine ite_yes (show nI 12 = (12 : Int32) by decide) ?_
        rw [show f311 (nI 13) 1 2 5 6 13 μ = some (μ, nI 1) from rfl, Option.bind_some]
        exact rtZ_1
    · rw [fsh_none (fun i hi z => ?_)]
      · unfold f312
        refine ite_no (show ¬ nI 12 = (3 : Int32) by decide) ?_
        refine ite_no (show ¬ nI 12 = (4 : Int32) by decide) ?_
        refine ite_no (show ¬ nI 12 = (5 : Int32) by decide) ?_
        refine ite_no (show ¬ nI 12 = (6 : Int32) by decide) ?_
        refine ite_no (show ¬ nI 12 = (7 : Int32) by decide) ?_
        refine ite_no (show ¬ nI 12 = (8 : Int32) by decide) ?_
        refine ite_no (show ¬ nI 12 = (9 : Int32) by decide) ?_
        refine ite_no (show ¬ nI 12 = (10 : Int32) by decide) ?_
        refine ite_no (show ¬ nI 12 = (11 : Int32) by decide) ?_
        refine ite_yes (show nI 12 = (12 : Int32) by decide) ?_
        rw [in_no (p := sb) i_1 i_2 i_5 i_6 i_13 h (by omega) (by omega) μ, Option.bind_some]
        exact rtZ_0
      · have key : (List.range 38).all (fun i => decide (svc i = 12 → sbc i = 1 ∨ sbc i = 2 ∨ sbc i = 5 ∨ sbc i = 6 ∨ sbc i = 13)) = true := by decide +kernel
        have := of_decide_eq_true (List.all_eq_true.mp key i (List.mem_range.mpr hi)) z.1
        omega
  · by_cases q : sb = 1 ∨ sb = 2 ∨ sb = 3 ∨ sb = 9 ∨ sb = 11 ∨ sb = 12
    · rcases q with rfl | rfl | rfl | rfl | rfl | rfl
      · rw [fsh_some (sv := 15) (sb := 1) (i := 25) (by decide) rfl rfl]
        rfl
      · rw [fsh_some (sv := 15) (sb := 2) (i := 26) (by decide) rfl rfl]
        rfl
      · rw [fsh_some (sv := 15) (sb := 3) (i := 27) (by decide) rfl rfl]
        rfl
      · rw [fsh_some (sv := 15) (sb := 9) (i := 28) (by decide) rfl rfl]
        rfl
      · rw [fsh_some (sv := 15) (sb := 11) (i := 29) (by decide) rfl rfl]
        rfl
      · rw [fsh_some (sv := 15) (sb := 12) (i := 30) (by decide) rfl rfl]
        rfl
    · rw [fsh_none (fun i hi z => ?_)]
      · unfold f312
        refine ite_no (show ¬ nI 15 = (3 : Int32) by decide) ?_
        refine ite_no (show ¬ nI 15 = (4 : Int32) by decide) ?_
        refine ite_no (show ¬ nI 15 = (5 : Int32) by decide) ?_
        refine ite_no (show ¬ nI 15 = (6 : Int32) by decide) ?_
        refine ite_no (show ¬ nI 15 = (7 : Int32) by decide) ?_
        refine ite_no (show ¬ nI 15 = (8 : Int32) by decide) ?_
        refine ite_no (show ¬ nI 15 = (9 : Int32) by decide) ?_
        refine ite_no (show ¬ nI 15 = (10 : Int32) by decide) ?_
        refine ite_no (show ¬ nI 15 = (11 : Int32) by decide) ?_
        refine ite_no (show ¬ nI 15 = (12 : Int32) by decide) ?_
        refine ite_no (show ¬ nI 15 = (13 : Int32) by decide) ?_
        refine ite_no (show ¬ nI 15 = (14 : Int32) by decide) ?_
        refine ite_yes (show nI 15 = (15 : Int32) by decide) ?_
        rw [in_no (p := sb) i_1 i_2 i_3 i_9 i_11 h (by omega) (by omega) μ, Option.bind_some]
        refine ite_yes (show nI 0 = 0 by decide) ?_
        refine ite_no (ne_l i_12 (by omega) h (by omega)) ?_
        exact rtZ_0
      · have key : (List.range 38).all (fun i => decide (svc i = 15 → sbc i = 1 ∨ sbc i = 2 ∨ sbc i = 3 ∨ sbc i = 9 ∨ sbc i = 11 ∨ sbc i = 12)) = true := by decide +kernel
        have := of_decide_eq_true (List.all_eq_true.mp key i (List.mem_range.mpr hi)) z.1
        omega
  · by_cases q : sb = 1
    · subst q
      rw [fsh_some (sv := 17) (sb := 1) (i := 31) (by decide) rfl rfl]
      rfl
    · rw [fsh_none (fun i hi z => ?_)]
      · unfold f312
        refine ite_no (show ¬ nI 17 = (3 : Int32) by decide) ?_
        refine ite_no (show ¬ nI 17 = (4 : Int32) by decide) ?_
        refine ite_no (show ¬ nI 17 = (5 : Int32) by decide) ?_
        refine ite_no (show ¬ nI 17 = (6 : Int32) by decide) ?_
        refine ite_no (show ¬ nI 17 = (7 : Int32) by decide) ?_
        refine ite_no (show ¬ nI 17 = (8 : Int32) by decide) ?_
        refine ite_no (show ¬ nI 17 = (9 : Int32) by decide) ?_
        refine ite_no (show ¬ nI 17 = (10 : Int32) by decide) ?_
        refine ite_no (show ¬ nI 17 = (11 : Int32) by decide) ?_
        refine ite_no (show ¬ nI 17 = (12 : Int32) by decide) ?_
        refine ite_no (show ¬ nI 17 = (13 : Int32) by decide) ?_
        refine ite_no (show ¬ nI 17 = (14 : Int32) by decide) ?_
        refine ite_no (show ¬ nI 17 = (15 : Int32) by decide) ?_
        refine ite_no (show ¬ nI 17 = (16 : Int32) by decide) ?_
        refine ite_yes (show nI 17 = (17 : Int32) by decide) ?_
        refine ite_no (ne_l i_1 (by omega) h (by omega)) ?_
        rfl
      · have key : (List.range 38).all (fun i => decide (svc i = 17 → sbc i = 1)) = true := by decide +kernel
        have := of_decide_eq_true (List.all_eq_true.mp key i (List.mem_range.mpr hi)) z.1
        omega
  · by_cases q : sb = 1 ∨ sb = 2 ∨ sb = 4 ∨ sb = 5
    · rcases q with rfl | rfl | rfl | rfl
      · rw [fsh_some (sv := 19) (sb := 1) (i := 32) (by decide) rfl rfl]
        unfold f312
        refine ite_no (show ¬ nI 19 = (3 : Int32) by decide) ?_
        refine ite_no (show ¬ nI 19 = (4 : Int32) by decide) ?_
        refine ite_no (show ¬ nI 19 = (5 : Int32) by decide) ?_
        refine ite_no (show ¬ nI 19 = (6 : Int32) by decide) ?_
        refine ite_no (show ¬ nI 19 = (7 : Int32) by decide) ?_
        refine ite_no (show ¬ nI 19 = (8 : Int32) by decide) ?_
        refine ite_no (show ¬ nI 19 = (9 : Int32) by decide) ?_
        refine ite_no (show ¬ nI 19 = (10 : Int32) by decide) ?_
        refine ite_no (show ¬ nI 19 = (11 : Int32) by decide) ?_
        refine ite_no (show ¬ nI 19 = (12 : Int32) by decide) ?_
        refine ite_no (show ¬ nI 19 = (13 : Int32) by decide) ?_
        refine ite_no (show ¬ nI 19 = (14 : Int32) by decide) ?_
        refine ite_no (show ¬ nI 19 = (15 : Int32) by decide) ?_
        refine ite_no (show ¬ nI 19 = (16 : Int32) by decide) ?_
        refine ite_no (show ¬ nI 19 = (17 : Int32) by decide) ?_
        refine ite_no (show ¬ nI 19 = (18 : Int32) by decide) ?_
        refine ite_yes (show nI 19 = (19 : Int32) by decide) ?_
        rw [show f311 (nI 1) 1 2 4 5 5 μ = some (μ, nI 1) from rfl, Option.bind_some]
        exact rtZ_1
      · rw [fsh_some (sv := 19) (sb := 2) (i := 33) (by decide) rfl rfl]
        unfold f312
        refine ite_no (show ¬ nI 19 = (3 : Int32) by decide) ?_
        refine ite_no (show ¬ nI 19 = (4 : Int32) by decide) ?_
        refine ite_no (show ¬ nI 19 = (5 : Int32) by decide) ?_
        refine ite_no (show ¬ nI 19 = (6 : Int32) by decide) ?_
        refine ite_no (show ¬ nI 19 = (7 : Int32) by decide) ?_
        refine ite_no (show ¬ nI 19 = (8 : Int32) by decide) ?_
        refine ite_no (show ¬ nI 19 = (9 : Int32) by decide) ?_
        refine ite_no (show ¬ nI 19 = (10 : Int32) by decide) ?_
        refine ite_no (show ¬ nI 19 = (11 : Int32) by decide) ?_
        refine ite_no (show ¬ nI 19 = (12 : Int32) by decide) ?_
        refine ite_no (show ¬ nI 19 = (13 : Int32) by decide) ?_
        refine ite_no (show ¬ nI 19 = (14 : Int32) by decide) ?_
        refine ite_no (show ¬ nI 19 = (15 : Int32) by decide) ?_
        refine ite_no (show ¬ nI 19 = (16 : Int32) by decide) ?_
        refine ite_no (show ¬ nI 19 = (17 : Int32) by decide) ?_
        refine ite_no (show ¬ nI 19 = (18 : Int32) by decide) ?_
        refine ite_yes (show nI 19 = (19 : Int32) by decide) ?_
        rw [show f311 (nI 2) 1 2 4 5 5 μ = some (μ, nI 1) from rfl, Option.bind_some]
        exact rtZ_1
      · rw [fsh_some (sv := 19) (sb := 4) (i := 34) (by decide) rfl rfl]
        unfold f312
        refine ite_no (show ¬ nI 19 = (3 : Int32) by decide) ?_
        refine ite_no (show ¬ nI 19 = (4 : Int32) by decide) ?_
        refine ite_no (show ¬ nI 19 = (5 : Int32) by decide) ?_
        refine ite_no (show ¬ nI 19 = (6 : Int32) by decide) ?_
        refine ite_no (show ¬ nI 19 = (7 : Int32) by decide) ?_
        refine ite_no (show ¬ nI 19 = (8 : Int32) by decide) ?_
        refine ite_no (show ¬ nI 19 = (9 : Int32) by decide) ?_
        refine ite_no (show ¬ nI 19 = (10 : Int32) by decide) ?_
        refine ite_no (show ¬ nI 19 = (11 : Int32) by decide) ?_
        refine ite_no (show ¬ nI 19 = (12 : Int32) by decide) ?_
        refine ite_no (show ¬ nI 19 = (13 : Int32) by decide) ?_
        refine ite_no (show ¬ nI 19 = (14 : Int32) by decide) ?_
        refine ite_no (show ¬ nI 19 = (15 : Int32) by decide) ?_
        refine ite_no (show ¬ nI 19 = (16 : Int32) by decide) ?_
        refine ite_no (show ¬ nI 19 = (17 : Int32) by decide) ?_
        refine ite_no (show ¬ nI 19 = (18 : Int32) by decide) ?_
        refine ite_yes (show nI 19 = (19 : Int32) by decide) ?_
        rw [show f311 (nI 4) 1 2 4 5 5 μ = some (μ, nI 1) from rfl, Option.bind_some]
        exact rtZ_1
      · rw [fsh_some (sv := 19) (sb := 5) (i := 35) (by decide) rfl rfl]
        unfold f312
        refine ite_no (show ¬ nI 19 = (3 : Int32) by decide) ?_
        refine ite_no (show ¬ nI 19 = (4 : Int32) by decide) ?_
        refine ite_no (show ¬ nI 19 = (5 : Int32) by decide) ?_
        refine ite_no (show ¬ nI 19 = (6 : Int32) by decide) ?_
        refine ite_no (show ¬ nI 19 = (7 : Int32) by decide) ?_
        refine ite_no (show ¬ nI 19 = (8 : Int32) by decide) ?_
        refine ite_no (show ¬ nI 19 = (9 : Int32) by decide) ?_
        refine ite_no (show ¬ nI 19 = (10 : Int32) by decide) ?_
        refine ite_no (show ¬ nI 19 = (11 : Int32) by decide) ?_
        refine ite_no (show ¬ nI 19 = (12 : Int32) by decide) ?_
        refine ite_no (show ¬ nI 19 = (13 : Int32) by decide) ?_
        refine ite_no (show ¬ nI 19 = (14 : Int32) by decide) ?_
        refine ite_no (show ¬ nI 19 = (15 : Int32) by decide) ?_
        refine ite_no (show ¬ nI 19 = (16 : Int32) by decide) ?_
        refine ite_no (show ¬ nI 19 = (17 : Int32) by decide) ?_
        refine ite_no (show ¬ nI 19 = (18 : Int32) by decide) ?_
        refine ite_yes (show nI 19 = (19 : Int32) by decide) ?_
        rw [show f311 (nI 5) 1 2 4 5 5 μ = some (μ, nI 1) from rfl, Option.bind_some]
        exact rtZ_1
    · rw [fsh_none (fun i hi z => ?_)]
      · unfold f312
        refine ite_no (show ¬ nI 19 = (3 : Int32) by decide) ?_
        refine ite_no (show ¬ nI 19 = (4 : Int32) by decide) ?_
        refine ite_no (show ¬ nI 19 = (5 : Int32) by decide) ?_
        refine ite_no (show ¬ nI 19 = (6 : Int32) by decide) ?_
        refine ite_no (show ¬ nI 19 = (7 : Int32) by decide) ?_
        refine ite_no (show ¬ nI 19 = (8 : Int32) by decide) ?_
        refine ite_no (show ¬ nI 19 = (9 : Int32) by decide) ?_
        refine ite_no (show ¬ nI 19 = (10 : Int32) by decide) ?_
        refine ite_no (show ¬ nI 19 = (11 : Int32) by decide) ?_
        refine ite_no (show ¬ nI 19 = (12 : Int32) by decide) ?_
        refine ite_no (show ¬ nI 19 = (13 : Int32) by decide) ?_
        refine ite_no (show ¬ nI 19 = (14 : Int32) by decide) ?_
        refine ite_no (show ¬ nI 19 = (15 : Int32) by decide) ?_
        refine ite_no (show ¬ nI 19 = (16 : Int32) by decide) ?_
        refine ite_no (show ¬ nI 19 = (17 : Int32) by decide) ?_
        refine ite_no (show ¬ nI 19 = (18 : Int32) by decide) ?_
        refine ite_yes (show nI 19 = (19 : Int32) by decide) ?_
        rw [in_no (p := sb) i_1 i_2 i_4 i_5 i_5 h (by omega) (by omega) μ, Option.bind_some]
        exact rtZ_0
      · have key : (List.range 38).all (fun i => decide (svc i = 19 → sbc i = 1 ∨ sbc i = 2 ∨ sbc i = 4 ∨ sbc i = 5)) = true := by decide +kernel
        have := of_decide_eq_true (List.all_eq_true.mp key i (List.mem_range.mpr hi)) z.1
        omega
  · by_cases q : sb = 1 ∨ sb = 3
    · rcases q with rfl | rfl
      · rw [fsh_some (sv := 20) (sb := 1) (i := 36) (by decide) rfl rfl]
        rfl
      · rw [fsh_some (sv := 20) (sb := 3) (i := 37) (by decide) rfl rfl]
        rfl
    · rw [fsh_none (fun i hi z => ?_)]
      · unfold f312
        refine ite_no (show ¬ nI 20 = (3 : Int32) by decide) ?_
        refine ite_no (show ¬ nI 20 = (4 : Int32) by decide) ?_
        refine ite_no (show ¬ nI 20 = (5 : Int32) by decide) ?_
        refine ite_no (show ¬ nI 20 = (6 : Int32) by decide) ?_
        refine ite_no (show ¬ nI 20 = (7 : Int32) by decide) ?_
        refine ite_no (show ¬ nI 20 = (8 : Int32) by decide) ?_
        refine ite_no (show ¬ nI 20 = (9 : Int32) by decide) ?_
        refine ite_no (show ¬ nI 20 = (10 : Int32) by decide) ?_
        refine ite_no (show ¬ nI 20 = (11 : Int32) by decide) ?_
        refine ite_no (show ¬ nI 20 = (12 : Int32) by decide) ?_
        refine ite_no (show ¬ nI 20 = (13 : Int32) by decide) ?_
        refine ite_no (show ¬ nI 20 = (14 : Int32) by decide) ?_
        refine ite_no (show ¬ nI 20 = (15 : Int32) by decide) ?_
        refine ite_no (show ¬ nI 20 = (16 : Int32) by decide) ?_
        refine ite_no (show ¬ nI 20 = (17 : Int32) by decide) ?_
        refine ite_no (show ¬ nI 20 = (18 : Int32) by decide) ?_
        refine ite_no (show ¬ nI 20 = (19 : Int32) by decide) ?_
        refine ite_no (ne_l i_1 (by omega) h (by omega)) ?_
        refine ite_no (ne_l i_3 (by omega) h (by omega)) ?_
        rfl
      · have key : (List.range 38).all (fun i => decide (svc i = 20 → sbc i = 1 ∨ sbc i = 3)) = true := by decide +kernel
        have := of_decide_eq_true (List.all_eq_true.mp key i (List.mem_range.mpr hi)) z.1
        omega
