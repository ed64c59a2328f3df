/-! actions: the reference -/
theorem act19_M {μ : Mem} {a : Aw} {bs : List Nat} {dep : Nat} (h : CurM μ bs dep) (hA : EvM μ a) (hI : EvI a) (hP : Pkg bs) (h7 : bs.getD 7 0 = 19) (hw : why19 a bs = 0) : wp (f332 (nI (bs.getD 8 0)) (nI (bs.getD 11 0)) μ) (fun m => EvM m (act19 a bs) ∧ Fr (fun c _ => 191 ≤ c ∧ c ≤ 194) μ m) := by
  have hl := hP.2.1
  have g1 := gl_191
  have g2 := gl_192
  have g3 := gl_193
  have g4 := gl_194
  have g5 := gl_182
  have hs := hP.s19 h7
  have b8 := getD_lt h.2.2.2 8
  have hxl := xs19_len (bs := bs)
  obtain ⟨w1, w2, w3⟩ := why19_0 hw
  obtain ⟨u1, u2, u3⟩ := hA
  generalize hE : bs.getD 11 0 = E at *
  by_cases q1 : bs.getD 8 0 = 1
  · have hn := fA_none (w2 q1)
    have hact : act19 a bs = (a.1, a.2 ++ [(xs19 bs, nI E, nI (bs.getD 12 0))]) := by
      unfold act19
      rw [if_pos q1, hE]
    rw [hact]
    have b12 : bs.getD 12 0 = 0 ∨ bs.getD 12 0 = 1 := by omega
    have key : wp (c332_33 (nI E) (nI E) (nI (bs.getD 12 0)) (setI μ 191 E (nI 1))) (fun m => EvM m (a.1, a.2 ++ [(xs19 bs, nI E, nI (bs.getD 12 0))]) ∧ Fr (fun c _ => 191 ≤ c ∧ c ≤ 194) μ m) := by
      unfold c332_33
      have z12 : nI (bs.getD 12 0 % 2) = nI (bs.getD 12 0) := by rcases b12 with z | z <;> rw [z]
      have e106 := h.1
      simp (disch := omega) only [i_0, i_1, i_2, i_3, i_4, i_5, i_6, i_7, i_8, i_9, i_10, i_11, i_12, i_13, i_14, i_15, i_16, i_17, i_18, i_19, i_20, i_21, i_22, i_23, i_24, i_25, i_26, i_27, i_31, i_32, i_40, i_42, i_45, i_48, i_51, i_52, i_56, i_58, i_59, i_60, i_61, i_62, i_63, i_64, i_85, i_90, i_100, i_112, i_120, i_121, i_127, i_128, i_130, i_144, i_171, i_192, i_193, i_197, i_200, i_207, i_235, i_240, i_248, i_252, i_254, i_255, i_256, i_512, i_544, i_768, i_769, i_793, i_1000, i_1023, i_1024, i_1200, i_1538, i_1541, i_1545, i_2046, i_2047, i_2049, i_2060, i_2736, i_2737, i_2817, i_2818, i_2819, i_2820, i_2821, i_2831, i_2832, i_3077, i_3085, i_3843, i_3849, i_3851, i_3852, i_4129, i_4353, i_4865, i_5121, i_5122, i_5123, i_6156, i_8192, i_12288, i_16383, i_32000, i_33280, i_49152, i_53247, i_60304, i_64000, i_64512, i_65521, i_65535, i_449838109, nI_add, pk_mul, pk_sub, nI_mm, nI_leI, nI_ltI, nI_eq, pk_div, jrem_N, jshl_N, jshr_N, jushr_N, jmin_N, jmax_N, an_1, an_3, an_7, an_15, an_31, an_63, an_127, an_255, an_1023, an_2047, an_16383, an_65535, nm, pfI, rdI, rdW, rdL, rdI2, rdW2, ldA_N, stA_N, stB_N, stZ_N, pfZ_0, pfZ_1, rtZ_0, rtZ_1, acp_N, Option.bind_some, wp_some_iff, true_and, and_true, false_and, and_false, or_true, true_or, or_false, false_or, not_true_eq_false, not_false_eq_true, if_true, if_false, if_pos, if_neg, lt_sub, le_sub, sub_lt3, sub_le3, Option.bind_assoc, z12, e106]
      have f3 : Fr (fun c k => (c = 191 ∨ c = 192 ∨ c = 194) ∧ k = E) μ (setI (setI (setI μ 191 E (nI 1)) 192 E (nI (bs.getD 12 0))) 194 E (nI (bs.length - 15))) := ((Fr.sI (by omega)).pI (by omega)).pI (by omega)
      have r1 : (setI (setI (setI μ 191 E (nI 1)) 192 E (nI (bs.getD 12 0))) 194 E (nI (bs.length - 15))).1 191 E = nI 1 := by simp (disch := omega) only [i_0, i_1, i_2, i_3, i_4, i_5, i_6, i_7, i_8, i_9, i_10, i_11, i_12, i_13, i_14, i_15, i_16, i_17, i_18, i_19, i_20, i_21, i_22, i_23, i_24, i_25, i_26, i_27, i_31, i_32, i_40, i_42, i_45, i_48, i_51, i_52, i_56, i_58, i_59, i_60, i_61, i_62, i_63, i_64, i_85, i_90, i_100, i_112, i_120, i_121, i_127, i_128, i_130, i_144, i_171, i_192, i_193, i_197, i_200, i_207, i_235, i_240, i_248, i_252, i_254, i_255, i_256, i_512, i_544, i_768, i_769, i_793, i_1000, i_1023, i_1024, i_1200, i_1538, i_1541, i_1545, i_2046, i_2047, i_2049, i_2060, i_2736, i_2737, i_2817, i_2818, i_2819, i_2820, i_2821, i_2831, i_2832, i_3077, i_3085, i_3843, i_3849, i_3851, i_3852, i_4129, i_4353, i_4865, i_5121, i_5122, i_5123, i_6156, i_8192, i_12288, i_16383, i_32000, i_33280, i_49152, i_53247, i_60304, i_64000, i_64512, i_65521, i_65535, i_449838109, nI_add, pk_mul, pk_sub, nI_mm, nI_leI, nI_ltI, nI_eq, pk_div, jrem_N, jshl_N, jshr_N, jushr_N, jmin_N, jmax_N, an_1, an_3, an_7, an_15, an_31, an_63, an_127, an_255, an_1023, an_2047, an_16383, an_65535, nm, pfI, rdI, rdW, rdL, rdI2, rdW2, ldA_N, stA_N, stB_N, stZ_N, pfZ_0, pfZ_1, rtZ_0, rtZ_1, acp_N, Option.bind_some, wp_some_iff, true_and, and_true, false_and, and_false, or_true, true_or, or_false, false_or, not_true_eq_false, not_false_eq_true, if_true, if_false, if_pos, if_neg, lt_sub, le_sub, sub_lt3, sub_le3, Option.bind_assoc]
      have r2 : (setI (setI (setI μ 191 E (nI 1)) 192 E (nI (bs.getD 12 0))) 194 E (nI (bs.length - 15))).1 192 E = nI (bs.getD 12 0) := by simp (disch := omega) only [i_0, i_1, i_2, i_3, i_4, i_5, i_6, i_7, i_8, i_9, i_10, i_11, i_12, i_13, i_14, i_15, i_16, i_17, i_18, i_19, i_20, i_21, i_22, i_23, i_24, i_25, i_26, i_27, i_31, i_32, i_40, i_42, i_45, i_48, i_51, i_52, i_56, i_58, i_59, i_60, i_61, i_62, i_63, i_64, i_85, i_90, i_100, i_112, i_120, i_121, i_127, i_128, i_130, i_144, i_171, i_192, i_193, i_197, i_200, i_207, i_235, i_240, i_248, i_252, i_254, i_255, i_256, i_512, i_544, i_768, i_769, i_793, i_1000, i_1023, i_1024, i_1200, i_1538, i_1541, i_1545, i_2046, i_2047, i_2049, i_2060, i_2736, i_2737, i_2817, i_2818, i_2819, i_2820, i_2821, i_2831, i_2832, i_3077, i_3085, i_3843, i_3849, i_3851, i_3852, i_4129, i_4353, i_4865, i_5121, i_5122, i_5123, i_6156, i_8192, i_12288, i_16383, i_32000, i_33280, i_49152, i_53247, i_60304, i_64000, i_64512, i_65521, i_65535, i_449838109, nI_add, pk_mul, pk_sub, nI_mm, nI_leI, nI_ltI, nI_eq, pk_div, jrem_N, jshl_N, jshr_N, jushr_N, jmin_N, jmax_N, an_1, an_3, an_7, an_15, an_31, an_63, an_127, an_255, an_1023, an_2047, an_16383, an_65535, nm, pfI, rdI, rdW, rdL, rdI2, rdW2, ldA_N, stA_N, stB_N, stZ_N, pfZ_0, pfZ_1, rtZ_0, rtZ_1, acp_N, Option.bind_some, wp_some_iff, true_and, and_true, false_and, and_false, or_true, true_or, or_false, false_or, not_true_eq_false, not_false_eq_true, if_true, if_false, if_pos, if_neg, lt_sub, le_sub, sub_lt3, sub_le3, Option.bind_assoc]
      have r3 : (setI (setI (setI μ 191 E (nI 1)) 192 E (nI (bs.getD 12 0))) 194 E (nI (bs.length - 15))).1 194 E = nI (bs.length - 15) := by simp (disch := omega) only [i_0, i_1, i_2, i_3, i_4, i_5, i_6, i_7, i_8, i_9, i_10, i_11, i_12, i_13, i_14, i_15, i_16, i_17, i_18, i_19, i_20, i_21, i_22, i_23, i_24, i_25, i_26, i_27, i_31, i_32, i_40, i_42, i_45, i_48, i_51, i_52, i_56, i_58, i_59, i_60, i_61, i_62, i_63, i_64, i_85, i_90, i_100, i_112, i_120, i_121, i_127, i_128, i_130, i_144, i_171, i_192, i_193, i_197, i_200, i_207, i_235, i_240, i_248, i_252, i_254, i_255, i_256, i_512, i_544, i_768, i_769, i_793, i_1000, i_1023, i_1024, i_1200, i_1538, i_1541, i_1545, i_2046, i_2047, i_2049, i_2060, i_2736, i_2737, i_2817, i_2818, i_2819, i_2820, i_2821, i_2831, i_2832, i_3077, i_3085, i_3843, i_3849, i_3851, i_3852, i_4129, i_4353, i_4865, i_5121, i_5122, i_5123, i_6156, i_8192, i_12288, i_16383, i_32000, i_33280, i_49152, i_53247, i_60304, i_64000, i_64512, i_65521, i_65535, i_449838109, nI_add, pk_mul, pk_sub, nI_mm, nI_leI, nI_ltI, nI_eq, pk_div, jrem_N, jshl_N, jshr_N, jushr_N, jmin_N, jmax_N, an_1, an_3, an_7, an_15, an_31, an_63, an_127, an_255, an_1023, an_2047, an_16383, an_65535, nm, pfI, rdI, rdW, rdL, rdI2, rdW2, ldA_N, stA_N, stB_N, stZ_N, pfZ_0, pfZ_1, rtZ_0, rtZ_1, acp_N, Option.bind_some, wp_some_iff, true_and, and_true, false_and, and_false, or_true, true_or, or_false, false_or, not_true_eq_false, not_false_eq_true, if_true, if_false, if_pos, if_neg, lt_sub, le_sub, sub_lt3, sub_le3, Option.bind_assoc]
      generalize setI (setI (setI μ 191 E (nI 1)) 192 E (nI (bs.getD 12 0))) 194 E (nI (bs.length - 15)) = m3 at *
      have sg := (h.2.2.fr f3 (fun k => by omega)).sub (i := 13) (n := bs.length - 15)
      rw [Nat.zero_add] at sg
      change Seg m3 182 13 (xs19 bs) at sg
      refine wp_bind (move_M (q := 193) (d := 40 * E) (n := bs.length - 15) sg (by omega) (by omega) (by omega) (by omega) (Or.inl (by omega))) (fun m4 ⟨c1, c2⟩ => wp_some ?_)
      have f4 : Fr (fun c k => (c = 191 ∨ c = 192 ∨ c = 194) ∧ k = E ∨ c = 193 ∧ 40 * E ≤ k ∧ k < 40 * E + 40) μ m4 := f3.tr c2 (by intro c k h; omega) (by intro c k h; omega)
      refine ⟨⟨fun e he => ?_, fun e he hne => ?_, fun i e hi he ht => ?_⟩, f4.mono (by intro c k h; omega)⟩
      · rw [f4.1 _ _ (by omega)]; exact u1 e he
      · dsimp only at hne
        have z : e ≠ E := fun z => by
          refine hne a.2.length (by rw [List.length_append]; simp) ?_
          rw [pk_app, if_neg (by omega), if_pos rfl, z]
        rw [f4.1 _ _ (by omega)]
        refine u2 e he (fun i hi => ?_)
        have := hne i (by rw [List.length_append]; omega)
        rw [pk_app, if_pos hi] at this
        exact this
      · dsimp only at hi ht ⊢
        rw [List.length_append] at hi
        simp only [List.length_singleton] at hi
        rw [pk_app] at ht ⊢
        by_cases e1 : i < a.2.length
        · rw [if_pos e1] at ht ⊢
          have z : e ≠ E := fun z => hn i e1 (by rw [ht, z])
          obtain ⟨v1, v2, v3, v4⟩ := u3 i e e1 he ht
          have hle := (hI.1 i e1).2.1
          refine ⟨?_, ?_, ?_, ⟨fun j hj => ?_, v4.2⟩⟩
          · rw [f4.1 _ _ (by omega)]; exact v1
          · rw [f4.1 _ _ (by omega)]; exact v2
          · rw [f4.1 _ _ (by omega)]; exact v3
          · rw [f4.1 _ _ (by omega)]; exact v4.1 j hj
        · rw [if_neg e1, if_pos (by omega)] at ht ⊢
          dsimp only at ht ⊢
          have z : E = e := (nI_eq (by omega) (by omega)).mp ht
          subst z
          refine ⟨?_, ?_, ?_, c1⟩
          · rw [c2.1 _ _ (by omega)]; exact r1
          · rw [c2.1 _ _ (by omega)]; exact r2
          · rw [c2.1 _ _ (by omega), hxl]; exact r3
    unfold f332
    have f1 : Fr (fun c k => c = 191) μ (setI μ 191 E (nI 1)) := Fr.sI rfl
    have e12 := h.2.2.z (i := 12) (by omega)
    rcases b12 with z | z
    · rw [z] at key e12 ⊢
      simp (disch := omega) only [i_0, i_1, i_2, i_3, i_4, i_5, i_6, i_7, i_8, i_9, i_10, i_11, i_12, i_13, i_14, i_15, i_16, i_17, i_18, i_19, i_20, i_21, i_22, i_23, i_24, i_25, i_26, i_27, i_31, i_32, i_40, i_42, i_45, i_48, i_51, i_52, i_56, i_58, i_59, i_60, i_61, i_62, i_63, i_64, i_85, i_90, i_100, i_112, i_120, i_121, i_127, i_128, i_130, i_144, i_171, i_192, i_193, i_197, i_200, i_207, i_235, i_240, i_248, i_252, i_254, i_255, i_256, i_512, i_544, i_768, i_769, i_793, i_1000, i_1023, i_1024, i_1200, i_1538, i_1541, i_1545, i_2046, i_2047, i_2049, i_2060, i_2736, i_2737, i_2817, i_2818, i_2819, i_2820, i_2821, i_2831, i_2832, i_3077, i_3085, i_3843, i_3849, i_3851, i_3852, i_4129, i_4353, i_4865, i_5121, i_5122, i_5123, i_6156, i_8192, i_12288, i_16383, i_32000, i_33280, i_49152, i_53247, i_60304, i_64000, i_64512, i_65521, i_65535, i_449838109, nI_add, pk_mul, pk_sub, nI_mm, nI_leI, nI_ltI, nI_eq, pk_div, jrem_N, jshl_N, jshr_N, jushr_N, jmin_N, jmax_N, an_1, an_3, an_7, an_15, an_31, an_63, an_127, an_255, an_1023, an_2047, an_16383, an_65535, nm, pfI, rdI, rdW, rdL, rdI2, rdW2, ldA_N, stA_N, stB_N, stZ_N, pfZ_0, pfZ_1, rtZ_0, rtZ_1, acp_N, Option.bind_some, wp_some_iff, true_and, and_true, false_and, and_false, or_true, true_or, or_false, false_or, not_true_eq_false, not_false_eq_true, if_true, if_false, if_pos, if_neg, lt_sub, le_sub, sub_lt3, sub_le3, Option.bind_assoc, q1, zz1, e12]
      exact key
    · rw [z] at key e12 ⊢
      simp (disch := omega) only [i_0, i_1, i_2, i_3, i_4, i_5, i_6, i_7, i_8, i_9, i_10, i_11, i_12, i_13, i_14, i_15, i_16, i_17, i_18, i_19, i_20, i_21, i_22, i_23, i_24, i_25, i_26, i_27, i_31, i_32, i_40, i_42, i_45, i_48, i_51, i_52, i_56, i_58, i_59, i_60, i_61, i_62, i_63, i_64, i_85, i_90, i_100, i_112, i_120, i_121, i_127, i_128, i_130, i_144, i_171, i_192, i_193, i_197, i_200, i_207, i_235, i_240, i_248, i_252, i_254, i_255, i_256, i_512, i_544, i_768, i_769, i_793, i_1000, i_1023, i_1024, i_1200, i_1538, i_1541, i_1545, i_2046, i_2047, i_2049, i_2060, i_2736, i_2737, i_2817, i_2818, i_2819, i_2820, i_2821, i_2831, i_2832, i_3077, i_3085, i_3843, i_3849, i_3851, i_3852, i_4129, i_4353, i_4865, i_5121, i_5122, i_5123, i_6156, i_8192, i_12288, i_16383, i_32000, i_33280, i_49152, i_53247, i_60304, i_64000, i_64512, i_65521, i_65535, i_449838109, nI_add, pk_mul, pk_sub, nI_mm, nI_leI, nI_ltI, nI_eq, pk_div, jrem_N, jshl_N, jshr_N, jushr_N, jmin_N, jmax_N, an_1, an_3, an_7, an_15, an_31, an_63, an_127, an_255, an_1023, an_2047, an_16383, an_65535, nm, pfI, rdI, rdW, rdL, rdI2, rdW2, ldA_N, stA_N, stB_N, stZ_N, pfZ_0, pfZ_1, rtZ_0, rtZ_1, acp_N, Option.bind_some, wp_some_iff, true_and, and_true, false_and, and_false, or_true, true_or, or_false, false_or, not_true_eq_false, not_false_eq_true, if_true, if_false, if_pos, if_neg, lt_sub, le_sub, sub_lt3, sub_le3, Option.bind_assoc, q1, zz1, e12]
      exact key
  · obtain ⟨i0, hf⟩ := w3 q1
    obtain ⟨h0, ht0⟩ := fA_some hf
    by_cases q2 : bs.getD 8 0 = 2
    · have hact : act19 a bs = (a.1, a.2.eraseIdx i0) := by
        unfold act19
        rw [if_neg q1, hE, hf]
        dsimp only
        rw [if_pos q2]
      rw [hact]
      have hle : (a.2.eraseIdx i0).length = a.2.length - 1 := List.length_eraseIdx_of_lt h0
      unfold f332
      simp (disch := omega) only [i_0, i_1, i_2, i_3, i_4, i_5, i_6, i_7, i_8, i_9, i_10, i_11, i_12, i_13, i_14, i_15, i_16, i_17, i_18, i_19, i_20, i_21, i_22, i_23, i_24, i_25, i_26, i_27, i_31, i_32, i_40, i_42, i_45, i_48, i_51, i_52, i_56, i_58, i_59, i_60, i_61, i_62, i_63, i_64, i_85, i_90, i_100, i_112, i_120, i_121, i_127, i_128, i_130, i_144, i_171, i_192, i_193, i_197, i_200, i_207, i_235, i_240, i_248, i_252, i_254, i_255, i_256, i_512, i_544, i_768, i_769, i_793, i_1000, i_1023, i_1024, i_1200, i_1538, i_1541, i_1545, i_2046, i_2047, i_2049, i_2060, i_2736, i_2737, i_2817, i_2818, i_2819, i_2820, i_2821, i_2831, i_2832, i_3077, i_3085, i_3843, i_3849, i_3851, i_3852, i_4129, i_4353, i_4865, i_5121, i_5122, i_5123, i_6156, i_8192, i_12288, i_16383, i_32000, i_33280, i_49152, i_53247, i_60304, i_64000, i_64512, i_65521, i_65535, i_449838109, nI_add, pk_mul, pk_sub, nI_mm, nI_leI, nI_ltI, nI_eq, pk_div, jrem_N, jshl_N, jshr_N, jushr_N, jmin_N, jmax_N, an_1, an_3, an_7, an_15, an_31, an_63, an_127, an_255, an_1023, an_2047, an_16383, an_65535, nm, pfI, rdI, rdW, rdL, rdI2, rdW2, ldA_N, stA_N, stB_N, stZ_N, pfZ_0, pfZ_1, rtZ_0, rtZ_1, acp_N, Option.bind_some, wp_some_iff, true_and, and_true, false_and, and_false, or_true, true_or, or_false, false_or, not_true_eq_false, not_false_eq_true, if_true, if_false, if_pos, if_neg, lt_sub, le_sub, sub_lt3, sub_le3, Option.bind_assoc, q2, zz0]
      have f2 : Fr (fun c k => (c = 191 ∨ c = 192) ∧ k = E) μ (setI (setI μ 191 E (nI 0)) 192 E (nI 0)) := (Fr.sI (by omega)).pI (by omega)
      have r1 : (setI (setI μ 191 E (nI 0)) 192 E (nI 0)).1 191 E = nI 0 := by simp (disch := omega) only [i_0, i_1, i_2, i_3, i_4, i_5, i_6, i_7, i_8, i_9, i_10, i_11, i_12, i_13, i_14, i_15, i_16, i_17, i_18, i_19, i_20, i_21, i_22, i_23, i_24, i_25, i_26, i_27, i_31, i_32, i_40, i_42, i_45, i_48, i_51, i_52, i_56, i_58, i_59, i_60, i_61, i_62, i_63, i_64, i_85, i_90, i_100, i_112, i_120, i_121, i_127, i_128, i_130, i_144, i_171, i_192, i_193, i_197, i_200, i_207, i_235, i_240, i_248, i_252, i_254, i_255, i_256, i_512, i_544, i_768, i_769, i_793, i_1000, i_1023, i_1024, i_1200, i_1538, i_1541, i_1545, i_2046, i_2047, i_2049, i_2060, i_2736, i_2737, i_2817, i_2818, i_2819, i_2820, i_2821, i_2831, i_2832, i_3077, i_3085, i_3843, i_3849, i_3851, i_3852, i_4129, i_4353, i_4865, i_5121, i_5122, i_5123, i_6156, i_8192, i_12288, i_16383, i_32000, i_33280, i_49152, i_53247, i_60304, i_64000, i_64512, i_65521, i_65535, i_449838109, nI_add, pk_mul, pk_sub, nI_mm, nI_leI, nI_ltI, nI_eq, pk_div, jrem_N, jshl_N, jshr_N, jushr_N, jmin_N, jmax_N, an_1, an_3, an_7, an_15, an_31, an_63, an_127, an_255, an_1023, an_2047, an_16383, an_65535, nm, pfI, rdI, rdW, rdL, rdI2, rdW2, ldA_N, stA_N, stB_N, stZ_N, pfZ_0, pfZ_1, rtZ_0, rtZ_1, acp_N, Option.bind_some, wp_some_iff, true_and, and_true, false_and, and_false, or_true, true_or, or_false, false_or, not_true_eq_false, not_false_eq_true, if_true, if_false, if_pos, if_neg, lt_sub, le_sub, sub_lt3, sub_le3, Option.bind_assoc]
      generalize setI (setI μ 191 E (nI 0)) 192 E (nI 0) = m2 at *
      refine ⟨⟨fun e he => ?_, fun e he hne => ?_, fun i e hi he ht => ?_⟩, f2.mono (by intro c k h; omega)⟩
      · rw [f2.1 _ _ (by omega)]; exact u1 e he
      · dsimp only at hne
        by_cases z : e = E
        · rw [z]; exact r1
        · rw [f2.1 _ _ (by omega)]
          refine u2 e he (fun i hi => ?_)
          by_cases e1 : i = i0
          · rw [e1, ht0]
            exact fun w => z ((nI_eq (by omega) (by omega)).mp w).symm
          · by_cases e2 : i < i0
            · have := hne i (by rw [hle]; omega)
              rw [pk_era, if_pos e2] at this
              exact this
            · have := hne (i - 1) (by rw [hle]; omega)
              rw [pk_era, if_neg (by omega), show i - 1 + 1 = i by omega] at this
              exact this
      · dsimp only at hi ht ⊢
        rw [hle] at hi
        rw [pk_era] at ht ⊢
        have gen : ∀ j, j < a.2.length → j ≠ i0 → (pk a.2 j).2.1 = nI e → m2.1 191 e = nI 1 ∧ m2.1 192 e = (pk a.2 j).2.2 ∧ m2.1 194 e = nI (pk a.2 j).1.length ∧ Seg m2 193 (40 * e) (pk a.2 j).1 := by
          intro j hj hne ht2
          have z : e ≠ E := fun z => hne (hI.2 j i0 hj h0 (by rw [ht2, ht0, z]))
          obtain ⟨v1, v2, v3, v4⟩ := u3 j e hj he ht2
          refine ⟨?_, ?_, ?_, v4.fr f2 (fun k => by omega)⟩
          · rw [f2.1 _ _ (by omega)]; exact v1
          · rw [f2.1 _ _ (by omega)]; exact v2
          · rw [f2.1 _ _ (by omega)]; exact v3
        by_cases e2 : i < i0
        · rw [if_pos e2] at ht ⊢
          exact gen i (by omega) (by omega) ht
        · rw [if_neg e2] at ht ⊢
          exact gen (i + 1) (by omega) (by omega) ht
    · have hact : act19 a bs = (a.1, a.2.set i0 ((pk a.2 i0).1, (pk a.2 i0).2.1, if bs.getD 8 0 = 4 then nI 1 else nI 0)) := by
        unfold act19
        rw [if_neg q1, hE, hf]
        dsimp only
        rw [if_neg q2]
      rw [hact]
      have key : ∀ v, EvM (setI μ 192 E v) (a.1, a.2.set i0 ((pk a.2 i0).1, (pk a.2 i0).2.1, v)) := by
        intro v
        have f1 : Fr (fun c k => c = 192 ∧ k = E) μ (setI μ 192 E v) := Fr.sI ⟨rfl, rfl⟩
        refine ⟨fun e he => ?_, fun e he hne => ?_, fun i e hi he ht => ?_⟩
        · rw [f1.1 _ _ (by omega)]; exact u1 e he
        · rw [f1.1 _ _ (by omega)]
          refine u2 e he (fun i hi => ?_)
          dsimp only at hne
          have := hne i (by rw [List.length_set]; exact hi)
          rw [pk_set h0] at this
          by_cases e1 : i = i0
          · rw [if_pos e1] at this
            rw [e1]; exact this
          · rw [if_neg e1] at this
            exact this
        · dsimp only at hi ht ⊢
          rw [List.length_set] at hi
          rw [pk_set h0] at ht ⊢
          by_cases e1 : i = i0
          · rw [if_pos e1] at ht ⊢
            dsimp only at ht ⊢
            obtain ⟨v1, v2, v3, v4⟩ := u3 i0 e h0 he ht
            have z : E = e := (nI_eq (by omega) (by omega)).mp (ht0.symm.trans ht)
            subst z
            refine ⟨?_, ?_, ?_, v4.fr f1 (fun k => by omega)⟩
            · rw [f1.1 _ _ (by omega)]; exact v1
            · rw [rdI, if_pos ⟨rfl, rfl⟩]
            · rw [f1.1 _ _ (by omega)]; exact v3
          · rw [if_neg e1] at ht ⊢
            obtain ⟨v1, v2, v3, v4⟩ := u3 i e hi he ht
            have z : e ≠ E := fun z => e1 (hI.2 i i0 hi h0 (by rw [ht, ht0, z]))
            refine ⟨?_, ?_, ?_, v4.fr f1 (fun k => by omega)⟩
            · rw [f1.1 _ _ (by omega)]; exact v1
            · rw [f1.1 _ _ (by omega)]; exact v2
            · rw [f1.1 _ _ (by omega)]; exact v3
      unfold f332 c332_110
      by_cases q4 : bs.getD 8 0 = 4
      · rw [if_pos q4]
        simp (disch := omega) only [i_0, i_1, i_2, i_3, i_4, i_5, i_6, i_7, i_8, i_9, i_10, i_11, i_12, i_13, i_14, i_15, i_16, i_17, i_18, i_19, i_20, i_21, i_22, i_23, i_24, i_25, i_26, i_27, i_31, i_32, i_40, i_42, i_45, i_48, i_51, i_52, i_56, i_58, i_59, i_60, i_61, i_62, i_63, i_64, i_85, i_90, i_100, i_112, i_120, i_121, i_127, i_128, i_130, i_144, i_171, i_192, i_193, i_197, i_200, i_207, i_235, i_240, i_248, i_252, i_254, i_255, i_256, i_512, i_544, i_768, i_769, i_793, i_1000, i_1023, i_1024, i_1200, i_1538, i_1541, i_1545, i_2046, i_2047, i_2049, i_2060, i_2736, i_2737, i_2817, i_2818, i_2819, i_2820, i_2821, i_2831, i_2832, i_3077, i_3085, i_3843, i_3849, i_3851, i_3852, i_4129, i_4353, i_4865, i_5121, i_5122, i_5123, i_6156, i_8192, i_12288, i_16383, i_32000, i_33280, i_49152, i_53247, i_60304, i_64000, i_64512, i_65521, i_65535, i_449838109, nI_add, pk_mul, pk_sub, nI_mm, nI_leI, nI_ltI, nI_eq, pk_div, jrem_N, jshl_N, jshr_N, jushr_N, jmin_N, jmax_N, an_1, an_3, an_7, an_15, an_31, an_63, an_127, an_255, an_1023, an_2047, an_16383, an_65535, nm, pfI, rdI, rdW, rdL, rdI2, rdW2, ldA_N, stA_N, stB_N, stZ_N, pfZ_0, pfZ_1, rtZ_0, rtZ_1, acp_N, Option.bind_some, wp_some_iff, true_and, and_true, false_and, and_false, or_true, true_or, or_false, false_or, not_true_eq_false, not_false_eq_true, if_true, if_false, if_pos, if_neg, lt_sub, le_sub, sub_lt3, sub_le3, Option.bind_assoc, q4, zz1]
        exact ⟨key _, Fr.sI (by omega)⟩
      · rw [if_neg q4]
        simp (disch := omega) only [i_0, i_1, i_2, i_3, i_4, i_5, i_6, i_7, i_8, i_9, i_10, i_11, i_12, i_13, i_14, i_15, i_16, i_17, i_18, i_19, i_20, i_21, i_22, i_23, i_24, i_25, i_26, i_27, i_31, i_32, i_40, i_42, i_45, i_48, i_51, i_52, i_56, i_58, i_59, i_60, i_61, i_62, i_63, i_64, i_85, i_90, i_100, i_112, i_120, i_121, i_127, i_128, i_130, i_144, i_171, i_192, i_193, i_197, i_200, i_207, i_235, i_240, i_248, i_252, i_254, i_255, i_256, i_512, i_544, i_768, i_769, i_793, i_1000, i_1023, i_1024, i_1200, i_1538, i_1541, i_1545, i_2046, i_2047, i_2049, i_2060, i_2736, i_2737, i_2817, i_2818, i_2819, i_2820, i_2821, i_2831, i_2832, i_3077, i_3085, i_3843, i_3849, i_3851, i_3852, i_4129, i_4353, i_4865, i_5121, i_5122, i_5123, i_6156, i_8192, i_12288, i_16383, i_32000, i_33280, i_49152, i_53247, i_60304, i_64000, i_64512, i_65521, i_65535, i_449838109, nI_add, pk_mul, pk_sub, nI_mm, nI_leI, nI_ltI, nI_eq, pk_div, jrem_N, jshl_N, jshr_N, jushr_N, jmin_N, jmax_N, an_1, an_3, an_7, an_15, an_31, an_63, an_127, an_255, an_1023, an_2047, an_16383, an_65535, nm, pfI, rdI, rdW, rdL, rdI2, rdW2, ldA_N, stA_N, stB_N, stZ_N, pfZ_0, pfZ_1, rtZ_0, rtZ_1, acp_N, Option.bind_some, wp_some_iff, true_and, and_true, false_and, and_false, or_true, true_or, or_false, false_or, not_true_eq_false, not_false_eq_true, if_true, if_false, if_pos, if_neg, lt_sub, le_sub, sub_lt3, sub_le3, Option.bind_assoc, q1, q2, q4, zz0]
        exact ⟨key _, Fr.sI (by omega)⟩
