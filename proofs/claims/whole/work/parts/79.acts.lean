/-! ===== events and actions: requests that are run ===== -/
def why5 (bs : List Nat) : Nat := if bs.getD 11 0 < 32 then 0 else 14
def act5 (a : Aw) (bs : List Nat) : Aw := (upL a.1 (bs.getD 11 0) (decide (bs.getD 8 0 = 6)), a.2)
theorem act5_C {μ : Mem} {a : Aw} {bs : List Nat} (h : Byt μ 122 bs) (hA : EvC μ a) (hP : Pkg bs) (h7 : bs.getD 7 0 = 5) (hw : bs.getD 11 0 < 32) : wp (f39 μ) (fun m => EvC m (act5 a bs) ∧ Fr (fun c k => c = 101 ∧ k = 11) μ m) := by
  have e8 := sub_C h
  have e11 := arg_C h (i := 0) (by omega)
  have b8 := h.get 8
  have hs := hP.s5 h7
  rw [show 11 + 0 = 11 from rfl] at e11
  unfold f39 act5 c39_34
  rw [i_0, e11, Option.bind_some]
  dsimp only [nm]
  rw [e8, Option.bind_some, i_1, i_5]
  dsimp only
  simp (disch := omega) only [nI_eq]
  have f1 : ∀ x, Fr (fun c k => c = 101 ∧ k = 11) μ (setI μ 101 11 x) := fun x => Fr.sI ⟨rfl, rfl⟩
  have e1 : ∀ x, (setI μ 101 11 x).1 101 11 = x := fun x => by rw [rdI, if_pos ⟨rfl, rfl⟩]
  by_cases q : bs.getD 8 0 = 5
  · rw [if_pos q, decide_eq_false (by omega)]
    refine wp_bind (wp_some rfl) (fun m z => ?_)
    subst z
    refine wp_some ⟨⟨?_, hA.2.fr (f1 _) (fun c k _ _ => by omega)⟩, f1 _⟩
    rw [e1]
    exact hA.1.off (by omega) hw
  · rw [if_neg q, decide_eq_true (by omega)]
    refine wp_bind (wp_some rfl) (fun m z => ?_)
    subst z
    refine wp_some ⟨⟨?_, hA.2.fr (f1 _) (fun c k _ _ => by omega)⟩, f1 _⟩
    rw [e1]
    exact hA.1.on (by omega) hw
theorem EvM.q {μ : Mem} {a : Aw} {e : Nat} {b : Bool} (h : EvM μ a) : EvM (setI μ 190 e (nI (b2n b))) (upL a.1 e b, a.2) := by
  have f1 : Fr (fun c _ => c = 190) μ (setI μ 190 e (nI (b2n b))) := Fr.sI rfl
  refine ⟨fun j hj => ?_, fun j hj hn => ?_, fun i j hi hj ht => ?_⟩
  · rw [rdI]
    by_cases z : j = e
    · subst z
      rw [if_pos ⟨rfl, rfl⟩]
      show _ = nI (b2n (upL a.1 j b j))
      rw [upL_s]
    · rw [if_neg (fun w => z w.2)]
      show _ = nI (b2n (upL a.1 e b j))
      rw [upL_o z]
      exact h.1 j hj
  · rw [f1.1 _ _ (by omega)]; exact h.2.1 j hj hn
  · obtain ⟨a1, a2, a3, a4⟩ := h.2.2 i j hi hj ht
    refine ⟨?_, ?_, ?_, a4.fr f1 (fun k => by omega)⟩
    · rw [f1.1 _ _ (by omega)]; exact a1
    · rw [f1.1 _ _ (by omega)]; exact a2
    · rw [f1.1 _ _ (by omega)]; exact a3
def why19 (a : Aw) (bs : List Nat) : Nat := if bs.getD 11 0 < 32 then (if (fA a.2 (bs.getD 11 0)).isSome = decide (bs.getD 8 0 = 1) then 19 else 0) else 14
theorem why19_C {μ : Mem} {a : Aw} {bs : List Nat} (h : Byt μ 122 bs) (hA : EvC μ a) (hI : EvI a) : f41 μ = some (μ, nI (why19 a bs)) := by
  have e8 := sub_C h
  have e11 := arg_C h (i := 0) (by omega)
  have b8 := h.get 8
  have b11 := h.get 11
  have ff := find_A (e := bs.getD 11 0) hA hI
  have hl := hA.2.len
  rw [show 11 + 0 = 11 from rfl] at e11
  unfold f41 why19 c41_33 c41_48
  by_cases q : bs.getD 11 0 < 32
  · cases hf : fA a.2 (bs.getD 11 0) with
    | none =>
      rw [hf] at ff
      dsimp only at ff
      simp (disch := omega) only [i_0, i_1, i_2, i_3, i_4, i_5, i_6, i_7, i_8, i_9, i_10, i_11, i_12, i_13, i_14, i_15, i_16, i_17, i_18, i_19, i_20, i_21, i_22, i_23, i_24, i_25, i_26, i_27, i_31, i_32, i_40, i_42, i_45, i_48, i_51, i_52, i_56, i_58, i_59, i_60, i_61, i_62, i_63, i_64, i_85, i_90, i_100, i_112, i_120, i_121, i_127, i_128, i_130, i_144, i_171, i_192, i_193, i_197, i_200, i_207, i_235, i_240, i_248, i_252, i_254, i_255, i_256, i_512, i_544, i_768, i_769, i_793, i_1000, i_1023, i_1024, i_1200, i_1538, i_1541, i_1545, i_2046, i_2047, i_2049, i_2060, i_2736, i_2737, i_2817, i_2818, i_2819, i_2820, i_2821, i_2831, i_2832, i_3077, i_3085, i_3843, i_3849, i_3851, i_3852, i_4129, i_4353, i_4865, i_5121, i_5122, i_5123, i_6156, i_8192, i_12288, i_16383, i_32000, i_33280, i_49152, i_53247, i_60304, i_64000, i_64512, i_65521, i_65535, i_449838109, nI_add, pk_mul, pk_sub, nI_mm, nI_leI, nI_ltI, nI_eq, pk_div, jrem_N, jshl_N, jshr_N, jushr_N, jmin_N, jmax_N, an_1, an_3, an_7, an_15, an_31, an_63, an_127, an_255, an_1023, an_2047, an_16383, an_65535, nm, pfI, rdI, rdW, rdL, rdI2, rdW2, ldA_N, stA_N, stB_N, stZ_N, pfZ_0, pfZ_1, rtZ_0, rtZ_1, acp_N, Option.bind_some, wp_some_iff, true_and, and_true, false_and, and_false, or_true, true_or, or_false, false_or, not_true_eq_false, not_false_eq_true, if_true, if_false, if_pos, if_neg, lt_sub, le_sub, sub_lt3, sub_le3, Option.bind_assoc, e11, ff, q, e8, ng1]
      by_cases q1 : bs.getD 8 0 = 1
      · rw [decide_eq_true q1]
        simp (disch := omega) only [i_0, i_1, i_2, i_3, i_4, i_5, i_6, i_7, i_8, i_9, i_10, i_11, i_12, i_13, i_14, i_15, i_16, i_17, i_18, i_19, i_20, i_21, i_22, i_23, i_24, i_25, i_26, i_27, i_31, i_32, i_40, i_42, i_45, i_48, i_51, i_52, i_56, i_58, i_59, i_60, i_61, i_62, i_63, i_64, i_85, i_90, i_100, i_112, i_120, i_121, i_127, i_128, i_130, i_144, i_171, i_192, i_193, i_197, i_200, i_207, i_235, i_240, i_248, i_252, i_254, i_255, i_256, i_512, i_544, i_768, i_769, i_793, i_1000, i_1023, i_1024, i_1200, i_1538, i_1541, i_1545, i_2046, i_2047, i_2049, i_2060, i_2736, i_2737, i_2817, i_2818, i_2819, i_2820, i_2821, i_2831, i_2832, i_3077, i_3085, i_3843, i_3849, i_3851, i_3852, i_4129, i_4353, i_4865, i_5121, i_5122, i_5123, i_6156, i_8192, i_12288, i_16383, i_32000, i_33280, i_49152, i_53247, i_60304, i_64000, i_64512, i_65521, i_65535, i_449838109, nI_add, pk_mul, pk_sub, nI_mm, nI_leI, nI_ltI, nI_eq, pk_div, jrem_N, jshl_N, jshr_N, jushr_N, jmin_N, jmax_N, an_1, an_3, an_7, an_15, an_31, an_63, an_127, an_255, an_1023, an_2047, an_16383, an_65535, nm, pfI, rdI, rdW, rdL, rdI2, rdW2, ldA_N, stA_N, stB_N, stZ_N, pfZ_0, pfZ_1, rtZ_0, rtZ_1, acp_N, Option.bind_some, wp_some_iff, true_and, and_true, false_and, and_false, or_true, true_or, or_false, false_or, not_true_eq_false, not_false_eq_true, if_true, if_false, if_pos, if_neg, lt_sub, le_sub, sub_lt3, sub_le3, Option.bind_assoc, q1, Option.isSome, Bool.false_eq_true]
      · rw [decide_eq_false q1]
        simp (disch := omega) only [i_0, i_1, i_2, i_3, i_4, i_5, i_6, i_7, i_8, i_9, i_10, i_11, i_12, i_13, i_14, i_15, i_16, i_17, i_18, i_19, i_20, i_21, i_22, i_23, i_24, i_25, i_26, i_27, i_31, i_32, i_40, i_42, i_45, i_48, i_51, i_52, i_56, i_58, i_59, i_60, i_61, i_62, i_63, i_64, i_85, i_90, i_100, i_112, i_120, i_121, i_127, i_128, i_130, i_144, i_171, i_192, i_193, i_197, i_200, i_207, i_235, i_240, i_248, i_252, i_254, i_255, i_256, i_512, i_544, i_768, i_769, i_793, i_1000, i_1023, i_1024, i_1200, i_1538, i_1541, i_1545, i_2046, i_2047, i_2049, i_2060, i_2736, i_2737, i_2817, i_2818, i_2819, i_2820, i_2821, i_2831, i_2832, i_3077, i_3085, i_3843, i_3849, i_3851, i_3852, i_4129, i_4353, i_4865, i_5121, i_5122, i_5123, i_6156, i_8192, i_12288, i_16383, i_32000, i_33280, i_49152, i_53247, i_60304, i_64000, i_64512, i_65521, i_65535, i_449838109, nI_add, pk_mul, pk_sub, nI_mm, nI_leI, nI_ltI, nI_eq, pk_div, jrem_N, jshl_N, jshr_N, jushr_N, jmin_N, jmax_N, an_1, an_3, an_7, an_15, an_31, an_63, an_127, an_255, an_1023, an_2047, an_16383, an_65535, nm, pfI, rdI, rdW, rdL, rdI2, rdW2, ldA_N, stA_N, stB_N, stZ_N, pfZ_0, pfZ_1, rtZ_0, rtZ_1, acp_N, Option.bind_some, wp_some_iff, true_and, and_true, false_and, and_false, or_true, true_or, or_false, false_or, not_true_eq_false, not_false_eq_true, if_true, if_false, if_pos, if_neg, lt_sub, le_sub, sub_lt3, sub_le3, Option.bind_assoc, q1, Option.isSome]
    | some i =>
      rw [hf] at ff
      dsimp only at ff
      have hi := (fA_some hf).1
      simp (disch := omega) only [i_0, i_1, i_2, i_3, i_4, i_5, i_6, i_7, i_8, i_9, i_10, i_11, i_12, i_13, i_14, i_15, i_16, i_17, i_18, i_19, i_20, i_21, i_22, i_23, i_24, i_25, i_26, i_27, i_31, i_32, i_40, i_42, i_45, i_48, i_51, i_52, i_56, i_58, i_59, i_60, i_61, i_62, i_63, i_64, i_85, i_90, i_100, i_112, i_120, i_121, i_127, i_128, i_130, i_144, i_171, i_192, i_193, i_197, i_200, i_207, i_235, i_240, i_248, i_252, i_254, i_255, i_256, i_512, i_544, i_768, i_769, i_793, i_1000, i_1023, i_1024, i_1200, i_1538, i_1541, i_1545, i_2046, i_2047, i_2049, i_2060, i_2736, i_2737, i_2817, i_2818, i_2819, i_2820, i_2821, i_2831, i_2832, i_3077, i_3085, i_3843, i_3849, i_3851, i_3852, i_4129, i_4353, i_4865, i_5121, i_5122, i_5123, i_6156, i_8192, i_12288, i_16383, i_32000, i_33280, i_49152, i_53247, i_60304, i_64000, i_64512, i_65521, i_65535, i_449838109, nI_add, pk_mul, pk_sub, nI_mm, nI_leI, nI_ltI, nI_eq, pk_div, jrem_N, jshl_N, jshr_N, jushr_N, jmin_N, jmax_N, an_1, an_3, an_7, an_15, an_31, an_63, an_127, an_255, an_1023, an_2047, an_16383, an_65535, nm, pfI, rdI, rdW, rdL, rdI2, rdW2, ldA_N, stA_N, stB_N, stZ_N, pfZ_0, pfZ_1, rtZ_0, rtZ_1, acp_N, Option.bind_some, wp_some_iff, true_and, and_true, false_and, and_false, or_true, true_or, or_false, false_or, not_true_eq_false, not_false_eq_true, if_true, if_false, if_pos, if_neg, lt_sub, le_sub, sub_lt3, sub_le3, Option.bind_assoc, e11, ff, q, e8]
      by_cases q1 : bs.getD 8 0 = 1
      · rw [decide_eq_true q1]
        simp (disch := omega) only [i_0, i_1, i_2, i_3, i_4, i_5, i_6, i_7, i_8, i_9, i_10, i_11, i_12, i_13, i_14, i_15, i_16, i_17, i_18, i_19, i_20, i_21, i_22, i_23, i_24, i_25, i_26, i_27, i_31, i_32, i_40, i_42, i_45, i_48, i_51, i_52, i_56, i_58, i_59, i_60, i_61, i_62, i_63, i_64, i_85, i_90, i_100, i_112, i_120, i_121, i_127, i_128, i_130, i_144, i_171, i_192, i_193, i_197, i_200, i_207, i_235, i_240, i_248, i_252, i_254, i_255, i_256, i_512, i_544, i_768, i_769, i_793, i_1000, i_1023, i_1024, i_1200, i_1538, i_1541, i_1545, i_2046, i_2047, i_2049, i_2060, i_2736, i_2737, i_2817, i_2818, i_2819, i_2820, i_2821, i_2831, i_2832, i_3077, i_3085, i_3843, i_3849, i_3851, i_3852, i_4129, i_4353, i_4865, i_5121, i_5122, i_5123, i_6156, i_8192, i_12288, i_16383, i_32000, i_33280, i_49152, i_53247, i_60304, i_64000, i_64512, i_65521, i_65535, i_449838109, nI_add, pk_mul, pk_sub, nI_mm, nI_leI, nI_ltI, nI_eq, pk_div, jrem_N, jshl_N, jshr_N, jushr_N, jmin_N, jmax_N, an_1, an_3, an_7, an_15, an_31, an_63, an_127, an_255, an_1023, an_2047, an_16383, an_65535, nm, pfI, rdI, rdW, rdL, rdI2, rdW2, ldA_N, stA_N, stB_N, stZ_N, pfZ_0, pfZ_1, rtZ_0, rtZ_1, acp_N, Option.bind_some, wp_some_iff, true_and, and_true, false_and, and_false, or_true, true_or, or_false, false_or, not_true_eq_false, not_false_eq_true, if_true, if_false, if_pos, if_neg, lt_sub, le_sub, sub_lt3, sub_le3, Option.bind_assoc, q1, Option.isSome]
      · rw [decide_eq_false q1]
        simp (disch := omega) only [i_0, i_1, i_2, i_3, i_4, i_5, i_6, i_7, i_8, i_9, i_10, i_11, i_12, i_13, i_14, i_15, i_16, i_17, i_18, i_19, i_20, i_21, i_22, i_23, i_24, i_25, i_26, i_27, i_31, i_32, i_40, i_42, i_45, i_48, i_51, i_52, i_56, i_58, i_59, i_60, i_61, i_62, i_63, i_64, i_85, i_90, i_100, i_112, i_120, i_121, i_127, i_128, i_130, i_144, i_171, i_192, i_193, i_197, i_200, i_207, i_235, i_240, i_248, i_252, i_254, i_255, i_256, i_512, i_544, i_768, i_769, i_793, i_1000, i_1023, i_1024, i_1200, i_1538, i_1541, i_1545, i_2046, i_2047, i_2049, i_2060, i_2736, i_2737, i_2817, i_2818, i_2819, i_2820, i_2821, i_2831, i_2832, i_3077, i_3085, i_3843, i_3849, i_3851, i_3852, i_4129, i_4353, i_4865, i_5121, i_5122, i_5123, i_6156, i_8192, i_12288, i_16383, i_32000, i_33280, i_49152, i_53247, i_60304, i_64000, i_64512, i_65521, i_65535, i_449838109, nI_add, pk_mul, pk_sub, nI_mm, nI_leI, nI_ltI, nI_eq, pk_div, jrem_N, jshl_N, jshr_N, jushr_N, jmin_N, jmax_N, an_1, an_3, an_7, an_15, an_31, an_63, an_127, an_255, an_1023, an_2047, an_16383, an_65535, nm, pfI, rdI, rdW, rdL, rdI2, rdW2, ldA_N, stA_N, stB_N, stZ_N, pfZ_0, pfZ_1, rtZ_0, rtZ_1, acp_N, Option.bind_some, wp_some_iff, true_and, and_true, false_and, and_false, or_true, true_or, or_false, false_or, not_true_eq_false, not_false_eq_true, if_true, if_false, if_pos, if_neg, lt_sub, le_sub, sub_lt3, sub_le3, Option.bind_assoc, q1, Option.isSome, Bool.true_eq_false]
  · simp (disch := omega) only [i_0, i_1, i_2, i_3, i_4, i_5, i_6, i_7, i_8, i_9, i_10, i_11, i_12, i_13, i_14, i_15, i_16, i_17, i_18, i_19, i_20, i_21, i_22, i_23, i_24, i_25, i_26, i_27, i_31, i_32, i_40, i_42, i_45, i_48, i_51, i_52, i_56, i_58, i_59, i_60, i_61, i_62, i_63, i_64, i_85, i_90, i_100, i_112, i_120, i_121, i_127, i_128, i_130, i_144, i_171, i_192, i_193, i_197, i_200, i_207, i_235, i_240, i_248, i_252, i_254, i_255, i_256, i_512, i_544, i_768, i_769, i_793, i_1000, i_1023, i_1024, i_1200, i_1538, i_1541, i_1545, i_2046, i_2047, i_2049, i_2060, i_2736, i_2737, i_2817, i_2818, i_2819, i_2820, i_2821, i_2831, i_2832, i_3077, i_3085, i_3843, i_3849, i_3851, i_3852, i_4129, i_4353, i_4865, i_5121, i_5122, i_5123, i_6156, i_8192, i_12288, i_16383, i_32000, i_33280, i_49152, i_53247, i_60304, i_64000, i_64512, i_65521, i_65535, i_449838109, nI_add, pk_mul, pk_sub, nI_mm, nI_leI, nI_ltI, nI_eq, pk_div, jrem_N, jshl_N, jshr_N, jushr_N, jmin_N, jmax_N, an_1, an_3, an_7, an_15, an_31, an_63, an_127, an_255, an_1023, an_2047, an_16383, an_65535, nm, pfI, rdI, rdW, rdL, rdI2, rdW2, ldA_N, stA_N, stB_N, stZ_N, pfZ_0, pfZ_1, rtZ_0, rtZ_1, acp_N, Option.bind_some, wp_some_iff, true_and, and_true, false_and, and_false, or_true, true_or, or_false, false_or, not_true_eq_false, not_false_eq_true, if_true, if_false, if_pos, if_neg, lt_sub, le_sub, sub_lt3, sub_le3, Option.bind_assoc, e11, q]
theorem why19_M {μ : Mem} {a : Aw} {bs : List Nat} {dep : Nat} (h : CurM μ bs dep) (hA : EvM μ a) (hP : Pkg bs) (h7 : bs.getD 7 0 = 19) : f321 (nI 19) (nI (bs.getD 8 0)) μ = some (μ, nI (why19 a bs)) := by
  have hl := hP.2.1
  have g1 := gl_191
  have hs := hP.s19 h7
  have b8 := getD_lt h.2.2.2 8
  have b11 := getD_lt h.2.2.2 11
  rw [why_M h hl]
  unfold c321_20 why19 xq c321_377
  rw [if_pos (show 13 < bs.length by omega)]
  by_cases q : bs.getD 11 0 < 32
  · cases hf : fA a.2 (bs.getD 11 0) with
    | none =>
      have e1 := hA.2.1 _ q (fA_none hf)
      simp (disch := omega) only [i_0, i_1, i_2, i_3, i_4, i_5, i_6, i_7, i_8, i_9, i_10, i_11, i_12, i_13, i_14, i_15, i_16, i_17, i_18, i_19, i_20, i_21, i_22, i_23, i_24, i_25, i_26, i_27, i_31, i_32, i_40, i_42, i_45, i_48, i_51, i_52, i_56, i_58, i_59, i_60, i_61, i_62, i_63, i_64, i_85, i_90, i_100, i_112, i_120, i_121, i_127, i_128, i_130, i_144, i_171, i_192, i_193, i_197, i_200, i_207, i_235, i_240, i_248, i_252, i_254, i_255, i_256, i_512, i_544, i_768, i_769, i_793, i_1000, i_1023, i_1024, i_1200, i_1538, i_1541, i_1545, i_2046, i_2047, i_2049, i_2060, i_2736, i_2737, i_2817, i_2818, i_2819, i_2820, i_2821, i_2831, i_2832, i_3077, i_3085, i_3843, i_3849, i_3851, i_3852, i_4129, i_4353, i_4865, i_5121, i_5122, i_5123, i_6156, i_8192, i_12288, i_16383, i_32000, i_33280, i_49152, i_53247, i_60304, i_64000, i_64512, i_65521, i_65535, i_449838109, nI_add, pk_mul, pk_sub, nI_mm, nI_leI, nI_ltI, nI_eq, pk_div, jrem_N, jshl_N, jshr_N, jushr_N, jmin_N, jmax_N, an_1, an_3, an_7, an_15, an_31, an_63, an_127, an_255, an_1023, an_2047, an_16383, an_65535, nm, pfI, rdI, rdW, rdL, rdI2, rdW2, ldA_N, stA_N, stB_N, stZ_N, pfZ_0, pfZ_1, rtZ_0, rtZ_1, acp_N, Option.bind_some, wp_some_iff, true_and, and_true, false_and, and_false, or_true, true_or, or_false, false_or, not_true_eq_false, not_false_eq_true, if_true, if_false, if_pos, if_neg, lt_sub, le_sub, sub_lt3, sub_le3, Option.bind_assoc, e1, q]
      by_cases q1 : bs.getD 8 0 = 1
      · rw [decide_eq_true q1]
        simp (disch := omega) only [i_0, i_1, i_2, i_3, i_4, i_5, i_6, i_7, i_8, i_9, i_10, i_11, i_12, i_13, i_14, i_15, i_16, i_17, i_18, i_19, i_20, i_21, i_22, i_23, i_24, i_25, i_26, i_27, i_31, i_32, i_40, i_42, i_45, i_48, i_51, i_52, i_56, i_58, i_59, i_60, i_61, i_62, i_63, i_64, i_85, i_90, i_100, i_112, i_120, i_121, i_127, i_128, i_130, i_144, i_171, i_192, i_193, i_197, i_200, i_207, i_235, i_240, i_248, i_252, i_254, i_255, i_256, i_512, i_544, i_768, i_769, i_793, i_1000, i_1023, i_1024, i_1200, i_1538, i_1541, i_1545, i_2046, i_2047, i_2049, i_2060, i_2736, i_2737, i_2817, i_2818, i_2819, i_2820, i_2821, i_2831, i_2832, i_3077, i_3085, i_3843, i_3849, i_3851, i_3852, i_4129, i_4353, i_4865, i_5121, i_5122, i_5123, i_6156, i_8192, i_12288, i_16383, i_32000, i_33280, i_49152, i_53247, i_60304, i_64000, i_64512, i_65521, i_65535, i_449838109, nI_add, pk_mul, pk_sub, nI_mm, nI_leI, nI_ltI, nI_eq, pk_div, jrem_N, jshl_N, jshr_N, jushr_N, jmin_N, jmax_N, an_1, an_3, an_7, an_15, an_31, an_63, an_127, an_255, an_1023, an_2047, an_16383, an_65535, nm, pfI, rdI, rdW, rdL, rdI2, rdW2, ldA_N, stA_N, stB_N, stZ_N, pfZ_0, pfZ_1, rtZ_0, rtZ_1, acp_N, Option.bind_some, wp_some_iff, true_and, and_true, false_and, and_false, or_true, true_or, or_false, false_or, not_true_eq_false, not_false_eq_true, if_true, if_false, if_pos, if_neg, lt_sub, le_sub, sub_lt3, sub_le3, Option.bind_assoc, q1, Option.isSome, Bool.false_eq_true]
      · rw [decide_eq_false q1]
        simp (disch := omega) only [i_0, i_1, i_2, i_3, i_4, i_5, i_6, i_7, i_8, i_9, i_10, i_11, i_12, i_13, i_14, i_15, i_16, i_17, i_18, i_19, i_20, i_21, i_22, i_23, i_24, i_25, i_26, i_27, i_31, i_32, i_40, i_42, i_45, i_48, i_51, i_52, i_56, i_58, i_59, i_60, i_61, i_62, i_63, i_64, i_85, i_90, i_100, i_112, i_120, i_121, i_127, i_128, i_130, i_144, i_171, i_192, i_193, i_197, i_200, i_207, i_235, i_240, i_248, i_252, i_254, i_255, i_256, i_512, i_544, i_768, i_769, i_793, i_1000, i_1023, i_1024, i_1200, i_1538, i_1541, i_1545, i_2046, i_2047, i_2049, i_2060, i_2736, i_2737, i_2817, i_2818, i_2819, i_2820, i_2821, i_2831, i_2832, i_3077, i_3085, i_3843, i_3849, i_3851, i_3852, i_4129, i_4353, i_4865, i_5121, i_5122, i_5123, i_6156, i_8192, i_12288, i_16383, i_32000, i_33280, i_49152, i_53247, i_60304, i_64000, i_64512, i_65521, i_65535, i_449838109, nI_add, pk_mul, pk_sub, nI_mm, nI_leI, nI_ltI, nI_eq, pk_div, jrem_N, jshl_N, jshr_N, jushr_N, jmin_N, jmax_N, an_1, an_3, an_7, an_15, an_31, an_63, an_127, an_255, an_1023, an_2047, an_16383, an_65535, nm, pfI, rdI, rdW, rdL, rdI2, rdW2, ldA_N, stA_N, stB_N, stZ_N, pfZ_0, pfZ_1, rtZ_0, rtZ_1, acp_N, Option.bind_some, wp_some_iff, true_and, and_true, false_and, and_false, or_true, true_or, or_false, false_or, not_true_eq_false, not_false_eq_true, if_true, if_false, if_pos, if_neg, lt_sub, le_sub, sub_lt3, sub_le3, Option.bind_assoc, q1, Option.isSome]
    | some i =>
      obtain ⟨hi, ht⟩ := fA_some hf
      have e1 := (hA.2.2 i _ hi q ht).1
      simp (disch := omega) only [i_0, i_1, i_2, i_3, i_4, i_5, i_6, i_7, i_8, i_9, i_10, i_11, i_12, i_13, i_14, i_15, i_16, i_17, i_18, i_19, i_20, i_21, i_22, i_23, i_24, i_25, i_26, i_27, i_31, i_32, i_40, i_42, i_45, i_48, i_51, i_52, i_56, i_58, i_59, i_60, i_61, i_62, i_63, i_64, i_85, i_90, i_100, i_112, i_120, i_121, i_127, i_128, i_130, i_144, i_171, i_192, i_193, i_197, i_200, i_207, i_235, i_240, i_248, i_252, i_254, i_255, i_256, i_512, i_544, i_768, i_769, i_793, i_1000, i_1023, i_1024, i_1200, i_1538, i_1541, i_1545, i_2046, i_2047, i_2049, i_2060, i_2736, i_2737, i_2817, i_2818, i_2819, i_2820, i_2821, i_2831, i_2832, i_3077, i_3085, i_3843, i_3849, i_3851, i_3852, i_4129, i_4353, i_4865, i_5121, i_5122, i_5123, i_6156, i_8192, i_12288, i_16383, i_32000, i_33280, i_49152, i_53247, i_60304, i_64000, i_64512, i_65521, i_65535, i_449838109, nI_add, pk_mul, pk_sub, nI_mm, nI_leI, nI_ltI, nI_eq, pk_div, jrem_N, jshl_N, jshr_N, jushr_N, jmin_N, jmax_N, an_1, an_3, an_7, an_15, an_31, an_63, an_127, an_255, an_1023, an_2047, an_16383, an_65535, nm, pfI, rdI, rdW, rdL, rdI2, rdW2, ldA_N, stA_N, stB_N, stZ_N, pfZ_0, pfZ_1, rtZ_0, rtZ_1, acp_N, Option.bind_some, wp_some_iff, true_and, and_true, false_and, and_false, or_true, true_or, or_false, false_or, not_true_eq_false, not_false_eq_true, if_true, if_false, if_pos, if_neg, lt_sub, le_sub, sub_lt3, sub_le3, Option.bind_assoc, e1, q]
      by_cases q1 : bs.getD 8 0 = 1
      · rw [decide_eq_true q1]
        simp (disch := omega) only [i_0, i_1, i_2, i_3, i_4, i_5, i_6, i_7, i_8, i_9, i_10, i_11, i_12, i_13, i_14, i_15, i_16, i_17, i_18, i_19, i_20, i_21, i_22, i_23, i_24, i_25, i_26, i_27, i_31, i_32, i_40, i_42, i_45, i_48, i_51, i_52, i_56, i_58, i_59, i_60, i_61, i_62, i_63, i_64, i_85, i_90, i_100, i_112, i_120, i_121, i_127, i_128, i_130, i_144, i_171, i_192, i_193, i_197, i_200, i_207, i_235, i_240, i_248, i_252, i_254, i_255, i_256, i_512, i_544, i_768, i_769, i_793, i_1000, i_1023, i_1024, i_1200, i_1538, i_1541, i_1545, i_2046, i_2047, i_2049, i_2060, i_2736, i_2737, i_2817, i_2818, i_2819, i_2820, i_2821, i_2831, i_2832, i_3077, i_3085, i_3843, i_3849, i_3851, i_3852, i_4129, i_4353, i_4865, i_5121, i_5122, i_5123, i_6156, i_8192, i_12288, i_16383, i_32000, i_33280, i_49152, i_53247, i_60304, i_64000, i_64512, i_65521, i_65535, i_449838109, nI_add, pk_mul, pk_sub, nI_mm, nI_leI, nI_ltI, nI_eq, pk_div, jrem_N, jshl_N, jshr_N, jushr_N, jmin_N, jmax_N, an_1, an_3, an_7, an_15, an_31, an_63, an_127, an_255, an_1023, an_2047, an_16383, an_65535, nm, pfI, rdI, rdW, rdL, rdI2, rdW2, ldA_N, stA_N, stB_N, stZ_N, pfZ_0, pfZ_1, rtZ_0, rtZ_1, acp_N, Option.bind_some, wp_some_iff, true_and, and_true, false_and, and_false, or_true, true_or, or_false, false_or, not_true_eq_false, not_false_eq_true, if_true, if_false, if_pos, if_neg, lt_sub, le_sub, sub_lt3, sub_le3, Option.bind_assoc, q1, Option.isSome]
      · rw [decide_eq_false q1]
        simp (disch := omega) only [i_0, i_1, i_2, i_3, i_4, i_5, i_6, i_7, i_8, i_9, i_10, i_11, i_12, i_13, i_14, i_15, i_16, i_17, i_18, i_19, i_20, i_21, i_22, i_23, i_24, i_25, i_26, i_27, i_31, i_32, i_40, i_42, i_45, i_48, i_51, i_52, i_56, i_58, i_59, i_60, i_61, i_62, i_63, i_64, i_85, i_90, i_100, i_112, i_120, i_121, i_127, i_128, i_130, i_144, i_171, i_192, i_193, i_197, i_200, i_207, i_235, i_240, i_248, i_252, i_254, i_255, i_256, i_512, i_544, i_768, i_769, i_793, i_1000, i_1023, i_1024, i_1200, i_1538, i_1541, i_1545, i_2046, i_2047, i_2049, i_2060, i_2736, i_2737, i_2817, i_2818, i_2819, i_2820, i_2821, i_2831, i_2832, i_3077, i_3085, i_3843, i_3849, i_3851, i_3852, i_4129, i_4353, i_4865, i_5121, i_5122, i_5123, i_6156, i_8192, i_12288, i_16383, i_32000, i_33280, i_49152, i_53247, i_60304, i_64000, i_64512, i_65521, i_65535, i_449838109, nI_add, pk_mul, pk_sub, nI_mm, nI_leI, nI_ltI, nI_eq, pk_div, jrem_N, jshl_N, jshr_N, jushr_N, jmin_N, jmax_N, an_1, an_3, an_7, an_15, an_31, an_63, an_127, an_255, an_1023, an_2047, an_16383, an_65535, nm, pfI, rdI, rdW, rdL, rdI2, rdW2, ldA_N, stA_N, stB_N, stZ_N, pfZ_0, pfZ_1, rtZ_0, rtZ_1, acp_N, Option.bind_some, wp_some_iff, true_and, and_true, false_and, and_false, or_true, true_or, or_false, false_or, not_true_eq_false, not_false_eq_true, if_true, if_false, if_pos, if_neg, lt_sub, le_sub, sub_lt3, sub_le3, Option.bind_assoc, q1, Option.isSome, Bool.true_eq_false]
  · simp (disch := omega) only [i_0, i_1, i_2, i_3, i_4, i_5, i_6, i_7, i_8, i_9, i_10, i_11, i_12, i_13, i_14, i_15, i_16, i_17, i_18, i_19, i_20, i_21, i_22, i_23, i_24, i_25, i_26, i_27, i_31, i_32, i_40, i_42, i_45, i_48, i_51, i_52, i_56, i_58, i_59, i_60, i_61, i_62, i_63, i_64, i_85, i_90, i_100, i_112, i_120, i_121, i_127, i_128, i_130, i_144, i_171, i_192, i_193, i_197, i_200, i_207, i_235, i_240, i_248, i_252, i_254, i_255, i_256, i_512, i_544, i_768, i_769, i_793, i_1000, i_1023, i_1024, i_1200, i_1538, i_1541, i_1545, i_2046, i_2047, i_2049, i_2060, i_2736, i_2737, i_2817, i_2818, i_2819, i_2820, i_2821, i_2831, i_2832, i_3077, i_3085, i_3843, i_3849, i_3851, i_3852, i_4129, i_4353, i_4865, i_5121, i_5122, i_5123, i_6156, i_8192, i_12288, i_16383, i_32000, i_33280, i_49152, i_53247, i_60304, i_64000, i_64512, i_65521, i_65535, i_449838109, nI_add, pk_mul, pk_sub, nI_mm, nI_leI, nI_ltI, nI_eq, pk_div, jrem_N, jshl_N, jshr_N, jushr_N, jmin_N, jmax_N, an_1, an_3, an_7, an_15, an_31, an_63, an_127, an_255, an_1023, an_2047, an_16383, an_65535, nm, pfI, rdI, rdW, rdL, rdI2, rdW2, ldA_N, stA_N, stB_N, stZ_N, pfZ_0, pfZ_1, rtZ_0, rtZ_1, acp_N, Option.bind_some, wp_some_iff, true_and, and_true, false_and, and_false, or_true, true_or, or_false, false_or, not_true_eq_false, not_false_eq_true, if_true, if_false, if_pos, if_neg, lt_sub, le_sub, sub_lt3, sub_le3, Option.bind_assoc, q]
def xs19 (bs : List Nat) : List Nat := (bs.drop 13).take (bs.length - 15)
theorem xs19_len {bs : List Nat} : (xs19 bs).length = bs.length - 15 := by
  unfold xs19
  rw [List.length_take, List.length_drop]
  omega
def act19 (a : Aw) (bs : List Nat) : Aw := (a.1, if bs.getD 8 0 = 1 then a.2 ++ [(xs19 bs, nI (bs.getD 11 0), nI (bs.getD 12 0))] else match fA a.2 (bs.getD 11 0) with
  | none => a.2
  | some i => if bs.getD 8 0 = 2 then a.2.eraseIdx i else a.2.set i ((pk a.2 i).1, (pk a.2 i).2.1, if bs.getD 8 0 = 4 then nI 1 else nI 0))
theorem why19_0 {a : Aw} {bs : List Nat} (hw : why19 a bs = 0) : bs.getD 11 0 < 32 ∧ (bs.getD 8 0 = 1 → fA a.2 (bs.getD 11 0) = none) ∧ (bs.getD 8 0 ≠ 1 → ∃ i, fA a.2 (bs.getD 11 0) = some i) := by
  unfold why19 at hw
  by_cases q : bs.getD 11 0 < 32
  · rw [if_pos q] at hw
    refine ⟨q, fun q1 => ?_, fun q1 => ?_⟩
    · cases hf : fA a.2 (bs.getD 11 0) with
      | none => rfl
      | some i =>
        rw [hf, decide_eq_true q1] at hw
        exact absurd (show 19 = 0 from hw) (by decide)
    · cases hf : fA a.2 (bs.getD 11 0) with
      | none =>
        rw [hf, decide_eq_false q1] at hw
        exact absurd hw (by decide)
      | some i => exact ⟨i, rfl⟩
  · rw [if_neg q] at hw
    exact absurd hw (by decide)
theorem EvI.l31 {a : Aw} {e : Nat} (h : EvI a) (he : e < 32) (hn : ∀ i, i < a.2.length → (pk a.2 i).2.1 ≠ nI e) : a.2.length < 32 := by
  have key := pig 32 (a.2.length + 1) (fun i => if i < a.2.length then nt (pk a.2 i).2.1 else e) (fun i hi => by
    try dsimp only
    split
    · next q =>
      obtain ⟨⟨e1, h1, h2⟩, _⟩ := h.1 i q
      rw [h2, nt_nI (by omega)]
      exact h1
    · exact he) (fun i j hi hj hf => by
    try dsimp only at hf
    by_cases q1 : i < a.2.length
    · obtain ⟨⟨e1, h1, h2⟩, _⟩ := h.1 i q1
      rw [if_pos q1, h2, nt_nI (by omega)] at hf
      by_cases q2 : j < a.2.length
      · obtain ⟨⟨e2, h3, h4⟩, _⟩ := h.1 j q2
        rw [if_pos q2, h4, nt_nI (by omega)] at hf
        exact h.2 i j q1 q2 (by rw [h2, h4, hf])
      · rw [if_neg q2] at hf
        exact absurd (by rw [h2, hf]) (hn i q1)
    · rw [if_neg q1] at hf
      by_cases q2 : j < a.2.length
      · obtain ⟨⟨e2, h3, h4⟩, _⟩ := h.1 j q2
        rw [if_pos q2, h4, nt_nI (by omega)] at hf
        exact absurd (by rw [h4, ← hf]) (hn j q2)
      · omega)
  omega
theorem off_c {ps : List Pk} {c : Nat} (h : ∀ i, i < ps.length → (pk ps i).1.length ≤ c) : ∀ n, n ≤ ps.length → off ps n ≤ c * n
  | 0, _ => Nat.zero_le _
  | n + 1, hn => by
    have h1 := off_c h n (by omega)
    have h2 := h n (by omega)
    rw [off, Nat.mul_succ]
    omega
theorem act19_I {a : Aw} {bs : List Nat} (h : EvI a) (hP : Pkg bs) (h7 : bs.getD 7 0 = 19) (hw : why19 a bs = 0) : EvI (act19 a bs) := by
  obtain ⟨w1, w2, w3⟩ := why19_0 hw
  have hs := hP.s19 h7
  have hxl := xs19_len (bs := bs)
  by_cases q1 : bs.getD 8 0 = 1
  · have hn := fA_none (w2 q1)
    unfold act19
    rw [if_pos q1]
    refine ⟨fun i hi => ?_, fun i j hi hj ht => ?_⟩
    · dsimp only at hi ⊢
      rw [List.length_append] at hi
      rw [pk_app]
      by_cases e : i < a.2.length
      · rw [if_pos e]; exact h.1 i e
      · rw [if_neg e, if_pos (by simp at hi; omega)]
        refine ⟨⟨_, w1, rfl⟩, by dsimp only; omega, ?_⟩
        have : bs.getD 12 0 = 0 ∨ bs.getD 12 0 = 1 := by omega
        rcases this with z | z
        · exact Or.inl (by rw [z])
        · exact Or.inr (by rw [z])
    · dsimp only at hi hj ht
      rw [List.length_append] at hi hj
      simp only [List.length_singleton] at hi hj
      rw [pk_app, pk_app] at ht
      by_cases e : i < a.2.length
      · rw [if_pos e] at ht
        by_cases e2 : j < a.2.length
        · rw [if_pos e2] at ht; exact h.2 i j e e2 ht
        · rw [if_neg e2, if_pos (by omega)] at ht
          exact absurd ht (hn i e)
      · rw [if_neg e, if_pos (by omega)] at ht
        by_cases e2 : j < a.2.length
        · rw [if_pos e2] at ht
          exact absurd ht.symm (hn j e2)
        · omega
  · obtain ⟨i0, hf⟩ := w3 q1
    obtain ⟨h0, ht0⟩ := fA_some hf
    unfold act19
    rw [if_neg q1, hf]
    dsimp only
    by_cases q2 : bs.getD 8 0 = 2
    · rw [if_pos q2]
      have hl : (a.2.eraseIdx i0).length = a.2.length - 1 := List.length_eraseIdx_of_lt h0
      refine ⟨fun i hi => ?_, fun i j hi hj ht => ?_⟩
      · dsimp only at hi ⊢
        rw [hl] at hi
        rw [pk_era]
        split
        · exact h.1 i (by omega)
        · exact h.1 (i + 1) (by omega)
      · dsimp only at hi hj ht
        rw [hl] at hi hj
        rw [pk_era, pk_era] at ht
        by_cases e : i < i0
        · rw [if_pos e] at ht
          by_cases e2 : j < i0
          · rw [if_pos e2] at ht; exact h.2 i j (by omega) (by omega) ht
          · rw [if_neg e2] at ht
            have := h.2 i (j + 1) (by omega) (by omega) ht
            omega
        · rw [if_neg e] at ht
          by_cases e2 : j < i0
          · rw [if_pos e2] at ht
            have := h.2 (i + 1) j (by omega) (by omega) ht
            omega
          · rw [if_neg e2] at ht
            have := h.2 (i + 1) (j + 1) (by omega) (by omega) ht
            omega
    · rw [if_neg q2]
      have tg : ∀ i, (pk (a.2.set i0 ((pk a.2 i0).1, (pk a.2 i0).2.1, if bs.getD 8 0 = 4 then nI 1 else nI 0)) i).2.1 = (pk a.2 i).2.1 := by
        intro i
        rw [pk_set h0]
        by_cases e : i = i0
        · rw [if_pos e, e]
        · rw [if_neg e]
      refine ⟨fun i hi => ?_, fun i j hi hj ht => ?_⟩
      · dsimp only at hi ⊢
        rw [List.length_set] at hi
        rw [pk_set h0]
        by_cases e : i = i0
        · rw [if_pos e]
          obtain ⟨x1, x2, x3⟩ := h.1 i0 h0
          refine ⟨x1, x2, ?_⟩
          dsimp only
          split
          · exact Or.inr rfl
          · exact Or.inl rfl
        · rw [if_neg e]; exact h.1 i hi
      · dsimp only at hi hj ht
        rw [List.length_set] at hi hj
        rw [tg, tg] at ht
        exact h.2 i j hi hj ht
theorem act19_C {μ : Mem} {a : Aw} {bs : List Nat} (h : Byt μ 122 bs) (hA : EvC μ a) (hI : EvI a) (hP : Pkg bs) (h7 : bs.getD 7 0 = 19) (hw : why19 a bs = 0) : wp (f42 μ) (fun m => EvC m (act19 a bs) ∧ Fr (FS 114) μ m) := by
  have e8 := sub_C h
  have e11 := arg_C h (i := 0) (by omega)
  have e12 := arg_C h (i := 1) (by omega)
  have b8 := h.get 8
  have b11 := h.get 11
  have ff := find_A (e := bs.getD 11 0) hA hI
  have hl := hA.2.len
  have h1 := h.1
  have g1 : gln (114 + 1) = 1280 := gl_115
  have g2 : gln (114 + 2) = 32 := gl_116
  obtain ⟨w1, w2, w3⟩ := why19_0 hw
  have hs := hP.s19 h7
  have hl60 := hP.2.1
  have hxl := xs19_len (bs := bs)
  rw [show 11 + 0 = 11 from rfl] at e11
  rw [show 11 + 1 = 12 from rfl] at e12
  unfold f42 act19 c42_112
  by_cases q1 : bs.getD 8 0 = 1
  · have hn := fA_none (w2 q1)
    have hlt := hI.l31 w1 hn
    have ho := off_c (c := 40) (fun i hi => (hI.1 i hi).2.1) a.2.length (Nat.le_refl _)
    rw [w2 q1] at ff
    dsimp only at ff
    rw [if_pos q1]
    simp (disch := omega) only [i_0, i_1, i_2, i_3, i_4, i_5, i_6, i_7, i_8, i_9, i_10, i_11, i_12, i_13, i_14, i_15, i_16, i_17, i_18, i_19, i_20, i_21, i_22, i_23, i_24, i_25, i_26, i_27, i_31, i_32, i_40, i_42, i_45, i_48, i_51, i_52, i_56, i_58, i_59, i_60, i_61, i_62, i_63, i_64, i_85, i_90, i_100, i_112, i_120, i_121, i_127, i_128, i_130, i_144, i_171, i_192, i_193, i_197, i_200, i_207, i_235, i_240, i_248, i_252, i_254, i_255, i_256, i_512, i_544, i_768, i_769, i_793, i_1000, i_1023, i_1024, i_1200, i_1538, i_1541, i_1545, i_2046, i_2047, i_2049, i_2060, i_2736, i_2737, i_2817, i_2818, i_2819, i_2820, i_2821, i_2831, i_2832, i_3077, i_3085, i_3843, i_3849, i_3851, i_3852, i_4129, i_4353, i_4865, i_5121, i_5122, i_5123, i_6156, i_8192, i_12288, i_16383, i_32000, i_33280, i_49152, i_53247, i_60304, i_64000, i_64512, i_65521, i_65535, i_449838109, nI_add, pk_mul, pk_sub, nI_mm, nI_leI, nI_ltI, nI_eq, pk_div, jrem_N, jshl_N, jshr_N, jushr_N, jmin_N, jmax_N, an_1, an_3, an_7, an_15, an_31, an_63, an_127, an_255, an_1023, an_2047, an_16383, an_65535, nm, pfI, rdI, rdW, rdL, rdI2, rdW2, ldA_N, stA_N, stB_N, stZ_N, pfZ_0, pfZ_1, rtZ_0, rtZ_1, acp_N, Option.bind_some, wp_some_iff, true_and, and_true, false_and, and_false, or_true, true_or, or_false, false_or, not_true_eq_false, not_false_eq_true, if_true, if_false, if_pos, if_neg, lt_sub, le_sub, sub_lt3, sub_le3, Option.bind_assoc, e11, ff, e8, q1, e12, h1]
    rw [show bs.length - 13 - 2 = (xs19 bs).length by omega]
    refine wp_bind (shadd_C (xs := xs19 bs) (b := 13) (tag := nI (bs.getD 11 0)) (mark := nI (bs.getD 12 0)) hA.2 h (by omega) (by rw [hxl]; rfl) (by omega)) (fun r ⟨c1, c2⟩ => ?_)
    rw [if_pos ⟨by omega, by omega⟩] at c1
    refine wp_some ⟨⟨?_, c1.2⟩, c2⟩
    rw [c2.1 _ _ (by omega)]
    exact hA.1
  · obtain ⟨i0, hf⟩ := w3 q1
    obtain ⟨h0, ht0⟩ := fA_some hf
    rw [hf] at ff
    dsimp only at ff
    rw [if_neg q1, hf]
    dsimp only
    by_cases q2 : bs.getD 8 0 = 2
    · rw [if_pos q2]
      simp (disch := omega) only [i_0, i_1, i_2, i_3, i_4, i_5, i_6, i_7, i_8, i_9, i_10, i_11, i_12, i_13, i_14, i_15, i_16, i_17, i_18, i_19, i_20, i_21, i_22, i_23, i_24, i_25, i_26, i_27, i_31, i_32, i_40, i_42, i_45, i_48, i_51, i_52, i_56, i_58, i_59, i_60, i_61, i_62, i_63, i_64, i_85, i_90, i_100, i_112, i_120, i_121, i_127, i_128, i_130, i_144, i_171, i_192, i_193, i_197, i_200, i_207, i_235, i_240, i_248, i_252, i_254, i_255, i_256, i_512, i_544, i_768, i_769, i_793, i_1000, i_1023, i_1024, i_1200, i_1538, i_1541, i_1545, i_2046, i_2047, i_2049, i_2060, i_2736, i_2737, i_2817, i_2818, i_2819, i_2820, i_2821, i_2831, i_2832, i_3077, i_3085, i_3843, i_3849, i_3851, i_3852, i_4129, i_4353, i_4865, i_5121, i_5122, i_5123, i_6156, i_8192, i_12288, i_16383, i_32000, i_33280, i_49152, i_53247, i_60304, i_64000, i_64512, i_65521, i_65535, i_449838109, nI_add, pk_mul, pk_sub, nI_mm, nI_leI, nI_ltI, nI_eq, pk_div, jrem_N, jshl_N, jshr_N, jushr_N, jmin_N, jmax_N, an_1, an_3, an_7, an_15, an_31, an_63, an_127, an_255, an_1023, an_2047, an_16383, an_65535, nm, pfI, rdI, rdW, rdL, rdI2, rdW2, ldA_N, stA_N, stB_N, stZ_N, pfZ_0, pfZ_1, rtZ_0, rtZ_1, acp_N, Option.bind_some, wp_some_iff, true_and, and_true, false_and, and_false, or_true, true_or, or_false, false_or, not_true_eq_false, not_false_eq_true, if_true, if_false, if_pos, if_neg, lt_sub, le_sub, sub_lt3, sub_le3, Option.bind_assoc, e11, ff, e8, q2]
      refine wp_bind (shrem_C hA.2 h0) (fun m ⟨c1, c2⟩ => wp_some ⟨⟨?_, c1⟩, c2⟩)
      rw [c2.1 _ _ (by omega)]
      exact hA.1
    · rw [if_neg q2]
      by_cases q4 : bs.getD 8 0 = 4
      · rw [if_pos q4]
        simp (disch := omega) only [i_0, i_1, i_2, i_3, i_4, i_5, i_6, i_7, i_8, i_9, i_10, i_11, i_12, i_13, i_14, i_15, i_16, i_17, i_18, i_19, i_20, i_21, i_22, i_23, i_24, i_25, i_26, i_27, i_31, i_32, i_40, i_42, i_45, i_48, i_51, i_52, i_56, i_58, i_59, i_60, i_61, i_62, i_63, i_64, i_85, i_90, i_100, i_112, i_120, i_121, i_127, i_128, i_130, i_144, i_171, i_192, i_193, i_197, i_200, i_207, i_235, i_240, i_248, i_252, i_254, i_255, i_256, i_512, i_544, i_768, i_769, i_793, i_1000, i_1023, i_1024, i_1200, i_1538, i_1541, i_1545, i_2046, i_2047, i_2049, i_2060, i_2736, i_2737, i_2817, i_2818, i_2819, i_2820, i_2821, i_2831, i_2832, i_3077, i_3085, i_3843, i_3849, i_3851, i_3852, i_4129, i_4353, i_4865, i_5121, i_5122, i_5123, i_6156, i_8192, i_12288, i_16383, i_32000, i_33280, i_49152, i_53247, i_60304, i_64000, i_64512, i_65521, i_65535, i_449838109, nI_add, pk_mul, pk_sub, nI_mm, nI_leI, nI_ltI, nI_eq, pk_div, jrem_N, jshl_N, jshr_N, jushr_N, jmin_N, jmax_N, an_1, an_3, an_7, an_15, an_31, an_63, an_127, an_255, an_1023, an_2047, an_16383, an_65535, nm, pfI, rdI, rdW, rdL, rdI2, rdW2, ldA_N, stA_N, stB_N, stZ_N, pfZ_0, pfZ_1, rtZ_0, rtZ_1, acp_N, Option.bind_some, wp_some_iff, true_and, and_true, false_and, and_false, or_true, true_or, or_false, false_or, not_true_eq_false, not_false_eq_true, if_true, if_false, if_pos, if_neg, lt_sub, le_sub, sub_lt3, sub_le3, Option.bind_assoc, e11, ff, e8, q4]
        refine wp_bind (setMark_C hA.2 h0) (fun m ⟨c1, c2⟩ => wp_some ⟨⟨?_, c1⟩, c2⟩)
        rw [c2.1 _ _ (by omega)]
        exact hA.1
      · rw [if_neg q4]
        simp (disch := omega) only [i_0, i_1, i_2, i_3, i_4, i_5, i_6, i_7, i_8, i_9, i_10, i_11, i_12, i_13, i_14, i_15, i_16, i_17, i_18, i_19, i_20, i_21, i_22, i_23, i_24, i_25, i_26, i_27, i_31, i_32, i_40, i_42, i_45, i_48, i_51, i_52, i_56, i_58, i_59, i_60, i_61, i_62, i_63, i_64, i_85, i_90, i_100, i_112, i_120, i_121, i_127, i_128, i_130, i_144, i_171, i_192, i_193, i_197, i_200, i_207, i_235, i_240, i_248, i_252, i_254, i_255, i_256, i_512, i_544, i_768, i_769, i_793, i_1000, i_1023, i_1024, i_1200, i_1538, i_1541, i_1545, i_2046, i_2047, i_2049, i_2060, i_2736, i_2737, i_2817, i_2818, i_2819, i_2820, i_2821, i_2831, i_2832, i_3077, i_3085, i_3843, i_3849, i_3851, i_3852, i_4129, i_4353, i_4865, i_5121, i_5122, i_5123, i_6156, i_8192, i_12288, i_16383, i_32000, i_33280, i_49152, i_53247, i_60304, i_64000, i_64512, i_65521, i_65535, i_449838109, nI_add, pk_mul, pk_sub, nI_mm, nI_leI, nI_ltI, nI_eq, pk_div, jrem_N, jshl_N, jshr_N, jushr_N, jmin_N, jmax_N, an_1, an_3, an_7, an_15, an_31, an_63, an_127, an_255, an_1023, an_2047, an_16383, an_65535, nm, pfI, rdI, rdW, rdL, rdI2, rdW2, ldA_N, stA_N, stB_N, stZ_N, pfZ_0, pfZ_1, rtZ_0, rtZ_1, acp_N, Option.bind_some, wp_some_iff, true_and, and_true, false_and, and_false, or_true, true_or, or_false, false_or, not_true_eq_false, not_false_eq_true, if_true, if_false, if_pos, if_neg, lt_sub, le_sub, sub_lt3, sub_le3, Option.bind_assoc, e11, ff, e8, q1, q2, q4]
        refine wp_bind (setMark_C hA.2 h0) (fun m ⟨c1, c2⟩ => wp_some ⟨⟨?_, c1⟩, c2⟩)
        rw [c2.1 _ _ (by omega)]
        exact hA.1
