/-! ===== stores: requests that are run ===== -/
def stoG (x : Mw) (s : Nat) : Sto := if s = 0 then x.2.2.2.2.1 else x.2.2.2.2.2
def stoP (x : Mw) (s : Nat) (y : Sto) : Mw := (x.1, x.2.1, x.2.2.1, x.2.2.2.1, if s = 0 then y else x.2.2.2.2.1, if s = 0 then x.2.2.2.2.2 else y)
theorem MC.g {μ : Mem} {x : Mw} {s : Nat} (h : MC μ x) (hs : s < 2) : StC μ s (stoG x s) := by
  have : s = 0 ∨ s = 1 := by omega
  rcases this with rfl | rfl
  · exact h.2.2.2.2.2.1
  · exact h.2.2.2.2.2.2
theorem MM.g {μ : Mem} {x : Mw} {s : Nat} (h : MM μ x) (hs : s < 2) : StM μ s (stoG x s) := by
  have : s = 0 ∨ s = 1 := by omega
  rcases this with rfl | rfl
  · exact h.2.2.2.2.1
  · exact h.2.2.2.2.2
theorem MI.g {x : Mw} {s : Nat} (h : MI x) (hs : s < 2) : StI x.1 (stoG x s) := by
  have : s = 0 ∨ s = 1 := by omega
  rcases this with rfl | rfl
  · exact h.2.2.1
  · exact h.2.2.2
theorem MI.p {x : Mw} {s : Nat} {y : Sto} (h : MI x) (hs : s < 2) (hy : StI x.1 y) : MI (stoP x s y) := by
  have : s = 0 ∨ s = 1 := by omega
  rcases this with rfl | rfl
  · exact ⟨h.1, h.2.1, hy, h.2.2.2⟩
  · exact ⟨h.1, h.2.1, h.2.2.1, hy⟩
theorem MC.p {μ m : Mem} {x : Mw} {s : Nat} {y : Sto} (h : MC μ x) (hs : s < 2) (hy : StC m s y) (hf : Fr (FSt s) μ m) : MC m (stoP x s y) := by
  obtain ⟨h1, h2, h3, h4, h5, h6, h7⟩ := h
  have : s = 0 ∨ s = 1 := by omega
  rcases this with rfl | rfl
  · exact ⟨h1.fr hf (fun k => by omega), by rw [hf.1 _ _ (by omega)]; exact h2, by rw [hf.1 _ _ (by omega)]; exact h3, h4.fr hf (fun c k _ _ => by omega), by rw [hf.1 _ _ (by omega)]; exact h5, hy, h7.fr hf (fun c k _ _ => by omega)⟩
  · exact ⟨h1.fr hf (fun k => by omega), by rw [hf.1 _ _ (by omega)]; exact h2, by rw [hf.1 _ _ (by omega)]; exact h3, h4.fr hf (fun c k _ _ => by omega), by rw [hf.1 _ _ (by omega)]; exact h5, h6.fr hf (fun c k _ _ => by omega), hy⟩
theorem MM.p {μ m : Mem} {x : Mw} {s : Nat} {y : Sto} (h : MM μ x) (hI : MI x) (hs : s < 2) (hy : StM m s y) (hf : Fr (FStM s) μ m) : MM m (stoP x s y) := by
  obtain ⟨h1, h2, ⟨h3, h3b⟩, h4, h5, h6⟩ := h
  have l0 := hI.2.2.1.2.2.l90
  have l1 := hI.2.2.2.2.2.l90
  have : s = 0 ∨ s = 1 := by omega
  rcases this with rfl | rfl
  · exact ⟨by rw [hf.1 _ _ (by omega)]; exact h1, by rw [hf.1 _ _ (by omega)]; exact h2, ⟨by rw [hf.1 _ _ (by omega)]; exact h3, h3b.fr hf (fun k => by omega) (fun k => by omega)⟩, by rw [hf.1 _ _ (by omega)]; exact h4, hy, h6.fr l1 hf (fun c k _ => by omega)⟩
  · exact ⟨by rw [hf.1 _ _ (by omega)]; exact h1, by rw [hf.1 _ _ (by omega)]; exact h2, ⟨by rw [hf.1 _ _ (by omega)]; exact h3, h3b.fr hf (fun k => by omega) (fun k => by omega)⟩, by rw [hf.1 _ _ (by omega)]; exact h4, h5.fr l0 hf (fun c k _ => by omega), hy⟩
/-- what has been passed on -/
def PsM (μ : Mem) (ps : List Pk) : Prop := μ.1 129 90 = nI ps.length ∧ QF μ 167 168 100 0 ps.length (fun i => (pk ps i).1)
def PsI (ps : List Pk) : Prop := ps.length ≤ 40 ∧ (∀ i, i < ps.length → 15 ≤ (pk ps i).1.length ∧ (pk ps i).1.length ≤ 82 ∧ (pk ps i).2.1 = nI 0 ∧ (pk ps i).2.2 = nI 0) ∧ off ps ps.length ≤ 1200
def why15 (x : Mw) (pd : List Pk) (bs : List Nat) : Nat :=
  if bs.getD 11 0 < 2 then
    (if bs.getD 8 0 = 3 then (if (stoG x (bs.getD 11 0)).2.1.length < 6 ∨ w2 bs 12 ∈ (stoG x (bs.getD 11 0)).2.1 then 0 else 25)
    else if bs.getD 8 0 = 9 then (if pd.length = 0 then 0 else 26) else 0)
  else 24
theorem why15_C {μ : Mem} {x : Mw} {pd : List Pk} {bs : List Nat} (h : Byt μ 122 bs) (hM : MC μ x) (hp : Shf μ 81 pd) : f61 μ = some (μ, nI (why15 x pd bs)) := by
  have e8 := sub_C h
  have e11 := arg_C h (i := 0) (by omega)
  have b8 := h.get 8
  have b11 := h.get 11
  have h5 := hp.1
  have hl := hp.len
  rw [show 11 + 0 = 11 from rfl] at e11
  unfold f61 why15
  by_cases q : bs.getD 11 0 < 2
  · rw [if_pos q]
    by_cases q3 : bs.getD 8 0 = 3
    · rw [if_pos q3]
      have e12 := arg2_C h (i := 1) (by omega)
      rw [show 11 + 1 = 12 from rfl] at e12
      have st := hM.g q
      have er := ldR58 q
      have ic := isch_C q st (w2_lt (k := 12) h.2.2.2)
      have st1 := st.1.1
      have st2 := st.1.2.1
      unfold f176 c176_17
      generalize w2 bs 12 = w at *
      by_cases q6 : (stoG x (bs.getD 11 0)).2.1.length < 6
      · rw [if_pos (Or.inl q6)]
        simp (disch := omega) only [i_0, i_1, i_2, i_3, i_4, i_5, i_6, i_7, i_8, i_9, i_10, i_11, i_12, i_13, i_14, i_15, i_16, i_17, i_18, i_19, i_20, i_21, i_22, i_23, i_24, i_25, i_26, i_27, i_31, i_32, i_40, i_42, i_45, i_48, i_51, i_52, i_56, i_58, i_59, i_60, i_61, i_62, i_63, i_64, i_85, i_90, i_100, i_112, i_120, i_121, i_127, i_128, i_130, i_144, i_171, i_192, i_193, i_197, i_200, i_207, i_235, i_240, i_248, i_252, i_254, i_255, i_256, i_512, i_544, i_768, i_769, i_793, i_1000, i_1023, i_1024, i_1200, i_1538, i_1541, i_1545, i_2046, i_2047, i_2049, i_2060, i_2736, i_2737, i_2817, i_2818, i_2819, i_2820, i_2821, i_2831, i_2832, i_3077, i_3085, i_3843, i_3849, i_3851, i_3852, i_4129, i_4353, i_4865, i_5121, i_5122, i_5123, i_6156, i_8192, i_12288, i_16383, i_32000, i_33280, i_49152, i_53247, i_60304, i_64000, i_64512, i_65521, i_65535, i_449838109, nI_add, pk_mul, pk_sub, nI_mm, nI_leI, nI_ltI, nI_eq, pk_div, jrem_N, jshl_N, jshr_N, jushr_N, jmin_N, jmax_N, an_1, an_3, an_7, an_15, an_31, an_63, an_127, an_255, an_1023, an_2047, an_16383, an_65535, nm, pfI, rdI, rdW, rdL, rdI2, rdW2, ldA_N, stA_N, stB_N, stZ_N, pfZ_0, pfZ_1, rtZ_0, rtZ_1, acp_N, Option.bind_some, wp_some_iff, true_and, and_true, false_and, and_false, or_true, true_or, or_false, false_or, not_true_eq_false, not_false_eq_true, if_true, if_false, if_pos, if_neg, lt_sub, le_sub, sub_lt3, sub_le3, Option.bind_assoc, e11, e8, q3, er, e12, st1]
      · by_cases qm : w ∈ (stoG x (bs.getD 11 0)).2.1
        · rw [if_pos (Or.inr qm)]
          rw [decide_eq_true qm, b2n_t] at ic
          simp (disch := omega) only [i_0, i_1, i_2, i_3, i_4, i_5, i_6, i_7, i_8, i_9, i_10, i_11, i_12, i_13, i_14, i_15, i_16, i_17, i_18, i_19, i_20, i_21, i_22, i_23, i_24, i_25, i_26, i_27, i_31, i_32, i_40, i_42, i_45, i_48, i_51, i_52, i_56, i_58, i_59, i_60, i_61, i_62, i_63, i_64, i_85, i_90, i_100, i_112, i_120, i_121, i_127, i_128, i_130, i_144, i_171, i_192, i_193, i_197, i_200, i_207, i_235, i_240, i_248, i_252, i_254, i_255, i_256, i_512, i_544, i_768, i_769, i_793, i_1000, i_1023, i_1024, i_1200, i_1538, i_1541, i_1545, i_2046, i_2047, i_2049, i_2060, i_2736, i_2737, i_2817, i_2818, i_2819, i_2820, i_2821, i_2831, i_2832, i_3077, i_3085, i_3843, i_3849, i_3851, i_3852, i_4129, i_4353, i_4865, i_5121, i_5122, i_5123, i_6156, i_8192, i_12288, i_16383, i_32000, i_33280, i_49152, i_53247, i_60304, i_64000, i_64512, i_65521, i_65535, i_449838109, nI_add, pk_mul, pk_sub, nI_mm, nI_leI, nI_ltI, nI_eq, pk_div, jrem_N, jshl_N, jshr_N, jushr_N, jmin_N, jmax_N, an_1, an_3, an_7, an_15, an_31, an_63, an_127, an_255, an_1023, an_2047, an_16383, an_65535, nm, pfI, rdI, rdW, rdL, rdI2, rdW2, ldA_N, stA_N, stB_N, stZ_N, pfZ_0, pfZ_1, rtZ_0, rtZ_1, acp_N, Option.bind_some, wp_some_iff, true_and, and_true, false_and, and_false, or_true, true_or, or_false, false_or, not_true_eq_false, not_false_eq_true, if_true, if_false, if_pos, if_neg, lt_sub, le_sub, sub_lt3, sub_le3, Option.bind_assoc, e11, e8, q3, er, e12, st1, ic]
        · rw [if_neg (fun z => z.elim q6 qm)]
          rw [decide_eq_false qm, b2n_f] at ic
          simp (disch := omega) only [i_0, i_1, i_2, i_3, i_4, i_5, i_6, i_7, i_8, i_9, i_10, i_11, i_12, i_13, i_14, i_15, i_16, i_17, i_18, i_19, i_20, i_21, i_22, i_23, i_24, i_25, i_26, i_27, i_31, i_32, i_40, i_42, i_45, i_48, i_51, i_52, i_56, i_58, i_59, i_60, i_61, i_62, i_63, i_64, i_85, i_90, i_100, i_112, i_120, i_121, i_127, i_128, i_130, i_144, i_171, i_192, i_193, i_197, i_200, i_207, i_235, i_240, i_248, i_252, i_254, i_255, i_256, i_512, i_544, i_768, i_769, i_793, i_1000, i_1023, i_1024, i_1200, i_1538, i_1541, i_1545, i_2046, i_2047, i_2049, i_2060, i_2736, i_2737, i_2817, i_2818, i_2819, i_2820, i_2821, i_2831, i_2832, i_3077, i_3085, i_3843, i_3849, i_3851, i_3852, i_4129, i_4353, i_4865, i_5121, i_5122, i_5123, i_6156, i_8192, i_12288, i_16383, i_32000, i_33280, i_49152, i_53247, i_60304, i_64000, i_64512, i_65521, i_65535, i_449838109, nI_add, pk_mul, pk_sub, nI_mm, nI_leI, nI_ltI, nI_eq, pk_div, jrem_N, jshl_N, jshr_N, jushr_N, jmin_N, jmax_N, an_1, an_3, an_7, an_15, an_31, an_63, an_127, an_255, an_1023, an_2047, an_16383, an_65535, nm, pfI, rdI, rdW, rdL, rdI2, rdW2, ldA_N, stA_N, stB_N, stZ_N, pfZ_0, pfZ_1, rtZ_0, rtZ_1, acp_N, Option.bind_some, wp_some_iff, true_and, and_true, false_and, and_false, or_true, true_or, or_false, false_or, not_true_eq_false, not_false_eq_true, if_true, if_false, if_pos, if_neg, lt_sub, le_sub, sub_lt3, sub_le3, Option.bind_assoc, e11, e8, q3, er, e12, st1, ic]
    · rw [if_neg q3]
      by_cases q9 : bs.getD 8 0 = 9
      · rw [if_pos q9]
        by_cases q0 : pd.length = 0
        · simp (disch := omega) only [i_0, i_1, i_2, i_3, i_4, i_5, i_6, i_7, i_8, i_9, i_10, i_11, i_12, i_13, i_14, i_15, i_16, i_17, i_18, i_19, i_20, i_21, i_22, i_23, i_24, i_25, i_26, i_27, i_31, i_32, i_40, i_42, i_45, i_48, i_51, i_52, i_56, i_58, i_59, i_60, i_61, i_62, i_63, i_64, i_85, i_90, i_100, i_112, i_120, i_121, i_127, i_128, i_130, i_144, i_171, i_192, i_193, i_197, i_200, i_207, i_235, i_240, i_248, i_252, i_254, i_255, i_256, i_512, i_544, i_768, i_769, i_793, i_1000, i_1023, i_1024, i_1200, i_1538, i_1541, i_1545, i_2046, i_2047, i_2049, i_2060, i_2736, i_2737, i_2817, i_2818, i_2819, i_2820, i_2821, i_2831, i_2832, i_3077, i_3085, i_3843, i_3849, i_3851, i_3852, i_4129, i_4353, i_4865, i_5121, i_5122, i_5123, i_6156, i_8192, i_12288, i_16383, i_32000, i_33280, i_49152, i_53247, i_60304, i_64000, i_64512, i_65521, i_65535, i_449838109, nI_add, pk_mul, pk_sub, nI_mm, nI_leI, nI_ltI, nI_eq, pk_div, jrem_N, jshl_N, jshr_N, jushr_N, jmin_N, jmax_N, an_1, an_3, an_7, an_15, an_31, an_63, an_127, an_255, an_1023, an_2047, an_16383, an_65535, nm, pfI, rdI, rdW, rdL, rdI2, rdW2, ldA_N, stA_N, stB_N, stZ_N, pfZ_0, pfZ_1, rtZ_0, rtZ_1, acp_N, Option.bind_some, wp_some_iff, true_and, and_true, false_and, and_false, or_true, true_or, or_false, false_or, not_true_eq_false, not_false_eq_true, if_true, if_false, if_pos, if_neg, lt_sub, le_sub, sub_lt3, sub_le3, Option.bind_assoc, e11, e8, q9, h5, q0]
        · simp (disch := omega) only [i_0, i_1, i_2, i_3, i_4, i_5, i_6, i_7, i_8, i_9, i_10, i_11, i_12, i_13, i_14, i_15, i_16, i_17, i_18, i_19, i_20, i_21, i_22, i_23, i_24, i_25, i_26, i_27, i_31, i_32, i_40, i_42, i_45, i_48, i_51, i_52, i_56, i_58, i_59, i_60, i_61, i_62, i_63, i_64, i_85, i_90, i_100, i_112, i_120, i_121, i_127, i_128, i_130, i_144, i_171, i_192, i_193, i_197, i_200, i_207, i_235, i_240, i_248, i_252, i_254, i_255, i_256, i_512, i_544, i_768, i_769, i_793, i_1000, i_1023, i_1024, i_1200, i_1538, i_1541, i_1545, i_2046, i_2047, i_2049, i_2060, i_2736, i_2737, i_2817, i_2818, i_2819, i_2820, i_2821, i_2831, i_2832, i_3077, i_3085, i_3843, i_3849, i_3851, i_3852, i_4129, i_4353, i_4865, i_5121, i_5122, i_5123, i_6156, i_8192, i_12288, i_16383, i_32000, i_33280, i_49152, i_53247, i_60304, i_64000, i_64512, i_65521, i_65535, i_449838109, nI_add, pk_mul, pk_sub, nI_mm, nI_leI, nI_ltI, nI_eq, pk_div, jrem_N, jshl_N, jshr_N, jushr_N, jmin_N, jmax_N, an_1, an_3, an_7, an_15, an_31, an_63, an_127, an_255, an_1023, an_2047, an_16383, an_65535, nm, pfI, rdI, rdW, rdL, rdI2, rdW2, ldA_N, stA_N, stB_N, stZ_N, pfZ_0, pfZ_1, rtZ_0, rtZ_1, acp_N, Option.bind_some, wp_some_iff, true_and, and_true, false_and, and_false, or_true, true_or, or_false, false_or, not_true_eq_false, not_false_eq_true, if_true, if_false, if_pos, if_neg, lt_sub, le_sub, sub_lt3, sub_le3, Option.bind_assoc, e11, e8, q9, h5, q0]
      · simp (disch := omega) only [i_0, i_1, i_2, i_3, i_4, i_5, i_6, i_7, i_8, i_9, i_10, i_11, i_12, i_13, i_14, i_15, i_16, i_17, i_18, i_19, i_20, i_21, i_22, i_23, i_24, i_25, i_26, i_27, i_31, i_32, i_40, i_42, i_45, i_48, i_51, i_52, i_56, i_58, i_59, i_60, i_61, i_62, i_63, i_64, i_85, i_90, i_100, i_112, i_120, i_121, i_127, i_128, i_130, i_144, i_171, i_192, i_193, i_197, i_200, i_207, i_235, i_240, i_248, i_252, i_254, i_255, i_256, i_512, i_544, i_768, i_769, i_793, i_1000, i_1023, i_1024, i_1200, i_1538, i_1541, i_1545, i_2046, i_2047, i_2049, i_2060, i_2736, i_2737, i_2817, i_2818, i_2819, i_2820, i_2821, i_2831, i_2832, i_3077, i_3085, i_3843, i_3849, i_3851, i_3852, i_4129, i_4353, i_4865, i_5121, i_5122, i_5123, i_6156, i_8192, i_12288, i_16383, i_32000, i_33280, i_49152, i_53247, i_60304, i_64000, i_64512, i_65521, i_65535, i_449838109, nI_add, pk_mul, pk_sub, nI_mm, nI_leI, nI_ltI, nI_eq, pk_div, jrem_N, jshl_N, jshr_N, jushr_N, jmin_N, jmax_N, an_1, an_3, an_7, an_15, an_31, an_63, an_127, an_255, an_1023, an_2047, an_16383, an_65535, nm, pfI, rdI, rdW, rdL, rdI2, rdW2, ldA_N, stA_N, stB_N, stZ_N, pfZ_0, pfZ_1, rtZ_0, rtZ_1, acp_N, Option.bind_some, wp_some_iff, true_and, and_true, false_and, and_false, or_true, true_or, or_false, false_or, not_true_eq_false, not_false_eq_true, if_true, if_false, if_pos, if_neg, lt_sub, le_sub, sub_lt3, sub_le3, Option.bind_assoc, e11, e8, q3, q9]
  · simp (disch := omega) only [i_0, i_1, i_2, i_3, i_4, i_5, i_6, i_7, i_8, i_9, i_10, i_11, i_12, i_13, i_14, i_15, i_16, i_17, i_18, i_19, i_20, i_21, i_22, i_23, i_24, i_25, i_26, i_27, i_31, i_32, i_40, i_42, i_45, i_48, i_51, i_52, i_56, i_58, i_59, i_60, i_61, i_62, i_63, i_64, i_85, i_90, i_100, i_112, i_120, i_121, i_127, i_128, i_130, i_144, i_171, i_192, i_193, i_197, i_200, i_207, i_235, i_240, i_248, i_252, i_254, i_255, i_256, i_512, i_544, i_768, i_769, i_793, i_1000, i_1023, i_1024, i_1200, i_1538, i_1541, i_1545, i_2046, i_2047, i_2049, i_2060, i_2736, i_2737, i_2817, i_2818, i_2819, i_2820, i_2821, i_2831, i_2832, i_3077, i_3085, i_3843, i_3849, i_3851, i_3852, i_4129, i_4353, i_4865, i_5121, i_5122, i_5123, i_6156, i_8192, i_12288, i_16383, i_32000, i_33280, i_49152, i_53247, i_60304, i_64000, i_64512, i_65521, i_65535, i_449838109, nI_add, pk_mul, pk_sub, nI_mm, nI_leI, nI_ltI, nI_eq, pk_div, jrem_N, jshl_N, jshr_N, jushr_N, jmin_N, jmax_N, an_1, an_3, an_7, an_15, an_31, an_63, an_127, an_255, an_1023, an_2047, an_16383, an_65535, nm, pfI, rdI, rdW, rdL, rdI2, rdW2, ldA_N, stA_N, stB_N, stZ_N, pfZ_0, pfZ_1, rtZ_0, rtZ_1, acp_N, Option.bind_some, wp_some_iff, true_and, and_true, false_and, and_false, or_true, true_or, or_false, false_or, not_true_eq_false, not_false_eq_true, if_true, if_false, if_pos, if_neg, lt_sub, le_sub, sub_lt3, sub_le3, Option.bind_assoc, e11, q]
theorem why15_M {μ : Mem} {x : Mw} {pd : List Pk} {bs : List Nat} {dep : Nat} (h : CurM μ bs dep) (hM : MM μ x) (hp : PsM μ pd) (hpI : PsI pd) (hP : Pkg bs) (h7 : bs.getD 7 0 = 15) : f321 (nI 15) (nI (bs.getD 8 0)) μ = some (μ, nI (why15 x pd bs)) := by
  have hl := hP.2.1
  have hs := hP.s15 h7
  have b8 := getD_lt h.2.2.2 8
  have b11 := getD_lt h.2.2.2 11
  have b12 := getD_lt h.2.2.2 12
  have b13 := getD_lt h.2.2.2 13
  have g := gl_174
  have h5 := hp.1
  have hl40 := hpI.1
  have hx : xq bs = bs.getD 11 0 := by unfold xq; rw [if_pos (by omega)]
  rw [why_M h hl, ch15_M, hx]
  apply bind_id
  unfold f324 why15
  by_cases q : bs.getD 11 0 < 2
  · rw [if_pos q, i_1, if_pos ((nI_leI (a := bs.getD 11 0) (b := 1) (by omega) (by omega)).mpr (by omega))]
    by_cases q3 : bs.getD 8 0 = 3
    · have e12 := h.ld hl (i := 12) (by omega)
      have e13 := h.ld hl (i := 13) (by omega)
      have st := hM.g q
      have ic := isch_M q st b12 b13
      have st1 := st.1.1
      have st2 := st.1.2.1
      have hw2 : w2 bs 12 = 256 * bs.getD 12 0 + bs.getD 13 0 := rfl
      rw [if_pos q3, q3, if_pos (show nI 3 = (3 : Int32) from rfl), i_12, i_13, e12, Option.bind_some, e13, Option.bind_some, ic, Option.bind_some, hw2]
      by_cases qm : 256 * bs.getD 12 0 + bs.getD 13 0 ∈ (stoG x (bs.getD 11 0)).2.1
      · rw [if_pos (Or.inr qm), decide_eq_true qm, b2n_t]
        exact if_neg (show ¬ nI 1 = (0 : Int32) by decide)
      · rw [decide_eq_false qm, b2n_f]
        dsimp only
        rw [if_pos (show nI 0 = (0 : Int32) from rfl), ldA_N (by omega), Option.bind_some, st1, i_6]
        by_cases q6 : (stoG x (bs.getD 11 0)).2.1.length < 6
        · rw [if_pos (Or.inl q6), if_neg (fun z => by have := (nI_eq (by omega) (by omega)).mp z; omega), i_0]
        · rw [if_neg (show ¬ ((stoG x (bs.getD 11 0)).2.1.length < 6 ∨ 256 * bs.getD 12 0 + bs.getD 13 0 ∈ (stoG x (bs.getD 11 0)).2.1) from fun z => z.elim q6 qm), if_pos (by rw [show (stoG x (bs.getD 11 0)).2.1.length = 6 by omega]), i_25]
    · rw [if_neg q3, i_3, if_neg (fun z => q3 ((nI_eq (by omega) (by omega)).mp z))]
      by_cases q9 : bs.getD 8 0 = 9
      · rw [if_pos q9, q9, if_pos (show nI 9 = (9 : Int32) from rfl), h5, i_0]
        by_cases q0 : pd.length = 0
        · rw [if_pos q0, if_pos ((nI_leI (by omega) (by omega)).mpr (by omega))]
        · rw [if_neg q0, if_neg (fun z => q0 (by have := (nI_leI (by omega) (by omega)).mp z; omega)), i_26]
      · rw [if_neg q9, i_9, if_neg (fun z => q9 ((nI_eq (by omega) (by omega)).mp z)), i_0]
  · rw [if_neg q, i_1, if_neg (fun z => q (by have := (nI_leI (by omega) (by omega)).mp z; omega)), i_24]
/-! a store, changed -/
def onS (y : Sto) (v : Int32) : Sto := (upL y.1 1 v, y.2)
def rsS (v : Int32) : Sto := (fun i => if i = 0 then v else nI 0, [], [])
def chS (y : Sto) (w : Nat) : Sto := if w ∈ y.2.1 then y else (y.1, y.2.1 ++ [w], y.2.2)
theorem onS_C {μ : Mem} {s : Nat} {y : Sto} {v : Int32} (h : StC μ s y) : StC (setI μ (59 + 8 * s) 4 v) s (onS y v) := by
  have f1 : Fr (fun c k => c = 59 + 8 * s ∧ k = 4) μ (setI μ (59 + 8 * s) 4 v) := Fr.sI ⟨rfl, rfl⟩
  obtain ⟨⟨a1, a2, a3, a4⟩, ⟨b1, b2, b3⟩, c1⟩ := h
  refine ⟨⟨by rw [f1.1 _ _ (by omega)]; exact a1, a2, fun i hi => by rw [f1.1 _ _ (by omega)]; exact a3 i hi, a4⟩, ⟨?_, ?_, ?_⟩, c1.fr f1 (fun c k _ _ => by omega)⟩
  · rw [f1.1 _ _ (by omega)]; exact b1
  · rw [rdI, if_pos ⟨rfl, rfl⟩]; rfl
  · rw [f1.1 _ _ (by omega)]; exact b3
theorem onS_M {μ : Mem} {s : Nat} {y : Sto} {v : Int32} (h : StM μ s y) (hl : y.2.2.length ≤ 90) : StM (setI μ 170 s v) s (onS y v) := by
  have f1 : Fr (fun c k => c = 170 ∧ k = s) μ (setI μ 170 s v) := Fr.sI ⟨rfl, rfl⟩
  obtain ⟨⟨a1, a2, a3, a4⟩, ⟨b1, b2, b3⟩, ⟨c1, c2⟩, d1, d2⟩ := h
  refine ⟨⟨by rw [f1.1 _ _ (by omega)]; exact a1, a2, fun i hi => by rw [f1.1 _ _ (by omega)]; exact a3 i hi, a4⟩, ⟨?_, ?_, ?_⟩, ⟨by rw [f1.1 _ _ (by omega)]; exact c1, by rw [f1.1 _ _ (by omega)]; exact c2⟩, d1.fr f1 (fun k => by omega) (fun k => by omega), d2.fr f1 (fun k => by omega)⟩
  · rw [f1.1 _ _ (by omega)]; exact b1
  · rw [rdI, if_pos ⟨rfl, rfl⟩]; rfl
  · rw [f1.1 _ _ (by omega)]; exact b3
theorem rsS_C {μ : Mem} {s v : Nat} {y : Sto} (hs : s < 2) (h : StC μ s y) : wp (f174 (59 + 8 * s) (nI v) μ) (fun m => StC m s (rsS (nI v)) ∧ Fr (FSt s) μ m) := by
  unfold f174
  refine wp_bind (shclear_C h.2.2) (fun m1 ⟨a1, a2⟩ => ?_)
  simp (disch := omega) only [i_0, i_1, i_2, i_3, i_4, i_5, i_6, i_7, i_8, i_9, i_10, i_11, i_12, i_13, i_14, i_15, i_16, i_17, i_18, i_19, i_20, i_21, i_22, i_23, i_24, i_25, i_26, i_27, i_31, i_32, i_40, i_42, i_45, i_48, i_51, i_52, i_56, i_58, i_59, i_60, i_61, i_62, i_63, i_64, i_85, i_90, i_100, i_112, i_120, i_121, i_127, i_128, i_130, i_144, i_171, i_192, i_193, i_197, i_200, i_207, i_235, i_240, i_248, i_252, i_254, i_255, i_256, i_512, i_544, i_768, i_769, i_793, i_1000, i_1023, i_1024, i_1200, i_1538, i_1541, i_1545, i_2046, i_2047, i_2049, i_2060, i_2736, i_2737, i_2817, i_2818, i_2819, i_2820, i_2821, i_2831, i_2832, i_3077, i_3085, i_3843, i_3849, i_3851, i_3852, i_4129, i_4353, i_4865, i_5121, i_5122, i_5123, i_6156, i_8192, i_12288, i_16383, i_32000, i_33280, i_49152, i_53247, i_60304, i_64000, i_64512, i_65521, i_65535, i_449838109, nI_add, pk_mul, pk_sub, nI_mm, nI_leI, nI_ltI, nI_eq, pk_div, jrem_N, jshl_N, jshr_N, jushr_N, jmin_N, jmax_N, an_1, an_3, an_7, an_15, an_31, an_63, an_127, an_255, an_1023, an_2047, an_16383, an_65535, nm, pfI, rdI, rdW, rdL, rdI2, rdW2, ldA_N, stA_N, stB_N, stZ_N, pfZ_0, pfZ_1, rtZ_0, rtZ_1, acp_N, Option.bind_some, wp_some_iff, true_and, and_true, false_and, and_false, or_true, true_or, or_false, false_or, not_true_eq_false, not_false_eq_true, if_true, if_false, if_pos, if_neg, lt_sub, le_sub, sub_lt3, sub_le3, Option.bind_assoc]
  have f1 : Fr (fun c k => c = 59 + 8 * s ∧ 2 ≤ k ∧ k ≤ 5) m1 (setI (setI (setI (setI m1 (59 + 8 * s) 3 (nI v)) (59 + 8 * s) 4 (nI 0)) (59 + 8 * s) 2 (nI 0)) (59 + 8 * s) 5 (nI 0)) := (((Fr.sI (by omega)).pI (by omega)).pI (by omega)).pI (by omega)
  refine ⟨⟨⟨by simp (disch := omega) only [i_0, i_1, i_2, i_3, i_4, i_5, i_6, i_7, i_8, i_9, i_10, i_11, i_12, i_13, i_14, i_15, i_16, i_17, i_18, i_19, i_20, i_21, i_22, i_23, i_24, i_25, i_26, i_27, i_31, i_32, i_40, i_42, i_45, i_48, i_51, i_52, i_56, i_58, i_59, i_60, i_61, i_62, i_63, i_64, i_85, i_90, i_100, i_112, i_120, i_121, i_127, i_128, i_130, i_144, i_171, i_192, i_193, i_197, i_200, i_207, i_235, i_240, i_248, i_252, i_254, i_255, i_256, i_512, i_544, i_768, i_769, i_793, i_1000, i_1023, i_1024, i_1200, i_1538, i_1541, i_1545, i_2046, i_2047, i_2049, i_2060, i_2736, i_2737, i_2817, i_2818, i_2819, i_2820, i_2821, i_2831, i_2832, i_3077, i_3085, i_3843, i_3849, i_3851, i_3852, i_4129, i_4353, i_4865, i_5121, i_5122, i_5123, i_6156, i_8192, i_12288, i_16383, i_32000, i_33280, i_49152, i_53247, i_60304, i_64000, i_64512, i_65521, i_65535, i_449838109, nI_add, pk_mul, pk_sub, nI_mm, nI_leI, nI_ltI, nI_eq, pk_div, jrem_N, jshl_N, jshr_N, jushr_N, jmin_N, jmax_N, an_1, an_3, an_7, an_15, an_31, an_63, an_127, an_255, an_1023, an_2047, an_16383, an_65535, nm, pfI, rdI, rdW, rdL, rdI2, rdW2, ldA_N, stA_N, stB_N, stZ_N, pfZ_0, pfZ_1, rtZ_0, rtZ_1, acp_N, Option.bind_some, wp_some_iff, true_and, and_true, false_and, and_false, or_true, true_or, or_false, false_or, not_true_eq_false, not_false_eq_true, if_true, if_false, if_pos, if_neg, lt_sub, le_sub, sub_lt3, sub_le3, Option.bind_assoc]; rfl, Nat.zero_le _, fun i hi => absurd hi (Nat.not_lt_zero _), fun b hb => by cases hb⟩, ⟨by simp (disch := omega) only [i_0, i_1, i_2, i_3, i_4, i_5, i_6, i_7, i_8, i_9, i_10, i_11, i_12, i_13, i_14, i_15, i_16, i_17, i_18, i_19, i_20, i_21, i_22, i_23, i_24, i_25, i_26, i_27, i_31, i_32, i_40, i_42, i_45, i_48, i_51, i_52, i_56, i_58, i_59, i_60, i_61, i_62, i_63, i_64, i_85, i_90, i_100, i_112, i_120, i_121, i_127, i_128, i_130, i_144, i_171, i_192, i_193, i_197, i_200, i_207, i_235, i_240, i_248, i_252, i_254, i_255, i_256, i_512, i_544, i_768, i_769, i_793, i_1000, i_1023, i_1024, i_1200, i_1538, i_1541, i_1545, i_2046, i_2047, i_2049, i_2060, i_2736, i_2737, i_2817, i_2818, i_2819, i_2820, i_2821, i_2831, i_2832, i_3077, i_3085, i_3843, i_3849, i_3851, i_3852, i_4129, i_4353, i_4865, i_5121, i_5122, i_5123, i_6156, i_8192, i_12288, i_16383, i_32000, i_33280, i_49152, i_53247, i_60304, i_64000, i_64512, i_65521, i_65535, i_449838109, nI_add, pk_mul, pk_sub, nI_mm, nI_leI, nI_ltI, nI_eq, pk_div, jrem_N, jshl_N, jshr_N, jushr_N, jmin_N, jmax_N, an_1, an_3, an_7, an_15, an_31, an_63, an_127, an_255, an_1023, an_2047, an_16383, an_65535, nm, pfI, rdI, rdW, rdL, rdI2, rdW2, ldA_N, stA_N, stB_N, stZ_N, pfZ_0, pfZ_1, rtZ_0, rtZ_1, acp_N, Option.bind_some, wp_some_iff, true_and, and_true, false_and, and_false, or_true, true_or, or_false, false_or, not_true_eq_false, not_false_eq_true, if_true, if_false, if_pos, if_neg, lt_sub, le_sub, sub_lt3, sub_le3, Option.bind_assoc]; rfl, by simp (disch := omega) only [i_0, i_1, i_2, i_3, i_4, i_5, i_6, i_7, i_8, i_9, i_10, i_11, i_12, i_13, i_14, i_15, i_16, i_17, i_18, i_19, i_20, i_21, i_22, i_23, i_24, i_25, i_26, i_27, i_31, i_32, i_40, i_42, i_45, i_48, i_51, i_52, i_56, i_58, i_59, i_60, i_61, i_62, i_63, i_64, i_85, i_90, i_100, i_112, i_120, i_121, i_127, i_128, i_130, i_144, i_171, i_192, i_193, i_197, i_200, i_207, i_235, i_240, i_248, i_252, i_254, i_255, i_256, i_512, i_544, i_768, i_769, i_793, i_1000, i_1023, i_1024, i_1200, i_1538, i_1541, i_1545, i_2046, i_2047, i_2049, i_2060, i_2736, i_2737, i_2817, i_2818, i_2819, i_2820, i_2821, i_2831, i_2832, i_3077, i_3085, i_3843, i_3849, i_3851, i_3852, i_4129, i_4353, i_4865, i_5121, i_5122, i_5123, i_6156, i_8192, i_12288, i_16383, i_32000, i_33280, i_49152, i_53247, i_60304, i_64000, i_64512, i_65521, i_65535, i_449838109, nI_add, pk_mul, pk_sub, nI_mm, nI_leI, nI_ltI, nI_eq, pk_div, jrem_N, jshl_N, jshr_N, jushr_N, jmin_N, jmax_N, an_1, an_3, an_7, an_15, an_31, an_63, an_127, an_255, an_1023, an_2047, an_16383, an_65535, nm, pfI, rdI, rdW, rdL, rdI2, rdW2, ldA_N, stA_N, stB_N, stZ_N, pfZ_0, pfZ_1, rtZ_0, rtZ_1, acp_N, Option.bind_some, wp_some_iff, true_and, and_true, false_and, and_false, or_true, true_or, or_false, false_or, not_true_eq_false, not_false_eq_true, if_true, if_false, if_pos, if_neg, lt_sub, le_sub, sub_lt3, sub_le3, Option.bind_assoc]; rfl, by simp (disch := omega) only [i_0, i_1, i_2, i_3, i_4, i_5, i_6, i_7, i_8, i_9, i_10, i_11, i_12, i_13, i_14, i_15, i_16, i_17, i_18, i_19, i_20, i_21, i_22, i_23, i_24, i_25, i_26, i_27, i_31, i_32, i_40, i_42, i_45, i_48, i_51, i_52, i_56, i_58, i_59, i_60, i_61, i_62, i_63, i_64, i_85, i_90, i_100, i_112, i_120, i_121, i_127, i_128, i_130, i_144, i_171, i_192, i_193, i_197, i_200, i_207, i_235, i_240, i_248, i_252, i_254, i_255, i_256, i_512, i_544, i_768, i_769, i_793, i_1000, i_1023, i_1024, i_1200, i_1538, i_1541, i_1545, i_2046, i_2047, i_2049, i_2060, i_2736, i_2737, i_2817, i_2818, i_2819, i_2820, i_2821, i_2831, i_2832, i_3077, i_3085, i_3843, i_3849, i_3851, i_3852, i_4129, i_4353, i_4865, i_5121, i_5122, i_5123, i_6156, i_8192, i_12288, i_16383, i_32000, i_33280, i_49152, i_53247, i_60304, i_64000, i_64512, i_65521, i_65535, i_449838109, nI_add, pk_mul, pk_sub, nI_mm, nI_leI, nI_ltI, nI_eq, pk_div, jrem_N, jshl_N, jshr_N, jushr_N, jmin_N, jmax_N, an_1, an_3, an_7, an_15, an_31, an_63, an_127, an_255, an_1023, an_2047, an_16383, an_65535, nm, pfI, rdI, rdW, rdL, rdI2, rdW2, ldA_N, stA_N, stB_N, stZ_N, pfZ_0, pfZ_1, rtZ_0, rtZ_1, acp_N, Option.bind_some, wp_some_iff, true_and, and_true, false_and, and_false, or_true, true_or, or_false, false_or, not_true_eq_false, not_false_eq_true, if_true, if_false, if_pos, if_neg, lt_sub, le_sub, sub_lt3, sub_le3, Option.bind_assoc]; rfl⟩, a1.fr f1 (fun c k _ _ => by omega)⟩, (a2.mono (by intro c k h; omega)).tr f1 (fun _ _ q => q) (by intro c k h; omega)⟩
theorem rsS_I {tk v : Nat} (hv : v ≤ 1) : StI tk (rsS (nI v)) := by
  refine ⟨?_, Or.inl rfl, SPk.nil⟩
  show nI v = nI 0 ∨ nI v = nI 1
  have : v = 0 ∨ v = 1 := by omega
  rcases this with rfl | rfl
  · exact Or.inl rfl
  · exact Or.inr rfl
theorem onS_I {tk : Nat} {y : Sto} {v : Int32} (h : StI tk y) (hv : v = nI 0 ∨ v = nI 1) : StI tk (onS y v) := ⟨h.1, hv, h.2.2⟩
theorem chS_I {tk w : Nat} {y : Sto} (h : StI tk y) : StI tk (chS y w) := by
  unfold chS
  split
  · exact h
  · exact h
theorem getD_snoc {l : List Nat} {w i : Nat} (h : i < l.length + 1) : (l ++ [w]).getD i 0 = if i < l.length then l.getD i 0 else w := by
  rw [getD_app]
  by_cases e : i < l.length
  · rw [if_pos e, if_pos e]
  · rw [if_neg e, if_neg e, show i - l.length = 0 by omega]
    rfl
theorem chS_C {μ : Mem} {s w : Nat} {y : Sto} (hs : s < 2) (h : StC μ s y) (hw : w < 65536) (hr : y.2.1.length < 6 ∨ w ∈ y.2.1) : wp (f177 (59 + 8 * s) (nI w) μ) (fun m => StC m s (chS y w) ∧ Fr (FSt s) μ m) := by
  have ic := isch_C hs h hw
  have hg := stg hs
  obtain ⟨⟨a1, a2, a3, a4⟩, ⟨b1, b2, b3⟩, c1⟩ := h
  unfold f177 chS
  by_cases q6 : 6 ≤ y.2.1.length
  · rw [if_pos (hr.resolve_left (by omega))]
    simp (disch := omega) only [i_0, i_1, i_2, i_3, i_4, i_5, i_6, i_7, i_8, i_9, i_10, i_11, i_12, i_13, i_14, i_15, i_16, i_17, i_18, i_19, i_20, i_21, i_22, i_23, i_24, i_25, i_26, i_27, i_31, i_32, i_40, i_42, i_45, i_48, i_51, i_52, i_56, i_58, i_59, i_60, i_61, i_62, i_63, i_64, i_85, i_90, i_100, i_112, i_120, i_121, i_127, i_128, i_130, i_144, i_171, i_192, i_193, i_197, i_200, i_207, i_235, i_240, i_248, i_252, i_254, i_255, i_256, i_512, i_544, i_768, i_769, i_793, i_1000, i_1023, i_1024, i_1200, i_1538, i_1541, i_1545, i_2046, i_2047, i_2049, i_2060, i_2736, i_2737, i_2817, i_2818, i_2819, i_2820, i_2821, i_2831, i_2832, i_3077, i_3085, i_3843, i_3849, i_3851, i_3852, i_4129, i_4353, i_4865, i_5121, i_5122, i_5123, i_6156, i_8192, i_12288, i_16383, i_32000, i_33280, i_49152, i_53247, i_60304, i_64000, i_64512, i_65521, i_65535, i_449838109, nI_add, pk_mul, pk_sub, nI_mm, nI_leI, nI_ltI, nI_eq, pk_div, jrem_N, jshl_N, jshr_N, jushr_N, jmin_N, jmax_N, an_1, an_3, an_7, an_15, an_31, an_63, an_127, an_255, an_1023, an_2047, an_16383, an_65535, nm, pfI, rdI, rdW, rdL, rdI2, rdW2, ldA_N, stA_N, stB_N, stZ_N, pfZ_0, pfZ_1, rtZ_0, rtZ_1, acp_N, Option.bind_some, wp_some_iff, true_and, and_true, false_and, and_false, or_true, true_or, or_false, false_or, not_true_eq_false, not_false_eq_true, if_true, if_false, if_pos, if_neg, lt_sub, le_sub, sub_lt3, sub_le3, Option.bind_assoc, a1]
    exact ⟨⟨⟨a1, a2, a3, a4⟩, ⟨b1, b2, b3⟩, c1⟩, Fr.rf⟩
  · by_cases qm : w ∈ y.2.1
    · rw [if_pos qm]
      rw [decide_eq_true qm, b2n_t] at ic
      simp (disch := omega) only [i_0, i_1, i_2, i_3, i_4, i_5, i_6, i_7, i_8, i_9, i_10, i_11, i_12, i_13, i_14, i_15, i_16, i_17, i_18, i_19, i_20, i_21, i_22, i_23, i_24, i_25, i_26, i_27, i_31, i_32, i_40, i_42, i_45, i_48, i_51, i_52, i_56, i_58, i_59, i_60, i_61, i_62, i_63, i_64, i_85, i_90, i_100, i_112, i_120, i_121, i_127, i_128, i_130, i_144, i_171, i_192, i_193, i_197, i_200, i_207, i_235, i_240, i_248, i_252, i_254, i_255, i_256, i_512, i_544, i_768, i_769, i_793, i_1000, i_1023, i_1024, i_1200, i_1538, i_1541, i_1545, i_2046, i_2047, i_2049, i_2060, i_2736, i_2737, i_2817, i_2818, i_2819, i_2820, i_2821, i_2831, i_2832, i_3077, i_3085, i_3843, i_3849, i_3851, i_3852, i_4129, i_4353, i_4865, i_5121, i_5122, i_5123, i_6156, i_8192, i_12288, i_16383, i_32000, i_33280, i_49152, i_53247, i_60304, i_64000, i_64512, i_65521, i_65535, i_449838109, nI_add, pk_mul, pk_sub, nI_mm, nI_leI, nI_ltI, nI_eq, pk_div, jrem_N, jshl_N, jshr_N, jushr_N, jmin_N, jmax_N, an_1, an_3, an_7, an_15, an_31, an_63, an_127, an_255, an_1023, an_2047, an_16383, an_65535, nm, pfI, rdI, rdW, rdL, rdI2, rdW2, ldA_N, stA_N, stB_N, stZ_N, pfZ_0, pfZ_1, rtZ_0, rtZ_1, acp_N, Option.bind_some, wp_some_iff, true_and, and_true, false_and, and_false, or_true, true_or, or_false, false_or, not_true_eq_false, not_false_eq_true, if_true, if_false, if_pos, if_neg, lt_sub, le_sub, sub_lt3, sub_le3, Option.bind_assoc, a1, ic]
      exact ⟨⟨⟨a1, a2, a3, a4⟩, ⟨b1, b2, b3⟩, c1⟩, Fr.rf⟩
    · rw [if_neg qm]
      rw [decide_eq_false qm, b2n_f] at ic
      simp (disch := omega) only [i_0, i_1, i_2, i_3, i_4, i_5, i_6, i_7, i_8, i_9, i_10, i_11, i_12, i_13, i_14, i_15, i_16, i_17, i_18, i_19, i_20, i_21, i_22, i_23, i_24, i_25, i_26, i_27, i_31, i_32, i_40, i_42, i_45, i_48, i_51, i_52, i_56, i_58, i_59, i_60, i_61, i_62, i_63, i_64, i_85, i_90, i_100, i_112, i_120, i_121, i_127, i_128, i_130, i_144, i_171, i_192, i_193, i_197, i_200, i_207, i_235, i_240, i_248, i_252, i_254, i_255, i_256, i_512, i_544, i_768, i_769, i_793, i_1000, i_1023, i_1024, i_1200, i_1538, i_1541, i_1545, i_2046, i_2047, i_2049, i_2060, i_2736, i_2737, i_2817, i_2818, i_2819, i_2820, i_2821, i_2831, i_2832, i_3077, i_3085, i_3843, i_3849, i_3851, i_3852, i_4129, i_4353, i_4865, i_5121, i_5122, i_5123, i_6156, i_8192, i_12288, i_16383, i_32000, i_33280, i_49152, i_53247, i_60304, i_64000, i_64512, i_65521, i_65535, i_449838109, nI_add, pk_mul, pk_sub, nI_mm, nI_leI, nI_ltI, nI_eq, pk_div, jrem_N, jshl_N, jshr_N, jushr_N, jmin_N, jmax_N, an_1, an_3, an_7, an_15, an_31, an_63, an_127, an_255, an_1023, an_2047, an_16383, an_65535, nm, pfI, rdI, rdW, rdL, rdI2, rdW2, ldA_N, stA_N, stB_N, stZ_N, pfZ_0, pfZ_1, rtZ_0, rtZ_1, acp_N, Option.bind_some, wp_some_iff, true_and, and_true, false_and, and_false, or_true, true_or, or_false, false_or, not_true_eq_false, not_false_eq_true, if_true, if_false, if_pos, if_neg, lt_sub, le_sub, sub_lt3, sub_le3, Option.bind_assoc, a1, ic]
      have f1 : Fr (fun c k => c = 59 + 8 * s + 7 ∧ k = y.2.1.length ∨ c = 59 + 8 * s ∧ k = 2) μ (setI (setI μ (59 + 8 * s + 7) y.2.1.length (nI w)) (59 + 8 * s) 2 (nI (y.2.1.length + 1))) := (Fr.sI (by omega)).pI (by omega)
      have r1 : (setI (setI μ (59 + 8 * s + 7) y.2.1.length (nI w)) (59 + 8 * s) 2 (nI (y.2.1.length + 1))).1 (59 + 8 * s) 2 = nI (y.2.1.length + 1) := by simp (disch := omega) only [i_0, i_1, i_2, i_3, i_4, i_5, i_6, i_7, i_8, i_9, i_10, i_11, i_12, i_13, i_14, i_15, i_16, i_17, i_18, i_19, i_20, i_21, i_22, i_23, i_24, i_25, i_26, i_27, i_31, i_32, i_40, i_42, i_45, i_48, i_51, i_52, i_56, i_58, i_59, i_60, i_61, i_62, i_63, i_64, i_85, i_90, i_100, i_112, i_120, i_121, i_127, i_128, i_130, i_144, i_171, i_192, i_193, i_197, i_200, i_207, i_235, i_240, i_248, i_252, i_254, i_255, i_256, i_512, i_544, i_768, i_769, i_793, i_1000, i_1023, i_1024, i_1200, i_1538, i_1541, i_1545, i_2046, i_2047, i_2049, i_2060, i_2736, i_2737, i_2817, i_2818, i_2819, i_2820, i_2821, i_2831, i_2832, i_3077, i_3085, i_3843, i_3849, i_3851, i_3852, i_4129, i_4353, i_4865, i_5121, i_5122, i_5123, i_6156, i_8192, i_12288, i_16383, i_32000, i_33280, i_49152, i_53247, i_60304, i_64000, i_64512, i_65521, i_65535, i_449838109, nI_add, pk_mul, pk_sub, nI_mm, nI_leI, nI_ltI, nI_eq, pk_div, jrem_N, jshl_N, jshr_N, jushr_N, jmin_N, jmax_N, an_1, an_3, an_7, an_15, an_31, an_63, an_127, an_255, an_1023, an_2047, an_16383, an_65535, nm, pfI, rdI, rdW, rdL, rdI2, rdW2, ldA_N, stA_N, stB_N, stZ_N, pfZ_0, pfZ_1, rtZ_0, rtZ_1, acp_N, Option.bind_some, wp_some_iff, true_and, and_true, false_and, and_false, or_true, true_or, or_false, false_or, not_true_eq_false, not_false_eq_true, if_true, if_false, if_pos, if_neg, lt_sub, le_sub, sub_lt3, sub_le3, Option.bind_assoc]
      have r2 : (setI (setI μ (59 + 8 * s + 7) y.2.1.length (nI w)) (59 + 8 * s) 2 (nI (y.2.1.length + 1))).1 (59 + 8 * s + 7) y.2.1.length = nI w := by simp (disch := omega) only [i_0, i_1, i_2, i_3, i_4, i_5, i_6, i_7, i_8, i_9, i_10, i_11, i_12, i_13, i_14, i_15, i_16, i_17, i_18, i_19, i_20, i_21, i_22, i_23, i_24, i_25, i_26, i_27, i_31, i_32, i_40, i_42, i_45, i_48, i_51, i_52, i_56, i_58, i_59, i_60, i_61, i_62, i_63, i_64, i_85, i_90, i_100, i_112, i_120, i_121, i_127, i_128, i_130, i_144, i_171, i_192, i_193, i_197, i_200, i_207, i_235, i_240, i_248, i_252, i_254, i_255, i_256, i_512, i_544, i_768, i_769, i_793, i_1000, i_1023, i_1024, i_1200, i_1538, i_1541, i_1545, i_2046, i_2047, i_2049, i_2060, i_2736, i_2737, i_2817, i_2818, i_2819, i_2820, i_2821, i_2831, i_2832, i_3077, i_3085, i_3843, i_3849, i_3851, i_3852, i_4129, i_4353, i_4865, i_5121, i_5122, i_5123, i_6156, i_8192, i_12288, i_16383, i_32000, i_33280, i_49152, i_53247, i_60304, i_64000, i_64512, i_65521, i_65535, i_449838109, nI_add, pk_mul, pk_sub, nI_mm, nI_leI, nI_ltI, nI_eq, pk_div, jrem_N, jshl_N, jshr_N, jushr_N, jmin_N, jmax_N, an_1, an_3, an_7, an_15, an_31, an_63, an_127, an_255, an_1023, an_2047, an_16383, an_65535, nm, pfI, rdI, rdW, rdL, rdI2, rdW2, ldA_N, stA_N, stB_N, stZ_N, pfZ_0, pfZ_1, rtZ_0, rtZ_1, acp_N, Option.bind_some, wp_some_iff, true_and, and_true, false_and, and_false, or_true, true_or, or_false, false_or, not_true_eq_false, not_false_eq_true, if_true, if_false, if_pos, if_neg, lt_sub, le_sub, sub_lt3, sub_le3, Option.bind_assoc]
      generalize setI (setI μ (59 + 8 * s + 7) y.2.1.length (nI w)) (59 + 8 * s) 2 (nI (y.2.1.length + 1)) = m1 at *
      refine ⟨⟨⟨?_, ?_, fun i hi => ?_, fun b hb => ?_⟩, ⟨?_, ?_, ?_⟩, c1.fr f1 (fun c k _ _ => by omega)⟩, f1.mono (by intro c k h; omega)⟩
      · rw [r1, List.length_append]; rfl
      · dsimp only; rw [List.length_append, List.length_singleton]; omega
      · dsimp only at hi ⊢
        rw [List.length_append, List.length_singleton] at hi
        rw [getD_snoc hi]
        by_cases e : i < y.2.1.length
        · rw [if_pos e, f1.1 _ _ (by omega)]; exact a3 i e
        · rw [if_neg e, show i = y.2.1.length by omega]; exact r2
      · rcases List.mem_append.mp hb with z | z
        · exact a4 b z
        · rw [List.mem_singleton.mp z]; exact hw
      · rw [f1.1 _ _ (by omega)]; exact b1
      · rw [f1.1 _ _ (by omega)]; exact b2
      · rw [f1.1 _ _ (by omega)]; exact b3
theorem f337_3 {x : Int32} {μ : Mem} : f337 (nI 3) x μ = (ldA 182 (12 : Int32) μ).bind fun x8 => (ldA 182 (13 : Int32) μ).bind fun x10 => (f306 x x8 x10 μ).bind fun r12 => if r12.2 = 0 then (ldA 174 x r12.1).bind fun x15 => (ldA 182 (12 : Int32) r12.1).bind fun x17 => (ldA 182 (13 : Int32) r12.1).bind fun x19 => (stA 175 (((6 : Int32) * x) + x15) (((256 : Int32) * x17) + x19) r12.1).bind fun m21 => (ldA 174 x m21).bind fun x23 => (stA 174 x (x23 + (1 : Int32)) m21).bind fun m25 => some m25 else some r12.1 := by
  unfold f337
  repeat refine ite_no (by decide) ?_
  exact ite_yes (by decide) rfl
theorem chS_M {μ : Mem} {s dep : Nat} {y : Sto} {bs : List Nat} (hs : s < 2) (h : StM μ s y) (hl90 : y.2.2.length ≤ 90) (hq : CurM μ bs dep) (hl : bs.length = 16) (hr : y.2.1.length < 6 ∨ w2 bs 12 ∈ y.2.1) : wp (f337 (nI 3) (nI s) μ) (fun m => StM m s (chS y (w2 bs 12)) ∧ Fr (FStM s) μ m) := by
  have b12 := getD_lt hq.2.2.2 12
  have b13 := getD_lt hq.2.2.2 13
  have g1 := gl_174
  have g2 := gl_175
  have e12 := hq.ld (by omega) (i := 12) (by omega)
  have e13 := hq.ld (by omega) (i := 13) (by omega)
  have ic := isch_M hs h b12 b13
  have hw2 : w2 bs 12 = 256 * bs.getD 12 0 + bs.getD 13 0 := rfl
  obtain ⟨⟨a1, a2, a3, a4⟩, ⟨b1, b2, b3⟩, ⟨c1, c2⟩, d1, d2⟩ := h
  rw [f337_3, i_12, i_13, e12, Option.bind_some, e13, Option.bind_some, ic, Option.bind_some]
  unfold chS
  rw [hw2] at hr ⊢
  generalize hW : 256 * bs.getD 12 0 + bs.getD 13 0 = W at *
  by_cases qm : W ∈ y.2.1
  · rw [if_pos qm, decide_eq_true qm, b2n_t]
    dsimp only
    rw [if_neg (show ¬ nI 1 = (0 : Int32) by decide)]
    exact wp_some ⟨⟨⟨a1, a2, a3, a4⟩, ⟨b1, b2, b3⟩, ⟨c1, c2⟩, d1, d2⟩, Fr.rf⟩
  · have hr6 := hr.resolve_right qm
    rw [if_neg qm, decide_eq_false qm, b2n_f]
    dsimp only
    rw [if_pos (show nI 0 = (0 : Int32) from rfl)]
    simp (disch := omega) only [i_0, i_1, i_2, i_3, i_4, i_5, i_6, i_7, i_8, i_9, i_10, i_11, i_12, i_13, i_14, i_15, i_16, i_17, i_18, i_19, i_20, i_21, i_22, i_23, i_24, i_25, i_26, i_27, i_31, i_32, i_40, i_42, i_45, i_48, i_51, i_52, i_56, i_58, i_59, i_60, i_61, i_62, i_63, i_64, i_85, i_90, i_100, i_112, i_120, i_121, i_127, i_128, i_130, i_144, i_171, i_192, i_193, i_197, i_200, i_207, i_235, i_240, i_248, i_252, i_254, i_255, i_256, i_512, i_544, i_768, i_769, i_793, i_1000, i_1023, i_1024, i_1200, i_1538, i_1541, i_1545, i_2046, i_2047, i_2049, i_2060, i_2736, i_2737, i_2817, i_2818, i_2819, i_2820, i_2821, i_2831, i_2832, i_3077, i_3085, i_3843, i_3849, i_3851, i_3852, i_4129, i_4353, i_4865, i_5121, i_5122, i_5123, i_6156, i_8192, i_12288, i_16383, i_32000, i_33280, i_49152, i_53247, i_60304, i_64000, i_64512, i_65521, i_65535, i_449838109, nI_add, pk_mul, pk_sub, nI_mm, nI_leI, nI_ltI, nI_eq, pk_div, jrem_N, jshl_N, jshr_N, jushr_N, jmin_N, jmax_N, an_1, an_3, an_7, an_15, an_31, an_63, an_127, an_255, an_1023, an_2047, an_16383, an_65535, nm, pfI, rdI, rdW, rdL, rdI2, rdW2, ldA_N, stA_N, stB_N, stZ_N, pfZ_0, pfZ_1, rtZ_0, rtZ_1, acp_N, Option.bind_some, wp_some_iff, true_and, and_true, false_and, and_false, or_true, true_or, or_false, false_or, not_true_eq_false, not_false_eq_true, if_true, if_false, if_pos, if_neg, lt_sub, le_sub, sub_lt3, sub_le3, Option.bind_assoc, a1, e12, e13]
    rw [hW]
    have f1 : Fr (fun c k => c = 175 ∧ k = 6 * s + y.2.1.length ∨ c = 174 ∧ k = s) μ (setI (setI μ 175 (6 * s + y.2.1.length) (nI W)) 174 s (nI (y.2.1.length + 1))) := (Fr.sI (by omega)).pI (by omega)
    have r1 : (setI (setI μ 175 (6 * s + y.2.1.length) (nI W)) 174 s (nI (y.2.1.length + 1))).1 174 s = nI (y.2.1.length + 1) := by simp (disch := omega) only [i_0, i_1, i_2, i_3, i_4, i_5, i_6, i_7, i_8, i_9, i_10, i_11, i_12, i_13, i_14, i_15, i_16, i_17, i_18, i_19, i_20, i_21, i_22, i_23, i_24, i_25, i_26, i_27, i_31, i_32, i_40, i_42, i_45, i_48, i_51, i_52, i_56, i_58, i_59, i_60, i_61, i_62, i_63, i_64, i_85, i_90, i_100, i_112, i_120, i_121, i_127, i_128, i_130, i_144, i_171, i_192, i_193, i_197, i_200, i_207, i_235, i_240, i_248, i_252, i_254, i_255, i_256, i_512, i_544, i_768, i_769, i_793, i_1000, i_1023, i_1024, i_1200, i_1538, i_1541, i_1545, i_2046, i_2047, i_2049, i_2060, i_2736, i_2737, i_2817, i_2818, i_2819, i_2820, i_2821, i_2831, i_2832, i_3077, i_3085, i_3843, i_3849, i_3851, i_3852, i_4129, i_4353, i_4865, i_5121, i_5122, i_5123, i_6156, i_8192, i_12288, i_16383, i_32000, i_33280, i_49152, i_53247, i_60304, i_64000, i_64512, i_65521, i_65535, i_449838109, nI_add, pk_mul, pk_sub, nI_mm, nI_leI, nI_ltI, nI_eq, pk_div, jrem_N, jshl_N, jshr_N, jushr_N, jmin_N, jmax_N, an_1, an_3, an_7, an_15, an_31, an_63, an_127, an_255, an_1023, an_2047, an_16383, an_65535, nm, pfI, rdI, rdW, rdL, rdI2, rdW2, ldA_N, stA_N, stB_N, stZ_N, pfZ_0, pfZ_1, rtZ_0, rtZ_1, acp_N, Option.bind_some, wp_some_iff, true_and, and_true, false_and, and_false, or_true, true_or, or_false, false_or, not_true_eq_false, not_false_eq_true, if_true, if_false, if_pos, if_neg, lt_sub, le_sub, sub_lt3, sub_le3, Option.bind_assoc]
    have r2 : (setI (setI μ 175 (6 * s + y.2.1.length) (nI W)) 174 s (nI (y.2.1.length + 1))).1 175 (6 * s + y.2.1.length) = nI W := by simp (disch := omega) only [i_0, i_1, i_2, i_3, i_4, i_5, i_6, i_7, i_8, i_9, i_10, i_11, i_12, i_13, i_14, i_15, i_16, i_17, i_18, i_19, i_20, i_21, i_22, i_23, i_24, i_25, i_26, i_27, i_31, i_32, i_40, i_42, i_45, i_48, i_51, i_52, i_56, i_58, i_59, i_60, i_61, i_62, i_63, i_64, i_85, i_90, i_100, i_112, i_120, i_121, i_127, i_128, i_130, i_144, i_171, i_192, i_193, i_197, i_200, i_207, i_235, i_240, i_248, i_252, i_254, i_255, i_256, i_512, i_544, i_768, i_769, i_793, i_1000, i_1023, i_1024, i_1200, i_1538, i_1541, i_1545, i_2046, i_2047, i_2049, i_2060, i_2736, i_2737, i_2817, i_2818, i_2819, i_2820, i_2821, i_2831, i_2832, i_3077, i_3085, i_3843, i_3849, i_3851, i_3852, i_4129, i_4353, i_4865, i_5121, i_5122, i_5123, i_6156, i_8192, i_12288, i_16383, i_32000, i_33280, i_49152, i_53247, i_60304, i_64000, i_64512, i_65521, i_65535, i_449838109, nI_add, pk_mul, pk_sub, nI_mm, nI_leI, nI_ltI, nI_eq, pk_div, jrem_N, jshl_N, jshr_N, jushr_N, jmin_N, jmax_N, an_1, an_3, an_7, an_15, an_31, an_63, an_127, an_255, an_1023, an_2047, an_16383, an_65535, nm, pfI, rdI, rdW, rdL, rdI2, rdW2, ldA_N, stA_N, stB_N, stZ_N, pfZ_0, pfZ_1, rtZ_0, rtZ_1, acp_N, Option.bind_some, wp_some_iff, true_and, and_true, false_and, and_false, or_true, true_or, or_false, false_or, not_true_eq_false, not_false_eq_true, if_true, if_false, if_pos, if_neg, lt_sub, le_sub, sub_lt3, sub_le3, Option.bind_assoc]
    generalize setI (setI μ 175 (6 * s + y.2.1.length) (nI W)) 174 s (nI (y.2.1.length + 1)) = m1 at *
    refine ⟨⟨⟨?_, ?_, fun i hi => ?_, fun b hb => ?_⟩, ⟨?_, ?_, ?_⟩, ⟨?_, ?_⟩, d1.fr f1 (fun k => by omega) (fun k => by omega), d2.fr f1 (fun k => by omega)⟩, f1.mono (by intro c k h; omega)⟩
    · rw [r1, List.length_append]; rfl
    · dsimp only; rw [List.length_append, List.length_singleton]; omega
    · dsimp only at hi ⊢
      rw [List.length_append, List.length_singleton] at hi
      rw [getD_snoc hi]
      by_cases e : i < y.2.1.length
      · rw [if_pos e, f1.1 _ _ (by omega)]; exact a3 i e
      · rw [if_neg e, show i = y.2.1.length by omega]; exact r2
    · rcases List.mem_append.mp hb with z | z
      · exact a4 b z
      · rw [List.mem_singleton.mp z]; omega
    · rw [f1.1 _ _ (by omega)]; exact b1
    · rw [f1.1 _ _ (by omega)]; exact b2
    · rw [f1.1 _ _ (by omega)]; exact b3
    · rw [f1.1 _ _ (by omega)]; exact c1
    · rw [f1.1 _ _ (by omega)]; exact c2
theorem f337_12 {x : Int32} {μ : Mem} : f337 (nI 12) x μ = (ldA 182 (12 : Int32) μ).bind fun x27 => (stA 169 x x27 μ).bind fun m29 => (stZ 170 x (0 : Int32) m29).bind fun m31 => (stA 171 x (0 : Int32) m31).bind fun m33 => (stA 172 x (0 : Int32) m33).bind fun m35 => (stA 173 x (0 : Int32) m35).bind fun m37 => (stA 174 x (0 : Int32) m37).bind fun m39 => some m39 := by
  unfold f337
  exact ite_yes (by decide) rfl
theorem f337_1 {x : Int32} {μ : Mem} : f337 (nI 1) x μ = (stZ 170 x (1 : Int32) μ).bind fun m1 => some m1 := by
  unfold f337 c337_67 c337_82
  refine ite_no (by decide) ?_
  refine ite_yes (by decide) ?_
  exact ite_yes (by decide) rfl
theorem f337_2 {x : Int32} {μ : Mem} : f337 (nI 2) x μ = (stZ 170 x (0 : Int32) μ).bind fun m1 => some m1 := by
  unfold f337 c337_67 c337_82
  refine ite_no (by decide) ?_
  refine ite_no (by decide) ?_
  refine ite_yes (by decide) ?_
  exact ite_no (by decide) rfl
theorem rsS_M {μ : Mem} {s dep : Nat} {y : Sto} {bs : List Nat} (hs : s < 2) (h : StM μ s y) (hq : CurM μ bs dep) (hl : bs.length = 15) : wp (f337 (nI 12) (nI s) μ) (fun m => StM m s (rsS (nI (bs.getD 12 0))) ∧ Fr (FStM s) μ m) := by
  have g1 := gl_169
  have g2 := gl_170
  have g3 := gl_171
  have g4 := gl_172
  have g5 := gl_173
  have g6 := gl_174
  have e12 := hq.2.2.z (i := 12) (by omega)
  have g7 := gl_182
  rw [f337_12]
  simp (disch := omega) only [i_0, i_1, i_2, i_3, i_4, i_5, i_6, i_7, i_8, i_9, i_10, i_11, i_12, i_13, i_14, i_15, i_16, i_17, i_18, i_19, i_20, i_21, i_22, i_23, i_24, i_25, i_26, i_27, i_31, i_32, i_40, i_42, i_45, i_48, i_51, i_52, i_56, i_58, i_59, i_60, i_61, i_62, i_63, i_64, i_85, i_90, i_100, i_112, i_120, i_121, i_127, i_128, i_130, i_144, i_171, i_192, i_193, i_197, i_200, i_207, i_235, i_240, i_248, i_252, i_254, i_255, i_256, i_512, i_544, i_768, i_769, i_793, i_1000, i_1023, i_1024, i_1200, i_1538, i_1541, i_1545, i_2046, i_2047, i_2049, i_2060, i_2736, i_2737, i_2817, i_2818, i_2819, i_2820, i_2821, i_2831, i_2832, i_3077, i_3085, i_3843, i_3849, i_3851, i_3852, i_4129, i_4353, i_4865, i_5121, i_5122, i_5123, i_6156, i_8192, i_12288, i_16383, i_32000, i_33280, i_49152, i_53247, i_60304, i_64000, i_64512, i_65521, i_65535, i_449838109, nI_add, pk_mul, pk_sub, nI_mm, nI_leI, nI_ltI, nI_eq, pk_div, jrem_N, jshl_N, jshr_N, jushr_N, jmin_N, jmax_N, an_1, an_3, an_7, an_15, an_31, an_63, an_127, an_255, an_1023, an_2047, an_16383, an_65535, nm, pfI, rdI, rdW, rdL, rdI2, rdW2, ldA_N, stA_N, stB_N, stZ_N, pfZ_0, pfZ_1, rtZ_0, rtZ_1, acp_N, Option.bind_some, wp_some_iff, true_and, and_true, false_and, and_false, or_true, true_or, or_false, false_or, not_true_eq_false, not_false_eq_true, if_true, if_false, if_pos, if_neg, lt_sub, le_sub, sub_lt3, sub_le3, Option.bind_assoc, e12, zz0]
  have f1 : Fr (fun c k => 169 ≤ c ∧ c ≤ 174 ∧ k = s) μ (setI (setI (setI (setI (setI (setI μ 169 s (nI (bs.getD 12 0))) 170 s (nI 0)) 171 s (nI 0)) 172 s (nI 0)) 173 s (nI 0)) 174 s (nI 0)) := (((((Fr.sI (by omega)).pI (by omega)).pI (by omega)).pI (by omega)).pI (by omega)).pI (by omega)
  refine ⟨⟨⟨by simp (disch := omega) only [i_0, i_1, i_2, i_3, i_4, i_5, i_6, i_7, i_8, i_9, i_10, i_11, i_12, i_13, i_14, i_15, i_16, i_17, i_18, i_19, i_20, i_21, i_22, i_23, i_24, i_25, i_26, i_27, i_31, i_32, i_40, i_42, i_45, i_48, i_51, i_52, i_56, i_58, i_59, i_60, i_61, i_62, i_63, i_64, i_85, i_90, i_100, i_112, i_120, i_121, i_127, i_128, i_130, i_144, i_171, i_192, i_193, i_197, i_200, i_207, i_235, i_240, i_248, i_252, i_254, i_255, i_256, i_512, i_544, i_768, i_769, i_793, i_1000, i_1023, i_1024, i_1200, i_1538, i_1541, i_1545, i_2046, i_2047, i_2049, i_2060, i_2736, i_2737, i_2817, i_2818, i_2819, i_2820, i_2821, i_2831, i_2832, i_3077, i_3085, i_3843, i_3849, i_3851, i_3852, i_4129, i_4353, i_4865, i_5121, i_5122, i_5123, i_6156, i_8192, i_12288, i_16383, i_32000, i_33280, i_49152, i_53247, i_60304, i_64000, i_64512, i_65521, i_65535, i_449838109, nI_add, pk_mul, pk_sub, nI_mm, nI_leI, nI_ltI, nI_eq, pk_div, jrem_N, jshl_N, jshr_N, jushr_N, jmin_N, jmax_N, an_1, an_3, an_7, an_15, an_31, an_63, an_127, an_255, an_1023, an_2047, an_16383, an_65535, nm, pfI, rdI, rdW, rdL, rdI2, rdW2, ldA_N, stA_N, stB_N, stZ_N, pfZ_0, pfZ_1, rtZ_0, rtZ_1, acp_N, Option.bind_some, wp_some_iff, true_and, and_true, false_and, and_false, or_true, true_or, or_false, false_or, not_true_eq_false, not_false_eq_true, if_true, if_false, if_pos, if_neg, lt_sub, le_sub, sub_lt3, sub_le3, Option.bind_assoc]; rfl, Nat.zero_le _, fun i hi => absurd hi (Nat.not_lt_zero _), fun b hb => by cases hb⟩, ⟨by simp (disch := omega) only [i_0, i_1, i_2, i_3, i_4, i_5, i_6, i_7, i_8, i_9, i_10, i_11, i_12, i_13, i_14, i_15, i_16, i_17, i_18, i_19, i_20, i_21, i_22, i_23, i_24, i_25, i_26, i_27, i_31, i_32, i_40, i_42, i_45, i_48, i_51, i_52, i_56, i_58, i_59, i_60, i_61, i_62, i_63, i_64, i_85, i_90, i_100, i_112, i_120, i_121, i_127, i_128, i_130, i_144, i_171, i_192, i_193, i_197, i_200, i_207, i_235, i_240, i_248, i_252, i_254, i_255, i_256, i_512, i_544, i_768, i_769, i_793, i_1000, i_1023, i_1024, i_1200, i_1538, i_1541, i_1545, i_2046, i_2047, i_2049, i_2060, i_2736, i_2737, i_2817, i_2818, i_2819, i_2820, i_2821, i_2831, i_2832, i_3077, i_3085, i_3843, i_3849, i_3851, i_3852, i_4129, i_4353, i_4865, i_5121, i_5122, i_5123, i_6156, i_8192, i_12288, i_16383, i_32000, i_33280, i_49152, i_53247, i_60304, i_64000, i_64512, i_65521, i_65535, i_449838109, nI_add, pk_mul, pk_sub, nI_mm, nI_leI, nI_ltI, nI_eq, pk_div, jrem_N, jshl_N, jshr_N, jushr_N, jmin_N, jmax_N, an_1, an_3, an_7, an_15, an_31, an_63, an_127, an_255, an_1023, an_2047, an_16383, an_65535, nm, pfI, rdI, rdW, rdL, rdI2, rdW2, ldA_N, stA_N, stB_N, stZ_N, pfZ_0, pfZ_1, rtZ_0, rtZ_1, acp_N, Option.bind_some, wp_some_iff, true_and, and_true, false_and, and_false, or_true, true_or, or_false, false_or, not_true_eq_false, not_false_eq_true, if_true, if_false, if_pos, if_neg, lt_sub, le_sub, sub_lt3, sub_le3, Option.bind_assoc]; rfl, by simp (disch := omega) only [i_0, i_1, i_2, i_3, i_4, i_5, i_6, i_7, i_8, i_9, i_10, i_11, i_12, i_13, i_14, i_15, i_16, i_17, i_18, i_19, i_20, i_21, i_22, i_23, i_24, i_25, i_26, i_27, i_31, i_32, i_40, i_42, i_45, i_48, i_51, i_52, i_56, i_58, i_59, i_60, i_61, i_62, i_63, i_64, i_85, i_90, i_100, i_112, i_120, i_121, i_127, i_128, i_130, i_144, i_171, i_192, i_193, i_197, i_200, i_207, i_235, i_240, i_248, i_252, i_254, i_255, i_256, i_512, i_544, i_768, i_769, i_793, i_1000, i_1023, i_1024, i_1200, i_1538, i_1541, i_1545, i_2046, i_2047, i_2049, i_2060, i_2736, i_2737, i_2817, i_2818, i_2819, i_2820, i_2821, i_2831, i_2832, i_3077, i_3085, i_3843, i_3849, i_3851, i_3852, i_4129, i_4353, i_4865, i_5121, i_5122, i_5123, i_6156, i_8192, i_12288, i_16383, i_32000, i_33280, i_49152, i_53247, i_60304, i_64000, i_64512, i_65521, i_65535, i_449838109, nI_add, pk_mul, pk_sub, nI_mm, nI_leI, nI_ltI, nI_eq, pk_div, jrem_N, jshl_N, jshr_N, jushr_N, jmin_N, jmax_N, an_1, an_3, an_7, an_15, an_31, an_63, an_127, an_255, an_1023, an_2047, an_16383, an_65535, nm, pfI, rdI, rdW, rdL, rdI2, rdW2, ldA_N, stA_N, stB_N, stZ_N, pfZ_0, pfZ_1, rtZ_0, rtZ_1, acp_N, Option.bind_some, wp_some_iff, true_and, and_true, false_and, and_false, or_true, true_or, or_false, false_or, not_true_eq_false, not_false_eq_true, if_true, if_false, if_pos, if_neg, lt_sub, le_sub, sub_lt3, sub_le3, Option.bind_assoc]; rfl, by simp (disch := omega) only [i_0, i_1, i_2, i_3, i_4, i_5, i_6, i_7, i_8, i_9, i_10, i_11, i_12, i_13, i_14, i_15, i_16, i_17, i_18, i_19, i_20, i_21, i_22, i_23, i_24, i_25, i_26, i_27, i_31, i_32, i_40, i_42, i_45, i_48, i_51, i_52, i_56, i_58, i_59, i_60, i_61, i_62, i_63, i_64, i_85, i_90, i_100, i_112, i_120, i_121, i_127, i_128, i_130, i_144, i_171, i_192, i_193, i_197, i_200, i_207, i_235, i_240, i_248, i_252, i_254, i_255, i_256, i_512, i_544, i_768, i_769, i_793, i_1000, i_1023, i_1024, i_1200, i_1538, i_1541, i_1545, i_2046, i_2047, i_2049, i_2060, i_2736, i_2737, i_2817, i_2818, i_2819, i_2820, i_2821, i_2831, i_2832, i_3077, i_3085, i_3843, i_3849, i_3851, i_3852, i_4129, i_4353, i_4865, i_5121, i_5122, i_5123, i_6156, i_8192, i_12288, i_16383, i_32000, i_33280, i_49152, i_53247, i_60304, i_64000, i_64512, i_65521, i_65535, i_449838109, nI_add, pk_mul, pk_sub, nI_mm, nI_leI, nI_ltI, nI_eq, pk_div, jrem_N, jshl_N, jshr_N, jushr_N, jmin_N, jmax_N, an_1, an_3, an_7, an_15, an_31, an_63, an_127, an_255, an_1023, an_2047, an_16383, an_65535, nm, pfI, rdI, rdW, rdL, rdI2, rdW2, ldA_N, stA_N, stB_N, stZ_N, pfZ_0, pfZ_1, rtZ_0, rtZ_1, acp_N, Option.bind_some, wp_some_iff, true_and, and_true, false_and, and_false, or_true, true_or, or_false, false_or, not_true_eq_false, not_false_eq_true, if_true, if_false, if_pos, if_neg, lt_sub, le_sub, sub_lt3, sub_le3, Option.bind_assoc]; rfl⟩, ⟨by simp (disch := omega) only [i_0, i_1, i_2, i_3, i_4, i_5, i_6, i_7, i_8, i_9, i_10, i_11, i_12, i_13, i_14, i_15, i_16, i_17, i_18, i_19, i_20, i_21, i_22, i_23, i_24, i_25, i_26, i_27, i_31, i_32, i_40, i_42, i_45, i_48, i_51, i_52, i_56, i_58, i_59, i_60, i_61, i_62, i_63, i_64, i_85, i_90, i_100, i_112, i_120, i_121, i_127, i_128, i_130, i_144, i_171, i_192, i_193, i_197, i_200, i_207, i_235, i_240, i_248, i_252, i_254, i_255, i_256, i_512, i_544, i_768, i_769, i_793, i_1000, i_1023, i_1024, i_1200, i_1538, i_1541, i_1545, i_2046, i_2047, i_2049, i_2060, i_2736, i_2737, i_2817, i_2818, i_2819, i_2820, i_2821, i_2831, i_2832, i_3077, i_3085, i_3843, i_3849, i_3851, i_3852, i_4129, i_4353, i_4865, i_5121, i_5122, i_5123, i_6156, i_8192, i_12288, i_16383, i_32000, i_33280, i_49152, i_53247, i_60304, i_64000, i_64512, i_65521, i_65535, i_449838109, nI_add, pk_mul, pk_sub, nI_mm, nI_leI, nI_ltI, nI_eq, pk_div, jrem_N, jshl_N, jshr_N, jushr_N, jmin_N, jmax_N, an_1, an_3, an_7, an_15, an_31, an_63, an_127, an_255, an_1023, an_2047, an_16383, an_65535, nm, pfI, rdI, rdW, rdL, rdI2, rdW2, ldA_N, stA_N, stB_N, stZ_N, pfZ_0, pfZ_1, rtZ_0, rtZ_1, acp_N, Option.bind_some, wp_some_iff, true_and, and_true, false_and, and_false, or_true, true_or, or_false, false_or, not_true_eq_false, not_false_eq_true, if_true, if_false, if_pos, if_neg, lt_sub, le_sub, sub_lt3, sub_le3, Option.bind_assoc]; rfl, by simp (disch := omega) only [i_0, i_1, i_2, i_3, i_4, i_5, i_6, i_7, i_8, i_9, i_10, i_11, i_12, i_13, i_14, i_15, i_16, i_17, i_18, i_19, i_20, i_21, i_22, i_23, i_24, i_25, i_26, i_27, i_31, i_32, i_40, i_42, i_45, i_48, i_51, i_52, i_56, i_58, i_59, i_60, i_61, i_62, i_63, i_64, i_85, i_90, i_100, i_112, i_120, i_121, i_127, i_128, i_130, i_144, i_171, i_192, i_193, i_197, i_200, i_207, i_235, i_240, i_248, i_252, i_254, i_255, i_256, i_512, i_544, i_768, i_769, i_793, i_1000, i_1023, i_1024, i_1200, i_1538, i_1541, i_1545, i_2046, i_2047, i_2049, i_2060, i_2736, i_2737, i_2817, i_2818, i_2819, i_2820, i_2821, i_2831, i_2832, i_3077, i_3085, i_3843, i_3849, i_3851, i_3852, i_4129, i_4353, i_4865, i_5121, i_5122, i_5123, i_6156, i_8192, i_12288, i_16383, i_32000, i_33280, i_49152, i_53247, i_60304, i_64000, i_64512, i_65521, i_65535, i_449838109, nI_add, pk_mul, pk_sub, nI_mm, nI_leI, nI_ltI, nI_eq, pk_div, jrem_N, jshl_N, jshr_N, jushr_N, jmin_N, jmax_N, an_1, an_3, an_7, an_15, an_31, an_63, an_127, an_255, an_1023, an_2047, an_16383, an_65535, nm, pfI, rdI, rdW, rdL, rdI2, rdW2, ldA_N, stA_N, stB_N, stZ_N, pfZ_0, pfZ_1, rtZ_0, rtZ_1, acp_N, Option.bind_some, wp_some_iff, true_and, and_true, false_and, and_false, or_true, true_or, or_false, false_or, not_true_eq_false, not_false_eq_true, if_true, if_false, if_pos, if_neg, lt_sub, le_sub, sub_lt3, sub_le3, Option.bind_assoc]; rfl⟩, fun i h1 h2 => ?_, fun i h1 h2 => ?_⟩, f1.mono (by intro c k h; omega)⟩
  · exact absurd h2 (by show ¬ i < 90 * s + 0; omega)
  · exact absurd h2 (by show ¬ i < 90 * s + 0; omega)
