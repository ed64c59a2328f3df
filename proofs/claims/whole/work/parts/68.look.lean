/-! ===== a packet is looked at ===== -/
abbrev Kw : Type := Mw × (Nat → Int32) × List Pk
def PaC (μ : Mem) (z : Nat → Int32) : Prop := (∀ i, i < 24 → i ≠ 16 → i ≠ 17 → μ.1 124 i = z i) ∧ μ.1 9 8 = z 16 ∧ μ.1 9 9 = z 17
def PaM (μ : Mem) (z : Nat → Int32) : Prop := ∀ i, i < 24 → μ.1 162 i = z i
theorem PaC.fr {μ m : Mem} {z : Nat → Int32} {P : Nat → Nat → Prop} (h : PaC μ z) (ho : Fr P μ m) (h1 : ∀ k, ¬ P 124 k) (h2 : ¬ P 9 8) (h3 : ¬ P 9 9) : PaC m z := ⟨fun i a b c => by rw [ho.1 _ _ (h1 i)]; exact h.1 i a b c, by rw [ho.1 _ _ h2]; exact h.2.1, by rw [ho.1 _ _ h3]; exact h.2.2⟩
theorem PaM.fr {μ m : Mem} {z : Nat → Int32} {P : Nat → Nat → Prop} (h : PaM μ z) (ho : Fr P μ m) (h1 : ∀ k, ¬ P 162 k) : PaM m z := fun i a => by rw [ho.1 _ _ (h1 i)]; exact h i a
theorem PaC.up {μ : Mem} {z : Nat → Int32} {i : Nat} {x : Int32} (h : PaC μ z) (hi : i < 24 ∧ i ≠ 16 ∧ i ≠ 17) : PaC (setI μ 124 i x) (upL z i x) := by
  refine ⟨fun j a b c => ?_, ?_, ?_⟩
  · by_cases e : j = i
    · subst e
      simp (disch := omega) only [i_0, i_1, i_2, i_3, i_4, i_5, i_6, i_7, i_8, i_9, i_10, i_11, i_12, i_13, i_14, i_15, i_16, i_17, i_18, i_19, i_20, i_21, i_22, i_23, i_24, i_25, i_26, i_27, i_31, i_32, i_40, i_42, i_45, i_48, i_51, i_52, i_56, i_58, i_59, i_60, i_61, i_62, i_63, i_64, i_85, i_90, i_100, i_112, i_120, i_121, i_127, i_128, i_130, i_144, i_171, i_192, i_193, i_197, i_200, i_207, i_235, i_240, i_248, i_252, i_254, i_255, i_256, i_512, i_544, i_768, i_769, i_793, i_1000, i_1023, i_1024, i_1200, i_1538, i_1541, i_1545, i_2046, i_2047, i_2049, i_2060, i_2736, i_2737, i_2817, i_2818, i_2819, i_2820, i_2821, i_2831, i_2832, i_3077, i_3085, i_3843, i_3849, i_3851, i_3852, i_4129, i_4353, i_4865, i_5121, i_5122, i_5123, i_6156, i_8192, i_12288, i_16383, i_32000, i_33280, i_49152, i_53247, i_60304, i_64000, i_64512, i_65521, i_65535, i_449838109, nI_add, pk_mul, pk_sub, nI_mm, nI_leI, nI_ltI, nI_eq, pk_div, jrem_N, jshl_N, jshr_N, jushr_N, jmin_N, jmax_N, an_1, an_3, an_7, an_15, an_31, an_63, an_127, an_255, an_1023, an_2047, an_16383, an_65535, nm, pfI, rdI, rdW, rdL, rdI2, rdW2, ldA_N, stA_N, stB_N, stZ_N, pfZ_0, pfZ_1, rtZ_0, rtZ_1, acp_N, Option.bind_some, wp_some_iff, true_and, and_true, false_and, and_false, or_true, true_or, or_false, false_or, not_true_eq_false, not_false_eq_true, if_true, if_false, if_pos, if_neg, lt_sub, le_sub, sub_lt3, sub_le3, upL_s]
    · rw [upL_o e]
      simp (disch := omega) only [i_0, i_1, i_2, i_3, i_4, i_5, i_6, i_7, i_8, i_9, i_10, i_11, i_12, i_13, i_14, i_15, i_16, i_17, i_18, i_19, i_20, i_21, i_22, i_23, i_24, i_25, i_26, i_27, i_31, i_32, i_40, i_42, i_45, i_48, i_51, i_52, i_56, i_58, i_59, i_60, i_61, i_62, i_63, i_64, i_85, i_90, i_100, i_112, i_120, i_121, i_127, i_128, i_130, i_144, i_171, i_192, i_193, i_197, i_200, i_207, i_235, i_240, i_248, i_252, i_254, i_255, i_256, i_512, i_544, i_768, i_769, i_793, i_1000, i_1023, i_1024, i_1200, i_1538, i_1541, i_1545, i_2046, i_2047, i_2049, i_2060, i_2736, i_2737, i_2817, i_2818, i_2819, i_2820, i_2821, i_2831, i_2832, i_3077, i_3085, i_3843, i_3849, i_3851, i_3852, i_4129, i_4353, i_4865, i_5121, i_5122, i_5123, i_6156, i_8192, i_12288, i_16383, i_32000, i_33280, i_49152, i_53247, i_60304, i_64000, i_64512, i_65521, i_65535, i_449838109, nI_add, pk_mul, pk_sub, nI_mm, nI_leI, nI_ltI, nI_eq, pk_div, jrem_N, jshl_N, jshr_N, jushr_N, jmin_N, jmax_N, an_1, an_3, an_7, an_15, an_31, an_63, an_127, an_255, an_1023, an_2047, an_16383, an_65535, nm, pfI, rdI, rdW, rdL, rdI2, rdW2, ldA_N, stA_N, stB_N, stZ_N, pfZ_0, pfZ_1, rtZ_0, rtZ_1, acp_N, Option.bind_some, wp_some_iff, true_and, and_true, false_and, and_false, or_true, true_or, or_false, false_or, not_true_eq_false, not_false_eq_true, if_true, if_false, if_pos, if_neg, lt_sub, le_sub, sub_lt3, sub_le3]
      exact h.1 j a b c
  · rw [upL_o (by omega)]
    simp (disch := omega) only [i_0, i_1, i_2, i_3, i_4, i_5, i_6, i_7, i_8, i_9, i_10, i_11, i_12, i_13, i_14, i_15, i_16, i_17, i_18, i_19, i_20, i_21, i_22, i_23, i_24, i_25, i_26, i_27, i_31, i_32, i_40, i_42, i_45, i_48, i_51, i_52, i_56, i_58, i_59, i_60, i_61, i_62, i_63, i_64, i_85, i_90, i_100, i_112, i_120, i_121, i_127, i_128, i_130, i_144, i_171, i_192, i_193, i_197, i_200, i_207, i_235, i_240, i_248, i_252, i_254, i_255, i_256, i_512, i_544, i_768, i_769, i_793, i_1000, i_1023, i_1024, i_1200, i_1538, i_1541, i_1545, i_2046, i_2047, i_2049, i_2060, i_2736, i_2737, i_2817, i_2818, i_2819, i_2820, i_2821, i_2831, i_2832, i_3077, i_3085, i_3843, i_3849, i_3851, i_3852, i_4129, i_4353, i_4865, i_5121, i_5122, i_5123, i_6156, i_8192, i_12288, i_16383, i_32000, i_33280, i_49152, i_53247, i_60304, i_64000, i_64512, i_65521, i_65535, i_449838109, nI_add, pk_mul, pk_sub, nI_mm, nI_leI, nI_ltI, nI_eq, pk_div, jrem_N, jshl_N, jshr_N, jushr_N, jmin_N, jmax_N, an_1, an_3, an_7, an_15, an_31, an_63, an_127, an_255, an_1023, an_2047, an_16383, an_65535, nm, pfI, rdI, rdW, rdL, rdI2, rdW2, ldA_N, stA_N, stB_N, stZ_N, pfZ_0, pfZ_1, rtZ_0, rtZ_1, acp_N, Option.bind_some, wp_some_iff, true_and, and_true, false_and, and_false, or_true, true_or, or_false, false_or, not_true_eq_false, not_false_eq_true, if_true, if_false, if_pos, if_neg, lt_sub, le_sub, sub_lt3, sub_le3]
    exact h.2.1
  · rw [upL_o (by omega)]
    simp (disch := omega) only [i_0, i_1, i_2, i_3, i_4, i_5, i_6, i_7, i_8, i_9, i_10, i_11, i_12, i_13, i_14, i_15, i_16, i_17, i_18, i_19, i_20, i_21, i_22, i_23, i_24, i_25, i_26, i_27, i_31, i_32, i_40, i_42, i_45, i_48, i_51, i_52, i_56, i_58, i_59, i_60, i_61, i_62, i_63, i_64, i_85, i_90, i_100, i_112, i_120, i_121, i_127, i_128, i_130, i_144, i_171, i_192, i_193, i_197, i_200, i_207, i_235, i_240, i_248, i_252, i_254, i_255, i_256, i_512, i_544, i_768, i_769, i_793, i_1000, i_1023, i_1024, i_1200, i_1538, i_1541, i_1545, i_2046, i_2047, i_2049, i_2060, i_2736, i_2737, i_2817, i_2818, i_2819, i_2820, i_2821, i_2831, i_2832, i_3077, i_3085, i_3843, i_3849, i_3851, i_3852, i_4129, i_4353, i_4865, i_5121, i_5122, i_5123, i_6156, i_8192, i_12288, i_16383, i_32000, i_33280, i_49152, i_53247, i_60304, i_64000, i_64512, i_65521, i_65535, i_449838109, nI_add, pk_mul, pk_sub, nI_mm, nI_leI, nI_ltI, nI_eq, pk_div, jrem_N, jshl_N, jshr_N, jushr_N, jmin_N, jmax_N, an_1, an_3, an_7, an_15, an_31, an_63, an_127, an_255, an_1023, an_2047, an_16383, an_65535, nm, pfI, rdI, rdW, rdL, rdI2, rdW2, ldA_N, stA_N, stB_N, stZ_N, pfZ_0, pfZ_1, rtZ_0, rtZ_1, acp_N, Option.bind_some, wp_some_iff, true_and, and_true, false_and, and_false, or_true, true_or, or_false, false_or, not_true_eq_false, not_false_eq_true, if_true, if_false, if_pos, if_neg, lt_sub, le_sub, sub_lt3, sub_le3]
    exact h.2.2
theorem PaM.up {μ : Mem} {z : Nat → Int32} {i : Nat} {x : Int32} (h : PaM μ z) : PaM (setI μ 162 i x) (upL z i x) := by
  intro j a
  by_cases e : j = i
  · subst e
    simp (disch := omega) only [i_0, i_1, i_2, i_3, i_4, i_5, i_6, i_7, i_8, i_9, i_10, i_11, i_12, i_13, i_14, i_15, i_16, i_17, i_18, i_19, i_20, i_21, i_22, i_23, i_24, i_25, i_26, i_27, i_31, i_32, i_40, i_42, i_45, i_48, i_51, i_52, i_56, i_58, i_59, i_60, i_61, i_62, i_63, i_64, i_85, i_90, i_100, i_112, i_120, i_121, i_127, i_128, i_130, i_144, i_171, i_192, i_193, i_197, i_200, i_207, i_235, i_240, i_248, i_252, i_254, i_255, i_256, i_512, i_544, i_768, i_769, i_793, i_1000, i_1023, i_1024, i_1200, i_1538, i_1541, i_1545, i_2046, i_2047, i_2049, i_2060, i_2736, i_2737, i_2817, i_2818, i_2819, i_2820, i_2821, i_2831, i_2832, i_3077, i_3085, i_3843, i_3849, i_3851, i_3852, i_4129, i_4353, i_4865, i_5121, i_5122, i_5123, i_6156, i_8192, i_12288, i_16383, i_32000, i_33280, i_49152, i_53247, i_60304, i_64000, i_64512, i_65521, i_65535, i_449838109, nI_add, pk_mul, pk_sub, nI_mm, nI_leI, nI_ltI, nI_eq, pk_div, jrem_N, jshl_N, jshr_N, jushr_N, jmin_N, jmax_N, an_1, an_3, an_7, an_15, an_31, an_63, an_127, an_255, an_1023, an_2047, an_16383, an_65535, nm, pfI, rdI, rdW, rdL, rdI2, rdW2, ldA_N, stA_N, stB_N, stZ_N, pfZ_0, pfZ_1, rtZ_0, rtZ_1, acp_N, Option.bind_some, wp_some_iff, true_and, and_true, false_and, and_false, or_true, true_or, or_false, false_or, not_true_eq_false, not_false_eq_true, if_true, if_false, if_pos, if_neg, lt_sub, le_sub, sub_lt3, sub_le3, upL_s]
  · rw [upL_o e]
    simp (disch := omega) only [i_0, i_1, i_2, i_3, i_4, i_5, i_6, i_7, i_8, i_9, i_10, i_11, i_12, i_13, i_14, i_15, i_16, i_17, i_18, i_19, i_20, i_21, i_22, i_23, i_24, i_25, i_26, i_27, i_31, i_32, i_40, i_42, i_45, i_48, i_51, i_52, i_56, i_58, i_59, i_60, i_61, i_62, i_63, i_64, i_85, i_90, i_100, i_112, i_120, i_121, i_127, i_128, i_130, i_144, i_171, i_192, i_193, i_197, i_200, i_207, i_235, i_240, i_248, i_252, i_254, i_255, i_256, i_512, i_544, i_768, i_769, i_793, i_1000, i_1023, i_1024, i_1200, i_1538, i_1541, i_1545, i_2046, i_2047, i_2049, i_2060, i_2736, i_2737, i_2817, i_2818, i_2819, i_2820, i_2821, i_2831, i_2832, i_3077, i_3085, i_3843, i_3849, i_3851, i_3852, i_4129, i_4353, i_4865, i_5121, i_5122, i_5123, i_6156, i_8192, i_12288, i_16383, i_32000, i_33280, i_49152, i_53247, i_60304, i_64000, i_64512, i_65521, i_65535, i_449838109, nI_add, pk_mul, pk_sub, nI_mm, nI_leI, nI_ltI, nI_eq, pk_div, jrem_N, jshl_N, jshr_N, jushr_N, jmin_N, jmax_N, an_1, an_3, an_7, an_15, an_31, an_63, an_127, an_255, an_1023, an_2047, an_16383, an_65535, nm, pfI, rdI, rdW, rdL, rdI2, rdW2, ldA_N, stA_N, stB_N, stZ_N, pfZ_0, pfZ_1, rtZ_0, rtZ_1, acp_N, Option.bind_some, wp_some_iff, true_and, and_true, false_and, and_false, or_true, true_or, or_false, false_or, not_true_eq_false, not_false_eq_true, if_true, if_false, if_pos, if_neg, lt_sub, le_sub, sub_lt3, sub_le3]
    exact h j a
def refN (bs : List Nat) (full : Bool) : Nat :=
  if bs.length < 13 then 1 else if w2 bs 4 + 7 = bs.length then
    (if crc (bs.take (bs.length - 2)) = w2 bs (bs.length - 2) then
      (if w2 bs 0 = 6156 then (if bs.getD 6 0 / 16 = 2 then
        (match fsh (bs.getD 7 0) (bs.getD 8 0) with
          | some j => if fit j bs = true then (if full = true then 7 else 0) else 6
          | none => if bs.getD 7 0 ∈ svL then 5 else 4) else 3) else 3) else 2) else 1
def Pkg (bs : List Nat) : Prop := 13 ≤ bs.length ∧ bs.length ≤ 60 ∧ ∃ j, fsh (bs.getD 7 0) (bs.getD 8 0) = some j ∧ fit j bs = true
theorem refN_0 {bs : List Nat} {f : Bool} (h : refN bs f = 0) (hl : bs.length ≤ 60) : Pkg bs ∧ f = false := by
  unfold refN at h
  split at h
  · omega
  · next q1 =>
    split at h
    · split at h
      · split at h
        · split at h
          · split at h
            · next j hj =>
              split at h
              · next q =>
                split at h
                · omega
                · next z => exact ⟨⟨by omega, hl, j, hj, q⟩, by cases f <;> simp_all⟩
              · omega
            · split at h <;> omega
          · omega
        · omega
      · omega
    · omega
theorem refN_lt {bs : List Nat} {f : Bool} : refN bs f < 8 := by
  unfold refN
  repeat' split
  all_goals omega
theorem hi240 : ∀ v, v < 256 → (nI v &&& nI 240 = nI 32 ↔ v / 16 = 2) := by
  have h : (List.range 256).all (fun v => decide (nI v &&& nI 240 = nI 32 ↔ v / 16 = 2)) = true := by decide +kernel
  intro v hv
  exact of_decide_eq_true (List.all_eq_true.mp h v (List.mem_range.mpr hv))
theorem an_8 : ∀ v, v < 256 → (nI v &&& nI 8 = nI 0 ↔ v / 8 % 2 = 0) := by
  have h : (List.range 256).all (fun v => decide (nI v &&& nI 8 = nI 0 ↔ v / 8 % 2 = 0)) = true := by decide +kernel
  intro v hv
  exact of_decide_eq_true (List.all_eq_true.mp h v (List.mem_range.mpr hv))
theorem w2_lt {bs : List Nat} {k : Nat} (h : ∀ b, b ∈ bs → b < 256) : w2 bs k < 65536 := by
  have h1 := getD_lt h k
  have h2 := getD_lt h (k + 1)
  unfold w2
  omega
theorem ref_C {μ : Mem} {bs : List Nat} {rq : List Pk} (hT : Tb μ) (hS : Ts μ) (h : Byt μ 120 bs) (hr : Shf μ 102 rq) (hl : bs.length ≤ 60) (hq : rq.length ≤ 8) : f12 μ = some (μ, nI (refN bs (decide (rq.length = 8)))) := by
  have g : gln (102 + 2) = 8 := gl_104
  have hp := hasPlace_C hr
  unfold f12 refN
  simp (disch := omega) only [i_0, i_1, i_2, i_3, i_4, i_5, i_6, i_7, i_8, i_9, i_10, i_11, i_12, i_13, i_14, i_15, i_16, i_17, i_18, i_19, i_20, i_21, i_22, i_23, i_24, i_25, i_26, i_27, i_31, i_32, i_40, i_42, i_45, i_48, i_51, i_52, i_56, i_58, i_59, i_60, i_61, i_62, i_63, i_64, i_85, i_90, i_100, i_112, i_120, i_121, i_127, i_128, i_130, i_144, i_171, i_192, i_193, i_197, i_200, i_207, i_235, i_240, i_248, i_252, i_254, i_255, i_256, i_512, i_544, i_768, i_769, i_793, i_1000, i_1023, i_1024, i_1200, i_1538, i_1541, i_1545, i_2046, i_2047, i_2049, i_2060, i_2736, i_2737, i_2817, i_2818, i_2819, i_2820, i_2821, i_2831, i_2832, i_3077, i_3085, i_3843, i_3849, i_3851, i_3852, i_4129, i_4353, i_4865, i_5121, i_5122, i_5123, i_6156, i_8192, i_12288, i_16383, i_32000, i_33280, i_49152, i_53247, i_60304, i_64000, i_64512, i_65521, i_65535, i_449838109, nI_add, pk_mul, pk_sub, nI_mm, nI_leI, nI_ltI, nI_eq, pk_div, jrem_N, jshl_N, jshr_N, jushr_N, jmin_N, jmax_N, an_1, an_3, an_7, an_15, an_31, an_63, an_127, an_255, an_1023, an_2047, an_16383, an_65535, nm, pfI, rdI, rdW, rdL, rdI2, rdW2, ldA_N, stA_N, stB_N, stZ_N, pfZ_0, pfZ_1, rtZ_0, rtZ_1, acp_N, Option.bind_some, wp_some_iff, true_and, and_true, false_and, and_false, or_true, true_or, or_false, false_or, not_true_eq_false, not_false_eq_true, if_true, if_false, if_pos, if_neg, lt_sub, le_sub, sub_lt3, sub_le3, h.1]
  by_cases q1 : bs.length < 13
  · rw [if_pos q1, if_pos q1]
  · have e4 := two_ok h (k := 4) (by decide)
    have l4 := w2_lt (k := 4) h.2.2.2
    unfold w2 at l4
    have eN := two_ok h (k := bs.length - 2) (by omega)
    have lN := w2_lt (k := bs.length - 2) h.2.2.2
    have e0 := two_ok h (k := 0) (by decide)
    have l0 := w2_lt (k := 0) h.2.2.2
    have e6 := at_ok h (k := 6) (by decide)
    have hck := checkOf_ok hT h (s := 0) (e := bs.length - 2) (Nat.zero_le _) (Nat.zero_le _) (by omega)
    rw [List.drop_zero] at hck
    have hcl := crc_lt (bs.take (bs.length - 2))
    rw [if_neg q1, if_neg q1]
    rw [show 256 * bs.getD 4 0 + bs.getD (4 + 1) 0 = w2 bs 4 from rfl] at e4 l4
    rw [show 256 * bs.getD (bs.length - 2) 0 + bs.getD (bs.length - 2 + 1) 0 = w2 bs (bs.length - 2) from rfl] at eN
    rw [show 256 * bs.getD 0 0 + bs.getD (0 + 1) 0 = w2 bs 0 from rfl] at e0
    simp (disch := omega) only [i_0, i_1, i_2, i_3, i_4, i_5, i_6, i_7, i_8, i_9, i_10, i_11, i_12, i_13, i_14, i_15, i_16, i_17, i_18, i_19, i_20, i_21, i_22, i_23, i_24, i_25, i_26, i_27, i_31, i_32, i_40, i_42, i_45, i_48, i_51, i_52, i_56, i_58, i_59, i_60, i_61, i_62, i_63, i_64, i_85, i_90, i_100, i_112, i_120, i_121, i_127, i_128, i_130, i_144, i_171, i_192, i_193, i_197, i_200, i_207, i_235, i_240, i_248, i_252, i_254, i_255, i_256, i_512, i_544, i_768, i_769, i_793, i_1000, i_1023, i_1024, i_1200, i_1538, i_1541, i_1545, i_2046, i_2047, i_2049, i_2060, i_2736, i_2737, i_2817, i_2818, i_2819, i_2820, i_2821, i_2831, i_2832, i_3077, i_3085, i_3843, i_3849, i_3851, i_3852, i_4129, i_4353, i_4865, i_5121, i_5122, i_5123, i_6156, i_8192, i_12288, i_16383, i_32000, i_33280, i_49152, i_53247, i_60304, i_64000, i_64512, i_65521, i_65535, i_449838109, nI_add, pk_mul, pk_sub, nI_mm, nI_leI, nI_ltI, nI_eq, pk_div, jrem_N, jshl_N, jshr_N, jushr_N, jmin_N, jmax_N, an_1, an_3, an_7, an_15, an_31, an_63, an_127, an_255, an_1023, an_2047, an_16383, an_65535, nm, pfI, rdI, rdW, rdL, rdI2, rdW2, ldA_N, stA_N, stB_N, stZ_N, pfZ_0, pfZ_1, rtZ_0, rtZ_1, acp_N, Option.bind_some, wp_some_iff, true_and, and_true, false_and, and_false, or_true, true_or, or_false, false_or, not_true_eq_false, not_false_eq_true, if_true, if_false, if_pos, if_neg, lt_sub, le_sub, sub_lt3, sub_le3, e4]
    by_cases q2 : w2 bs 4 + 7 = bs.length
    · rw [if_pos q2, if_pos q2]
      simp (disch := omega) only [i_0, i_1, i_2, i_3, i_4, i_5, i_6, i_7, i_8, i_9, i_10, i_11, i_12, i_13, i_14, i_15, i_16, i_17, i_18, i_19, i_20, i_21, i_22, i_23, i_24, i_25, i_26, i_27, i_31, i_32, i_40, i_42, i_45, i_48, i_51, i_52, i_56, i_58, i_59, i_60, i_61, i_62, i_63, i_64, i_85, i_90, i_100, i_112, i_120, i_121, i_127, i_128, i_130, i_144, i_171, i_192, i_193, i_197, i_200, i_207, i_235, i_240, i_248, i_252, i_254, i_255, i_256, i_512, i_544, i_768, i_769, i_793, i_1000, i_1023, i_1024, i_1200, i_1538, i_1541, i_1545, i_2046, i_2047, i_2049, i_2060, i_2736, i_2737, i_2817, i_2818, i_2819, i_2820, i_2821, i_2831, i_2832, i_3077, i_3085, i_3843, i_3849, i_3851, i_3852, i_4129, i_4353, i_4865, i_5121, i_5122, i_5123, i_6156, i_8192, i_12288, i_16383, i_32000, i_33280, i_49152, i_53247, i_60304, i_64000, i_64512, i_65521, i_65535, i_449838109, nI_add, pk_mul, pk_sub, nI_mm, nI_leI, nI_ltI, nI_eq, pk_div, jrem_N, jshl_N, jshr_N, jushr_N, jmin_N, jmax_N, an_1, an_3, an_7, an_15, an_31, an_63, an_127, an_255, an_1023, an_2047, an_16383, an_65535, nm, pfI, rdI, rdW, rdL, rdI2, rdW2, ldA_N, stA_N, stB_N, stZ_N, pfZ_0, pfZ_1, rtZ_0, rtZ_1, acp_N, Option.bind_some, wp_some_iff, true_and, and_true, false_and, and_false, or_true, true_or, or_false, false_or, not_true_eq_false, not_false_eq_true, if_true, if_false, if_pos, if_neg, lt_sub, le_sub, sub_lt3, sub_le3, hck, eN]
      by_cases q3 : crc (bs.take (bs.length - 2)) = w2 bs (bs.length - 2)
      · rw [if_pos q3, if_pos q3]
        simp (disch := omega) only [i_0, i_1, i_2, i_3, i_4, i_5, i_6, i_7, i_8, i_9, i_10, i_11, i_12, i_13, i_14, i_15, i_16, i_17, i_18, i_19, i_20, i_21, i_22, i_23, i_24, i_25, i_26, i_27, i_31, i_32, i_40, i_42, i_45, i_48, i_51, i_52, i_56, i_58, i_59, i_60, i_61, i_62, i_63, i_64, i_85, i_90, i_100, i_112, i_120, i_121, i_127, i_128, i_130, i_144, i_171, i_192, i_193, i_197, i_200, i_207, i_235, i_240, i_248, i_252, i_254, i_255, i_256, i_512, i_544, i_768, i_769, i_793, i_1000, i_1023, i_1024, i_1200, i_1538, i_1541, i_1545, i_2046, i_2047, i_2049, i_2060, i_2736, i_2737, i_2817, i_2818, i_2819, i_2820, i_2821, i_2831, i_2832, i_3077, i_3085, i_3843, i_3849, i_3851, i_3852, i_4129, i_4353, i_4865, i_5121, i_5122, i_5123, i_6156, i_8192, i_12288, i_16383, i_32000, i_33280, i_49152, i_53247, i_60304, i_64000, i_64512, i_65521, i_65535, i_449838109, nI_add, pk_mul, pk_sub, nI_mm, nI_leI, nI_ltI, nI_eq, pk_div, jrem_N, jshl_N, jshr_N, jushr_N, jmin_N, jmax_N, an_1, an_3, an_7, an_15, an_31, an_63, an_127, an_255, an_1023, an_2047, an_16383, an_65535, nm, pfI, rdI, rdW, rdL, rdI2, rdW2, ldA_N, stA_N, stB_N, stZ_N, pfZ_0, pfZ_1, rtZ_0, rtZ_1, acp_N, Option.bind_some, wp_some_iff, true_and, and_true, false_and, and_false, or_true, true_or, or_false, false_or, not_true_eq_false, not_false_eq_true, if_true, if_false, if_pos, if_neg, lt_sub, le_sub, sub_lt3, sub_le3, e0]
        by_cases q4 : w2 bs 0 = 6156
        · rw [if_pos q4, if_pos q4]
          simp (disch := omega) only [i_0, i_1, i_2, i_3, i_4, i_5, i_6, i_7, i_8, i_9, i_10, i_11, i_12, i_13, i_14, i_15, i_16, i_17, i_18, i_19, i_20, i_21, i_22, i_23, i_24, i_25, i_26, i_27, i_31, i_32, i_40, i_42, i_45, i_48, i_51, i_52, i_56, i_58, i_59, i_60, i_61, i_62, i_63, i_64, i_85, i_90, i_100, i_112, i_120, i_121, i_127, i_128, i_130, i_144, i_171, i_192, i_193, i_197, i_200, i_207, i_235, i_240, i_248, i_252, i_254, i_255, i_256, i_512, i_544, i_768, i_769, i_793, i_1000, i_1023, i_1024, i_1200, i_1538, i_1541, i_1545, i_2046, i_2047, i_2049, i_2060, i_2736, i_2737, i_2817, i_2818, i_2819, i_2820, i_2821, i_2831, i_2832, i_3077, i_3085, i_3843, i_3849, i_3851, i_3852, i_4129, i_4353, i_4865, i_5121, i_5122, i_5123, i_6156, i_8192, i_12288, i_16383, i_32000, i_33280, i_49152, i_53247, i_60304, i_64000, i_64512, i_65521, i_65535, i_449838109, nI_add, pk_mul, pk_sub, nI_mm, nI_leI, nI_ltI, nI_eq, pk_div, jrem_N, jshl_N, jshr_N, jushr_N, jmin_N, jmax_N, an_1, an_3, an_7, an_15, an_31, an_63, an_127, an_255, an_1023, an_2047, an_16383, an_65535, nm, pfI, rdI, rdW, rdL, rdI2, rdW2, ldA_N, stA_N, stB_N, stZ_N, pfZ_0, pfZ_1, rtZ_0, rtZ_1, acp_N, Option.bind_some, wp_some_iff, true_and, and_true, false_and, and_false, or_true, true_or, or_false, false_or, not_true_eq_false, not_false_eq_true, if_true, if_false, if_pos, if_neg, lt_sub, le_sub, sub_lt3, sub_le3, e6, hi240 _ (h.get 6)]
          by_cases q5 : bs.getD 6 0 / 16 = 2
          · rw [if_pos q5, if_pos q5]
            simp (disch := omega) only [i_0, i_1, i_2, i_3, i_4, i_5, i_6, i_7, i_8, i_9, i_10, i_11, i_12, i_13, i_14, i_15, i_16, i_17, i_18, i_19, i_20, i_21, i_22, i_23, i_24, i_25, i_26, i_27, i_31, i_32, i_40, i_42, i_45, i_48, i_51, i_52, i_56, i_58, i_59, i_60, i_61, i_62, i_63, i_64, i_85, i_90, i_100, i_112, i_120, i_121, i_127, i_128, i_130, i_144, i_171, i_192, i_193, i_197, i_200, i_207, i_235, i_240, i_248, i_252, i_254, i_255, i_256, i_512, i_544, i_768, i_769, i_793, i_1000, i_1023, i_1024, i_1200, i_1538, i_1541, i_1545, i_2046, i_2047, i_2049, i_2060, i_2736, i_2737, i_2817, i_2818, i_2819, i_2820, i_2821, i_2831, i_2832, i_3077, i_3085, i_3843, i_3849, i_3851, i_3852, i_4129, i_4353, i_4865, i_5121, i_5122, i_5123, i_6156, i_8192, i_12288, i_16383, i_32000, i_33280, i_49152, i_53247, i_60304, i_64000, i_64512, i_65521, i_65535, i_449838109, nI_add, pk_mul, pk_sub, nI_mm, nI_leI, nI_ltI, nI_eq, pk_div, jrem_N, jshl_N, jshr_N, jushr_N, jmin_N, jmax_N, an_1, an_3, an_7, an_15, an_31, an_63, an_127, an_255, an_1023, an_2047, an_16383, an_65535, nm, pfI, rdI, rdW, rdL, rdI2, rdW2, ldA_N, stA_N, stB_N, stZ_N, pfZ_0, pfZ_1, rtZ_0, rtZ_1, acp_N, Option.bind_some, wp_some_iff, true_and, and_true, false_and, and_false, or_true, true_or, or_false, false_or, not_true_eq_false, not_false_eq_true, if_true, if_false, if_pos, if_neg, lt_sub, le_sub, sub_lt3, sub_le3, shape_C hS h]
            unfold shV
            cases e : fsh (bs.getD 7 0) (bs.getD 8 0) with
            | none =>
              dsimp only
              by_cases q6 : bs.getD 7 0 ∈ svL
              · rw [if_pos q6, if_pos q6, if_neg (by decide)]
                rfl
              · rw [if_neg q6, if_neg q6, if_neg (by decide)]
                rfl
            | some j =>
              obtain ⟨j1, j2, j3⟩ := fsh_of e
              dsimp only
              have hf1 := fit1_C hS h j1 (by omega) hl
              have hrg := rng_C h
              rw [show w2 bs 7 = 256 * svc j + sbc j by rw [j2, j3]; rfl] at hrg
              unfold fit
              simp (disch := omega) only [i_0, i_1, i_2, i_3, i_4, i_5, i_6, i_7, i_8, i_9, i_10, i_11, i_12, i_13, i_14, i_15, i_16, i_17, i_18, i_19, i_20, i_21, i_22, i_23, i_24, i_25, i_26, i_27, i_31, i_32, i_40, i_42, i_45, i_48, i_51, i_52, i_56, i_58, i_59, i_60, i_61, i_62, i_63, i_64, i_85, i_90, i_100, i_112, i_120, i_121, i_127, i_128, i_130, i_144, i_171, i_192, i_193, i_197, i_200, i_207, i_235, i_240, i_248, i_252, i_254, i_255, i_256, i_512, i_544, i_768, i_769, i_793, i_1000, i_1023, i_1024, i_1200, i_1538, i_1541, i_1545, i_2046, i_2047, i_2049, i_2060, i_2736, i_2737, i_2817, i_2818, i_2819, i_2820, i_2821, i_2831, i_2832, i_3077, i_3085, i_3843, i_3849, i_3851, i_3852, i_4129, i_4353, i_4865, i_5121, i_5122, i_5123, i_6156, i_8192, i_12288, i_16383, i_32000, i_33280, i_49152, i_53247, i_60304, i_64000, i_64512, i_65521, i_65535, i_449838109, nI_add, pk_mul, pk_sub, nI_mm, nI_leI, nI_ltI, nI_eq, pk_div, jrem_N, jshl_N, jshr_N, jushr_N, jmin_N, jmax_N, an_1, an_3, an_7, an_15, an_31, an_63, an_127, an_255, an_1023, an_2047, an_16383, an_65535, nm, pfI, rdI, rdW, rdL, rdI2, rdW2, ldA_N, stA_N, stB_N, stZ_N, pfZ_0, pfZ_1, rtZ_0, rtZ_1, acp_N, Option.bind_some, wp_some_iff, true_and, and_true, false_and, and_false, or_true, true_or, or_false, false_or, not_true_eq_false, not_false_eq_true, if_true, if_false, if_pos, if_neg, lt_sub, le_sub, sub_lt3, sub_le3, hf1]
              cases fit1 j bs
              · simp (disch := omega) only [i_0, i_1, i_2, i_3, i_4, i_5, i_6, i_7, i_8, i_9, i_10, i_11, i_12, i_13, i_14, i_15, i_16, i_17, i_18, i_19, i_20, i_21, i_22, i_23, i_24, i_25, i_26, i_27, i_31, i_32, i_40, i_42, i_45, i_48, i_51, i_52, i_56, i_58, i_59, i_60, i_61, i_62, i_63, i_64, i_85, i_90, i_100, i_112, i_120, i_121, i_127, i_128, i_130, i_144, i_171, i_192, i_193, i_197, i_200, i_207, i_235, i_240, i_248, i_252, i_254, i_255, i_256, i_512, i_544, i_768, i_769, i_793, i_1000, i_1023, i_1024, i_1200, i_1538, i_1541, i_1545, i_2046, i_2047, i_2049, i_2060, i_2736, i_2737, i_2817, i_2818, i_2819, i_2820, i_2821, i_2831, i_2832, i_3077, i_3085, i_3843, i_3849, i_3851, i_3852, i_4129, i_4353, i_4865, i_5121, i_5122, i_5123, i_6156, i_8192, i_12288, i_16383, i_32000, i_33280, i_49152, i_53247, i_60304, i_64000, i_64512, i_65521, i_65535, i_449838109, nI_add, pk_mul, pk_sub, nI_mm, nI_leI, nI_ltI, nI_eq, pk_div, jrem_N, jshl_N, jshr_N, jushr_N, jmin_N, jmax_N, an_1, an_3, an_7, an_15, an_31, an_63, an_127, an_255, an_1023, an_2047, an_16383, an_65535, nm, pfI, rdI, rdW, rdL, rdI2, rdW2, ldA_N, stA_N, stB_N, stZ_N, pfZ_0, pfZ_1, rtZ_0, rtZ_1, acp_N, Option.bind_some, wp_some_iff, true_and, and_true, false_and, and_false, or_true, true_or, or_false, false_or, not_true_eq_false, not_false_eq_true, if_true, if_false, if_pos, if_neg, lt_sub, le_sub, sub_lt3, sub_le3, b2n_f, Bool.false_and, Bool.false_eq_true]
              · simp (disch := omega) only [i_0, i_1, i_2, i_3, i_4, i_5, i_6, i_7, i_8, i_9, i_10, i_11, i_12, i_13, i_14, i_15, i_16, i_17, i_18, i_19, i_20, i_21, i_22, i_23, i_24, i_25, i_26, i_27, i_31, i_32, i_40, i_42, i_45, i_48, i_51, i_52, i_56, i_58, i_59, i_60, i_61, i_62, i_63, i_64, i_85, i_90, i_100, i_112, i_120, i_121, i_127, i_128, i_130, i_144, i_171, i_192, i_193, i_197, i_200, i_207, i_235, i_240, i_248, i_252, i_254, i_255, i_256, i_512, i_544, i_768, i_769, i_793, i_1000, i_1023, i_1024, i_1200, i_1538, i_1541, i_1545, i_2046, i_2047, i_2049, i_2060, i_2736, i_2737, i_2817, i_2818, i_2819, i_2820, i_2821, i_2831, i_2832, i_3077, i_3085, i_3843, i_3849, i_3851, i_3852, i_4129, i_4353, i_4865, i_5121, i_5122, i_5123, i_6156, i_8192, i_12288, i_16383, i_32000, i_33280, i_49152, i_53247, i_60304, i_64000, i_64512, i_65521, i_65535, i_449838109, nI_add, pk_mul, pk_sub, nI_mm, nI_leI, nI_ltI, nI_eq, pk_div, jrem_N, jshl_N, jshr_N, jushr_N, jmin_N, jmax_N, an_1, an_3, an_7, an_15, an_31, an_63, an_127, an_255, an_1023, an_2047, an_16383, an_65535, nm, pfI, rdI, rdW, rdL, rdI2, rdW2, ldA_N, stA_N, stB_N, stZ_N, pfZ_0, pfZ_1, rtZ_0, rtZ_1, acp_N, Option.bind_some, wp_some_iff, true_and, and_true, false_and, and_false, or_true, true_or, or_false, false_or, not_true_eq_false, not_false_eq_true, if_true, if_false, if_pos, if_neg, lt_sub, le_sub, sub_lt3, sub_le3, b2n_t, Bool.true_and, hrg]
                cases rng (256 * svc j + sbc j) bs
                · simp (disch := omega) only [i_0, i_1, i_2, i_3, i_4, i_5, i_6, i_7, i_8, i_9, i_10, i_11, i_12, i_13, i_14, i_15, i_16, i_17, i_18, i_19, i_20, i_21, i_22, i_23, i_24, i_25, i_26, i_27, i_31, i_32, i_40, i_42, i_45, i_48, i_51, i_52, i_56, i_58, i_59, i_60, i_61, i_62, i_63, i_64, i_85, i_90, i_100, i_112, i_120, i_121, i_127, i_128, i_130, i_144, i_171, i_192, i_193, i_197, i_200, i_207, i_235, i_240, i_248, i_252, i_254, i_255, i_256, i_512, i_544, i_768, i_769, i_793, i_1000, i_1023, i_1024, i_1200, i_1538, i_1541, i_1545, i_2046, i_2047, i_2049, i_2060, i_2736, i_2737, i_2817, i_2818, i_2819, i_2820, i_2821, i_2831, i_2832, i_3077, i_3085, i_3843, i_3849, i_3851, i_3852, i_4129, i_4353, i_4865, i_5121, i_5122, i_5123, i_6156, i_8192, i_12288, i_16383, i_32000, i_33280, i_49152, i_53247, i_60304, i_64000, i_64512, i_65521, i_65535, i_449838109, nI_add, pk_mul, pk_sub, nI_mm, nI_leI, nI_ltI, nI_eq, pk_div, jrem_N, jshl_N, jshr_N, jushr_N, jmin_N, jmax_N, an_1, an_3, an_7, an_15, an_31, an_63, an_127, an_255, an_1023, an_2047, an_16383, an_65535, nm, pfI, rdI, rdW, rdL, rdI2, rdW2, ldA_N, stA_N, stB_N, stZ_N, pfZ_0, pfZ_1, rtZ_0, rtZ_1, acp_N, Option.bind_some, wp_some_iff, true_and, and_true, false_and, and_false, or_true, true_or, or_false, false_or, not_true_eq_false, not_false_eq_true, if_true, if_false, if_pos, if_neg, lt_sub, le_sub, sub_lt3, sub_le3, b2n_f, Bool.false_eq_true]
                · simp (disch := omega) only [i_0, i_1, i_2, i_3, i_4, i_5, i_6, i_7, i_8, i_9, i_10, i_11, i_12, i_13, i_14, i_15, i_16, i_17, i_18, i_19, i_20, i_21, i_22, i_23, i_24, i_25, i_26, i_27, i_31, i_32, i_40, i_42, i_45, i_48, i_51, i_52, i_56, i_58, i_59, i_60, i_61, i_62, i_63, i_64, i_85, i_90, i_100, i_112, i_120, i_121, i_127, i_128, i_130, i_144, i_171, i_192, i_193, i_197, i_200, i_207, i_235, i_240, i_248, i_252, i_254, i_255, i_256, i_512, i_544, i_768, i_769, i_793, i_1000, i_1023, i_1024, i_1200, i_1538, i_1541, i_1545, i_2046, i_2047, i_2049, i_2060, i_2736, i_2737, i_2817, i_2818, i_2819, i_2820, i_2821, i_2831, i_2832, i_3077, i_3085, i_3843, i_3849, i_3851, i_3852, i_4129, i_4353, i_4865, i_5121, i_5122, i_5123, i_6156, i_8192, i_12288, i_16383, i_32000, i_33280, i_49152, i_53247, i_60304, i_64000, i_64512, i_65521, i_65535, i_449838109, nI_add, pk_mul, pk_sub, nI_mm, nI_leI, nI_ltI, nI_eq, pk_div, jrem_N, jshl_N, jshr_N, jushr_N, jmin_N, jmax_N, an_1, an_3, an_7, an_15, an_31, an_63, an_127, an_255, an_1023, an_2047, an_16383, an_65535, nm, pfI, rdI, rdW, rdL, rdI2, rdW2, ldA_N, stA_N, stB_N, stZ_N, pfZ_0, pfZ_1, rtZ_0, rtZ_1, acp_N, Option.bind_some, wp_some_iff, true_and, and_true, false_and, and_false, or_true, true_or, or_false, false_or, not_true_eq_false, not_false_eq_true, if_true, if_false, if_pos, if_neg, lt_sub, le_sub, sub_lt3, sub_le3, b2n_t, hp]
                  by_cases q8 : rq.length = 8
                  · rw [decide_eq_true q8, decide_eq_false (by omega)]
                    rfl
                  · rw [decide_eq_false q8, decide_eq_true (by omega)]
                    rfl
          · rw [if_neg q5, if_neg q5]
        · rw [if_neg q4, if_neg q4]
      · rw [if_neg q3, if_neg q3]
    · rw [if_neg q2, if_neg q2]
def RqM (μ : Mem) (rq : List Pk) : Prop := μ.1 129 104 = nI rq.length ∧ QF μ 179 180 64 0 rq.length (fun i => (pk rq i).1) ∧ TF μ 181 0 rq.length (fun i => (pk rq i).2.1)
theorem RqM.fr {μ m : Mem} {rq : List Pk} {P : Nat → Nat → Prop} (h : RqM μ rq) (ho : Fr P μ m) (h0 : ¬ P 129 104) (h1 : ∀ c k, 179 ≤ c → c ≤ 181 → ¬ P c k) : RqM m rq :=
  ⟨by rw [ho.1 _ _ h0]; exact h.1, h.2.1.fr ho (fun k => h1 _ k (by decide) (by decide)) (fun k => h1 _ k (by decide) (by decide)), h.2.2.fr ho (fun k => h1 _ k (by decide) (by decide))⟩
/-- the packet that the reference looks at -/
def PkM (μ : Mem) (bs : List Nat) : Prop := μ.1 129 27 = nI bs.length ∧ Seg μ 140 0 bs
theorem PkM.fr {μ m : Mem} {bs : List Nat} {P : Nat → Nat → Prop} (h : PkM μ bs) (ho : Fr P μ m) (h0 : ¬ P 129 27) (h1 : ∀ k, ¬ P 140 k) : PkM m bs := ⟨by rw [ho.1 _ _ h0]; exact h.1, h.2.fr ho h1⟩
theorem sh4 {v : Nat} (hv : v < 256) : jshr (nI v) (nI 4) = nI (v / 16) := by
  simp (disch := omega) only [i_0, i_1, i_2, i_3, i_4, i_5, i_6, i_7, i_8, i_9, i_10, i_11, i_12, i_13, i_14, i_15, i_16, i_17, i_18, i_19, i_20, i_21, i_22, i_23, i_24, i_25, i_26, i_27, i_31, i_32, i_40, i_42, i_45, i_48, i_51, i_52, i_56, i_58, i_59, i_60, i_61, i_62, i_63, i_64, i_85, i_90, i_100, i_112, i_120, i_121, i_127, i_128, i_130, i_144, i_171, i_192, i_193, i_197, i_200, i_207, i_235, i_240, i_248, i_252, i_254, i_255, i_256, i_512, i_544, i_768, i_769, i_793, i_1000, i_1023, i_1024, i_1200, i_1538, i_1541, i_1545, i_2046, i_2047, i_2049, i_2060, i_2736, i_2737, i_2817, i_2818, i_2819, i_2820, i_2821, i_2831, i_2832, i_3077, i_3085, i_3843, i_3849, i_3851, i_3852, i_4129, i_4353, i_4865, i_5121, i_5122, i_5123, i_6156, i_8192, i_12288, i_16383, i_32000, i_33280, i_49152, i_53247, i_60304, i_64000, i_64512, i_65521, i_65535, i_449838109, nI_add, pk_mul, pk_sub, nI_mm, nI_leI, nI_ltI, nI_eq, pk_div, jrem_N, jshl_N, jshr_N, jushr_N, jmin_N, jmax_N, an_1, an_3, an_7, an_15, an_31, an_63, an_127, an_255, an_1023, an_2047, an_16383, an_65535, lt_sub, le_sub, sub_lt3, sub_le3]
theorem ref_M {μ : Mem} {bs : List Nat} {rq : List Pk} (h : PkM μ bs) (hr : RqM μ rq) (hl : bs.length ≤ 60) (hq : rq.length ≤ 8) : f316 μ = some (μ, nI (refN bs (decide (rq.length = 8)))) := by
  have g := gl_140
  obtain ⟨h1, h2⟩ := h
  unfold f316
  by_cases q1 : bs.length < 13
  · refine ite_yes (by rw [h1, i_13, nI_ltI (by omega) (by omega)]; exact q1) ?_
    unfold refN
    rw [if_pos q1]
    rfl
  · have e4 := word_M h2 (i := 4) (by omega) (by omega)
    have eN := word_M h2 (i := bs.length - 2) (by omega) (by omega)
    rw [Nat.zero_add] at e4 eN
    have l4 := w2_lt (k := 4) h2.2
    have lN := w2_lt (k := bs.length - 2) h2.2
    have hseg : Seg μ 140 0 (bs.take (bs.length - 2)) := h2.take
    have htl : (bs.take (bs.length - 2)).length = bs.length - 2 := by rw [List.length_take]; omega
    have hck := mcheck_ok hseg (by rw [htl]; omega) (by rw [htl]; omega)
    rw [htl] at hck
    have hcl := crc_lt (bs.take (bs.length - 2))
    have z0 := h2.z (i := 0) (by omega)
    have z1 := h2.z (i := 1) (by omega)
    have z6 := h2.z (i := 6) (by omega)
    have z7 := h2.z (i := 7) (by omega)
    have z8 := h2.z (i := 8) (by omega)
    have b0 := h2.get 0
    have b1 := h2.get 1
    have b6 := h2.get 6
    have b7 := h2.get 7
    have b8 := h2.get 8
    refine ite_no (by rw [h1, i_13, nI_ltI (by omega) (by omega)]; exact q1) ?_
    unfold refN
    rw [if_neg q1, i_4, e4, Option.bind_some]
    dsimp only
    by_cases q2 : w2 bs 4 + 7 = bs.length
    · rw [if_pos q2]
      refine ite_yes (by rw [h1, i_7, nI_add, q2]) ?_
      rw [h1]
      simp (maxSteps := 600000) (disch := omega) only [i_0, i_1, i_2, i_3, i_4, i_5, i_6, i_7, i_8, i_9, i_10, i_11, i_12, i_13, i_14, i_15, i_16, i_17, i_18, i_19, i_20, i_21, i_22, i_23, i_24, i_25, i_26, i_27, i_31, i_32, i_40, i_42, i_45, i_48, i_51, i_52, i_56, i_58, i_59, i_60, i_61, i_62, i_63, i_64, i_85, i_90, i_100, i_112, i_120, i_121, i_127, i_128, i_130, i_144, i_171, i_192, i_193, i_197, i_200, i_207, i_235, i_240, i_248, i_252, i_254, i_255, i_256, i_512, i_544, i_768, i_769, i_793, i_1000, i_1023, i_1024, i_1200, i_1538, i_1541, i_1545, i_2046, i_2047, i_2049, i_2060, i_2736, i_2737, i_2817, i_2818, i_2819, i_2820, i_2821, i_2831, i_2832, i_3077, i_3085, i_3843, i_3849, i_3851, i_3852, i_4129, i_4353, i_4865, i_5121, i_5122, i_5123, i_6156, i_8192, i_12288, i_16383, i_32000, i_33280, i_49152, i_53247, i_60304, i_64000, i_64512, i_65521, i_65535, i_449838109, nI_add, pk_mul, pk_sub, nI_mm, nI_leI, nI_ltI, nI_eq, pk_div, jrem_N, jshl_N, jshr_N, jushr_N, jmin_N, jmax_N, an_1, an_3, an_7, an_15, an_31, an_63, an_127, an_255, an_1023, an_2047, an_16383, an_65535, nm, pfI, rdI, rdW, rdL, rdI2, rdW2, ldA_N, stA_N, stB_N, stZ_N, pfZ_0, pfZ_1, rtZ_0, rtZ_1, acp_N, Option.bind_some, wp_some_iff, true_and, and_true, false_and, and_false, or_true, true_or, or_false, false_or, not_true_eq_false, not_false_eq_true, if_true, if_false, if_pos, if_neg, lt_sub, le_sub, sub_lt3, sub_le3, hck, eN]
      by_cases q3 : crc (bs.take (bs.length - 2)) = w2 bs (bs.length - 2)
      · rw [if_pos q3, if_pos q3]
        simp (disch := omega) only [i_0, i_1, i_2, i_3, i_4, i_5, i_6, i_7, i_8, i_9, i_10, i_11, i_12, i_13, i_14, i_15, i_16, i_17, i_18, i_19, i_20, i_21, i_22, i_23, i_24, i_25, i_26, i_27, i_31, i_32, i_40, i_42, i_45, i_48, i_51, i_52, i_56, i_58, i_59, i_60, i_61, i_62, i_63, i_64, i_85, i_90, i_100, i_112, i_120, i_121, i_127, i_128, i_130, i_144, i_171, i_192, i_193, i_197, i_200, i_207, i_235, i_240, i_248, i_252, i_254, i_255, i_256, i_512, i_544, i_768, i_769, i_793, i_1000, i_1023, i_1024, i_1200, i_1538, i_1541, i_1545, i_2046, i_2047, i_2049, i_2060, i_2736, i_2737, i_2817, i_2818, i_2819, i_2820, i_2821, i_2831, i_2832, i_3077, i_3085, i_3843, i_3849, i_3851, i_3852, i_4129, i_4353, i_4865, i_5121, i_5122, i_5123, i_6156, i_8192, i_12288, i_16383, i_32000, i_33280, i_49152, i_53247, i_60304, i_64000, i_64512, i_65521, i_65535, i_449838109, nI_add, pk_mul, pk_sub, nI_mm, nI_leI, nI_ltI, nI_eq, pk_div, jrem_N, jshl_N, jshr_N, jushr_N, jmin_N, jmax_N, an_1, an_3, an_7, an_15, an_31, an_63, an_127, an_255, an_1023, an_2047, an_16383, an_65535, nm, pfI, rdI, rdW, rdL, rdI2, rdW2, ldA_N, stA_N, stB_N, stZ_N, pfZ_0, pfZ_1, rtZ_0, rtZ_1, acp_N, Option.bind_some, wp_some_iff, true_and, and_true, false_and, and_false, or_true, true_or, or_false, false_or, not_true_eq_false, not_false_eq_true, if_true, if_false, if_pos, if_neg, lt_sub, le_sub, sub_lt3, sub_le3, z0, z1, z6, sh4 b6]
        have w0 : w2 bs 0 = 256 * bs.getD 0 0 + bs.getD 1 0 := rfl
        by_cases q4 : w2 bs 0 = 6156
        · rw [if_pos q4, if_pos (by omega), if_pos (by omega)]
          by_cases q5 : bs.getD 6 0 / 16 = 2
          · rw [if_pos q5, if_pos q5]
            simp (disch := omega) only [i_0, i_1, i_2, i_3, i_4, i_5, i_6, i_7, i_8, i_9, i_10, i_11, i_12, i_13, i_14, i_15, i_16, i_17, i_18, i_19, i_20, i_21, i_22, i_23, i_24, i_25, i_26, i_27, i_31, i_32, i_40, i_42, i_45, i_48, i_51, i_52, i_56, i_58, i_59, i_60, i_61, i_62, i_63, i_64, i_85, i_90, i_100, i_112, i_120, i_121, i_127, i_128, i_130, i_144, i_171, i_192, i_193, i_197, i_200, i_207, i_235, i_240, i_248, i_252, i_254, i_255, i_256, i_512, i_544, i_768, i_769, i_793, i_1000, i_1023, i_1024, i_1200, i_1538, i_1541, i_1545, i_2046, i_2047, i_2049, i_2060, i_2736, i_2737, i_2817, i_2818, i_2819, i_2820, i_2821, i_2831, i_2832, i_3077, i_3085, i_3843, i_3849, i_3851, i_3852, i_4129, i_4353, i_4865, i_5121, i_5122, i_5123, i_6156, i_8192, i_12288, i_16383, i_32000, i_33280, i_49152, i_53247, i_60304, i_64000, i_64512, i_65521, i_65535, i_449838109, nI_add, pk_mul, pk_sub, nI_mm, nI_leI, nI_ltI, nI_eq, pk_div, jrem_N, jshl_N, jshr_N, jushr_N, jmin_N, jmax_N, an_1, an_3, an_7, an_15, an_31, an_63, an_127, an_255, an_1023, an_2047, an_16383, an_65535, nm, pfI, rdI, rdW, rdL, rdI2, rdW2, ldA_N, stA_N, stB_N, stZ_N, pfZ_0, pfZ_1, rtZ_0, rtZ_1, acp_N, Option.bind_some, wp_some_iff, true_and, and_true, false_and, and_false, or_true, true_or, or_false, false_or, not_true_eq_false, not_false_eq_true, if_true, if_false, if_pos, if_neg, lt_sub, le_sub, sub_lt3, sub_le3, z7, z8, isSv b7]
            by_cases q6 : bs.getD 7 0 ∈ svL
            · rw [decide_eq_true q6]
              simp (disch := omega) only [i_0, i_1, i_2, i_3, i_4, i_5, i_6, i_7, i_8, i_9, i_10, i_11, i_12, i_13, i_14, i_15, i_16, i_17, i_18, i_19, i_20, i_21, i_22, i_23, i_24, i_25, i_26, i_27, i_31, i_32, i_40, i_42, i_45, i_48, i_51, i_52, i_56, i_58, i_59, i_60, i_61, i_62, i_63, i_64, i_85, i_90, i_100, i_112, i_120, i_121, i_127, i_128, i_130, i_144, i_171, i_192, i_193, i_197, i_200, i_207, i_235, i_240, i_248, i_252, i_254, i_255, i_256, i_512, i_544, i_768, i_769, i_793, i_1000, i_1023, i_1024, i_1200, i_1538, i_1541, i_1545, i_2046, i_2047, i_2049, i_2060, i_2736, i_2737, i_2817, i_2818, i_2819, i_2820, i_2821, i_2831, i_2832, i_3077, i_3085, i_3843, i_3849, i_3851, i_3852, i_4129, i_4353, i_4865, i_5121, i_5122, i_5123, i_6156, i_8192, i_12288, i_16383, i_32000, i_33280, i_49152, i_53247, i_60304, i_64000, i_64512, i_65521, i_65535, i_449838109, nI_add, pk_mul, pk_sub, nI_mm, nI_leI, nI_ltI, nI_eq, pk_div, jrem_N, jshl_N, jshr_N, jushr_N, jmin_N, jmax_N, an_1, an_3, an_7, an_15, an_31, an_63, an_127, an_255, an_1023, an_2047, an_16383, an_65535, nm, pfI, rdI, rdW, rdL, rdI2, rdW2, ldA_N, stA_N, stB_N, stZ_N, pfZ_0, pfZ_1, rtZ_0, rtZ_1, acp_N, Option.bind_some, wp_some_iff, true_and, and_true, false_and, and_false, or_true, true_or, or_false, false_or, not_true_eq_false, not_false_eq_true, if_true, if_false, if_pos, if_neg, lt_sub, le_sub, sub_lt3, sub_le3, b2n_t, isSub q6 b8]
              cases e : fsh (bs.getD 7 0) (bs.getD 8 0) with
              | none =>
                simp (disch := omega) only [i_0, i_1, i_2, i_3, i_4, i_5, i_6, i_7, i_8, i_9, i_10, i_11, i_12, i_13, i_14, i_15, i_16, i_17, i_18, i_19, i_20, i_21, i_22, i_23, i_24, i_25, i_26, i_27, i_31, i_32, i_40, i_42, i_45, i_48, i_51, i_52, i_56, i_58, i_59, i_60, i_61, i_62, i_63, i_64, i_85, i_90, i_100, i_112, i_120, i_121, i_127, i_128, i_130, i_144, i_171, i_192, i_193, i_197, i_200, i_207, i_235, i_240, i_248, i_252, i_254, i_255, i_256, i_512, i_544, i_768, i_769, i_793, i_1000, i_1023, i_1024, i_1200, i_1538, i_1541, i_1545, i_2046, i_2047, i_2049, i_2060, i_2736, i_2737, i_2817, i_2818, i_2819, i_2820, i_2821, i_2831, i_2832, i_3077, i_3085, i_3843, i_3849, i_3851, i_3852, i_4129, i_4353, i_4865, i_5121, i_5122, i_5123, i_6156, i_8192, i_12288, i_16383, i_32000, i_33280, i_49152, i_53247, i_60304, i_64000, i_64512, i_65521, i_65535, i_449838109, nI_add, pk_mul, pk_sub, nI_mm, nI_leI, nI_ltI, nI_eq, pk_div, jrem_N, jshl_N, jshr_N, jushr_N, jmin_N, jmax_N, an_1, an_3, an_7, an_15, an_31, an_63, an_127, an_255, an_1023, an_2047, an_16383, an_65535, nm, pfI, rdI, rdW, rdL, rdI2, rdW2, ldA_N, stA_N, stB_N, stZ_N, pfZ_0, pfZ_1, rtZ_0, rtZ_1, acp_N, Option.bind_some, wp_some_iff, true_and, and_true, false_and, and_false, or_true, true_or, or_false, false_or, not_true_eq_false, not_false_eq_true, if_true, if_false, if_pos, if_neg, lt_sub, le_sub, sub_lt3, sub_le3, Option.isSome_none, b2n_f, q6]
              | some j =>
                obtain ⟨j1, j2, j3⟩ := fsh_of e
                have hD := isD_M j1 h2 (by omega) hl
                rw [j2, j3] at hD
                simp (disch := omega) only [i_0, i_1, i_2, i_3, i_4, i_5, i_6, i_7, i_8, i_9, i_10, i_11, i_12, i_13, i_14, i_15, i_16, i_17, i_18, i_19, i_20, i_21, i_22, i_23, i_24, i_25, i_26, i_27, i_31, i_32, i_40, i_42, i_45, i_48, i_51, i_52, i_56, i_58, i_59, i_60, i_61, i_62, i_63, i_64, i_85, i_90, i_100, i_112, i_120, i_121, i_127, i_128, i_130, i_144, i_171, i_192, i_193, i_197, i_200, i_207, i_235, i_240, i_248, i_252, i_254, i_255, i_256, i_512, i_544, i_768, i_769, i_793, i_1000, i_1023, i_1024, i_1200, i_1538, i_1541, i_1545, i_2046, i_2047, i_2049, i_2060, i_2736, i_2737, i_2817, i_2818, i_2819, i_2820, i_2821, i_2831, i_2832, i_3077, i_3085, i_3843, i_3849, i_3851, i_3852, i_4129, i_4353, i_4865, i_5121, i_5122, i_5123, i_6156, i_8192, i_12288, i_16383, i_32000, i_33280, i_49152, i_53247, i_60304, i_64000, i_64512, i_65521, i_65535, i_449838109, nI_add, pk_mul, pk_sub, nI_mm, nI_leI, nI_ltI, nI_eq, pk_div, jrem_N, jshl_N, jshr_N, jushr_N, jmin_N, jmax_N, an_1, an_3, an_7, an_15, an_31, an_63, an_127, an_255, an_1023, an_2047, an_16383, an_65535, nm, pfI, rdI, rdW, rdL, rdI2, rdW2, ldA_N, stA_N, stB_N, stZ_N, pfZ_0, pfZ_1, rtZ_0, rtZ_1, acp_N, Option.bind_some, wp_some_iff, true_and, and_true, false_and, and_false, or_true, true_or, or_false, false_or, not_true_eq_false, not_false_eq_true, if_true, if_false, if_pos, if_neg, lt_sub, le_sub, sub_lt3, sub_le3, Option.isSome_some, b2n_t, z7, z8, hD]
                cases fit j bs
                · simp (disch := omega) only [i_0, i_1, i_2, i_3, i_4, i_5, i_6, i_7, i_8, i_9, i_10, i_11, i_12, i_13, i_14, i_15, i_16, i_17, i_18, i_19, i_20, i_21, i_22, i_23, i_24, i_25, i_26, i_27, i_31, i_32, i_40, i_42, i_45, i_48, i_51, i_52, i_56, i_58, i_59, i_60, i_61, i_62, i_63, i_64, i_85, i_90, i_100, i_112, i_120, i_121, i_127, i_128, i_130, i_144, i_171, i_192, i_193, i_197, i_200, i_207, i_235, i_240, i_248, i_252, i_254, i_255, i_256, i_512, i_544, i_768, i_769, i_793, i_1000, i_1023, i_1024, i_1200, i_1538, i_1541, i_1545, i_2046, i_2047, i_2049, i_2060, i_2736, i_2737, i_2817, i_2818, i_2819, i_2820, i_2821, i_2831, i_2832, i_3077, i_3085, i_3843, i_3849, i_3851, i_3852, i_4129, i_4353, i_4865, i_5121, i_5122, i_5123, i_6156, i_8192, i_12288, i_16383, i_32000, i_33280, i_49152, i_53247, i_60304, i_64000, i_64512, i_65521, i_65535, i_449838109, nI_add, pk_mul, pk_sub, nI_mm, nI_leI, nI_ltI, nI_eq, pk_div, jrem_N, jshl_N, jshr_N, jushr_N, jmin_N, jmax_N, an_1, an_3, an_7, an_15, an_31, an_63, an_127, an_255, an_1023, an_2047, an_16383, an_65535, nm, pfI, rdI, rdW, rdL, rdI2, rdW2, ldA_N, stA_N, stB_N, stZ_N, pfZ_0, pfZ_1, rtZ_0, rtZ_1, acp_N, Option.bind_some, wp_some_iff, true_and, and_true, false_and, and_false, or_true, true_or, or_false, false_or, not_true_eq_false, not_false_eq_true, if_true, if_false, if_pos, if_neg, lt_sub, le_sub, sub_lt3, sub_le3, b2n_f, Bool.false_eq_true]
                · simp (disch := omega) only [i_0, i_1, i_2, i_3, i_4, i_5, i_6, i_7, i_8, i_9, i_10, i_11, i_12, i_13, i_14, i_15, i_16, i_17, i_18, i_19, i_20, i_21, i_22, i_23, i_24, i_25, i_26, i_27, i_31, i_32, i_40, i_42, i_45, i_48, i_51, i_52, i_56, i_58, i_59, i_60, i_61, i_62, i_63, i_64, i_85, i_90, i_100, i_112, i_120, i_121, i_127, i_128, i_130, i_144, i_171, i_192, i_193, i_197, i_200, i_207, i_235, i_240, i_248, i_252, i_254, i_255, i_256, i_512, i_544, i_768, i_769, i_793, i_1000, i_1023, i_1024, i_1200, i_1538, i_1541, i_1545, i_2046, i_2047, i_2049, i_2060, i_2736, i_2737, i_2817, i_2818, i_2819, i_2820, i_2821, i_2831, i_2832, i_3077, i_3085, i_3843, i_3849, i_3851, i_3852, i_4129, i_4353, i_4865, i_5121, i_5122, i_5123, i_6156, i_8192, i_12288, i_16383, i_32000, i_33280, i_49152, i_53247, i_60304, i_64000, i_64512, i_65521, i_65535, i_449838109, nI_add, pk_mul, pk_sub, nI_mm, nI_leI, nI_ltI, nI_eq, pk_div, jrem_N, jshl_N, jshr_N, jushr_N, jmin_N, jmax_N, an_1, an_3, an_7, an_15, an_31, an_63, an_127, an_255, an_1023, an_2047, an_16383, an_65535, nm, pfI, rdI, rdW, rdL, rdI2, rdW2, ldA_N, stA_N, stB_N, stZ_N, pfZ_0, pfZ_1, rtZ_0, rtZ_1, acp_N, Option.bind_some, wp_some_iff, true_and, and_true, false_and, and_false, or_true, true_or, or_false, false_or, not_true_eq_false, not_false_eq_true, if_true, if_false, if_pos, if_neg, lt_sub, le_sub, sub_lt3, sub_le3, b2n_t, hr.1]
                  by_cases q8 : rq.length = 8
                  · rw [decide_eq_true q8, if_pos q8]
                    rfl
                  · rw [decide_eq_false q8, if_neg q8]
                    rfl
            · rw [decide_eq_false q6]
              have e : fsh (bs.getD 7 0) (bs.getD 8 0) = none := fsh_none (fun i hi z => q6 (by
                rw [← z.1]
                exact mem_gD.mpr ⟨i, hi, rfl⟩))
              rw [e]
              simp (disch := omega) only [i_0, i_1, i_2, i_3, i_4, i_5, i_6, i_7, i_8, i_9, i_10, i_11, i_12, i_13, i_14, i_15, i_16, i_17, i_18, i_19, i_20, i_21, i_22, i_23, i_24, i_25, i_26, i_27, i_31, i_32, i_40, i_42, i_45, i_48, i_51, i_52, i_56, i_58, i_59, i_60, i_61, i_62, i_63, i_64, i_85, i_90, i_100, i_112, i_120, i_121, i_127, i_128, i_130, i_144, i_171, i_192, i_193, i_197, i_200, i_207, i_235, i_240, i_248, i_252, i_254, i_255, i_256, i_512, i_544, i_768, i_769, i_793, i_1000, i_1023, i_1024, i_1200, i_1538, i_1541, i_1545, i_2046, i_2047, i_2049, i_2060, i_2736, i_2737, i_2817, i_2818, i_2819, i_2820, i_2821, i_2831, i_2832, i_3077, i_3085, i_3843, i_3849, i_3851, i_3852, i_4129, i_4353, i_4865, i_5121, i_5122, i_5123, i_6156, i_8192, i_12288, i_16383, i_32000, i_33280, i_49152, i_53247, i_60304, i_64000, i_64512, i_65521, i_65535, i_449838109, nI_add, pk_mul, pk_sub, nI_mm, nI_leI, nI_ltI, nI_eq, pk_div, jrem_N, jshl_N, jshr_N, jushr_N, jmin_N, jmax_N, an_1, an_3, an_7, an_15, an_31, an_63, an_127, an_255, an_1023, an_2047, an_16383, an_65535, nm, pfI, rdI, rdW, rdL, rdI2, rdW2, ldA_N, stA_N, stB_N, stZ_N, pfZ_0, pfZ_1, rtZ_0, rtZ_1, acp_N, Option.bind_some, wp_some_iff, true_and, and_true, false_and, and_false, or_true, true_or, or_false, false_or, not_true_eq_false, not_false_eq_true, if_true, if_false, if_pos, if_neg, lt_sub, le_sub, sub_lt3, sub_le3, b2n_f, q6]
          · rw [if_neg q5, if_neg q5]
        · rw [if_neg q4]
          by_cases q5 : bs.getD 0 0 = 24
          · rw [if_pos q5, if_neg (by omega)]
          · rw [if_neg q5]
      · rw [if_neg q3, if_neg q3]
    · rw [if_neg q2]
      refine ite_no (by rw [h1, i_7, nI_add, nI_eq (by omega) (by omega)]; exact fun z => q2 z.symm) ?_
      rfl
/-! reports 1, x -/
def repL (bs : List Nat) (c : Nat) : List Nat := if c = 0 then [bs.getD 2 0, bs.getD 3 0] else [bs.getD 2 0, bs.getD 3 0, c]
theorem repL_len (bs : List Nat) (c : Nat) : (repL bs c).length ≤ 3 := by
  unfold repL
  split
  · show 2 ≤ 3; omega
  · show 3 ≤ 3; omega
theorem rep1_C {μ : Mem} {x : Mw} {p sb c : Nat} {bs : List Nat} (h : MC μ x) (hI : MI x) (hb : Byt μ p bs) (hp : 100 < p) (hs : sb < 256) (hc : c < 256) : wp (f11 p (nI sb) (nI c) μ) (fun m => MC m (makeW x 1 sb (repL bs c)) ∧ Byt m 87 [] ∧ Fr FMk μ m) := by
  have hq : gln (87 + 1) = 82 := gl_88
  unfold f11 c11_54
  rw [i_1]
  refine wp_bind (begin_C h (by decide) hs) (fun m1 ⟨h1, e1⟩ => ?_)
  have b1 := hb.fr e1 (by omega) (fun k => by omega)
  simp (disch := omega) only [i_0, i_1, i_2, i_3, i_4, i_5, i_6, i_7, i_8, i_9, i_10, i_11, i_12, i_13, i_14, i_15, i_16, i_17, i_18, i_19, i_20, i_21, i_22, i_23, i_24, i_25, i_26, i_27, i_31, i_32, i_40, i_42, i_45, i_48, i_51, i_52, i_56, i_58, i_59, i_60, i_61, i_62, i_63, i_64, i_85, i_90, i_100, i_112, i_120, i_121, i_127, i_128, i_130, i_144, i_171, i_192, i_193, i_197, i_200, i_207, i_235, i_240, i_248, i_252, i_254, i_255, i_256, i_512, i_544, i_768, i_769, i_793, i_1000, i_1023, i_1024, i_1200, i_1538, i_1541, i_1545, i_2046, i_2047, i_2049, i_2060, i_2736, i_2737, i_2817, i_2818, i_2819, i_2820, i_2821, i_2831, i_2832, i_3077, i_3085, i_3843, i_3849, i_3851, i_3852, i_4129, i_4353, i_4865, i_5121, i_5122, i_5123, i_6156, i_8192, i_12288, i_16383, i_32000, i_33280, i_49152, i_53247, i_60304, i_64000, i_64512, i_65521, i_65535, i_449838109, nI_add, pk_mul, pk_sub, nI_mm, nI_leI, nI_ltI, nI_eq, pk_div, jrem_N, jshl_N, jshr_N, jushr_N, jmin_N, jmax_N, an_1, an_3, an_7, an_15, an_31, an_63, an_127, an_255, an_1023, an_2047, an_16383, an_65535, nm, pfI, rdI, rdW, rdL, rdI2, rdW2, ldA_N, stA_N, stB_N, stZ_N, pfZ_0, pfZ_1, rtZ_0, rtZ_1, acp_N, Option.bind_some, wp_some_iff, true_and, and_true, false_and, and_false, or_true, true_or, or_false, false_or, not_true_eq_false, not_false_eq_true, if_true, if_false, if_pos, if_neg, lt_sub, le_sub, sub_lt3, sub_le3, at_ok b1 (show 2 < 2 ^ 31 by decide)]
  refine wp_bind (pu_ok _ h1 (by rw [hq, bgL_len]; omega)) (fun m2 ⟨h2, e2⟩ => ?_)
  have b2 := b1.fr e2 (by omega) (fun k => by omega)
  simp (disch := omega) only [i_0, i_1, i_2, i_3, i_4, i_5, i_6, i_7, i_8, i_9, i_10, i_11, i_12, i_13, i_14, i_15, i_16, i_17, i_18, i_19, i_20, i_21, i_22, i_23, i_24, i_25, i_26, i_27, i_31, i_32, i_40, i_42, i_45, i_48, i_51, i_52, i_56, i_58, i_59, i_60, i_61, i_62, i_63, i_64, i_85, i_90, i_100, i_112, i_120, i_121, i_127, i_128, i_130, i_144, i_171, i_192, i_193, i_197, i_200, i_207, i_235, i_240, i_248, i_252, i_254, i_255, i_256, i_512, i_544, i_768, i_769, i_793, i_1000, i_1023, i_1024, i_1200, i_1538, i_1541, i_1545, i_2046, i_2047, i_2049, i_2060, i_2736, i_2737, i_2817, i_2818, i_2819, i_2820, i_2821, i_2831, i_2832, i_3077, i_3085, i_3843, i_3849, i_3851, i_3852, i_4129, i_4353, i_4865, i_5121, i_5122, i_5123, i_6156, i_8192, i_12288, i_16383, i_32000, i_33280, i_49152, i_53247, i_60304, i_64000, i_64512, i_65521, i_65535, i_449838109, nI_add, pk_mul, pk_sub, nI_mm, nI_leI, nI_ltI, nI_eq, pk_div, jrem_N, jshl_N, jshr_N, jushr_N, jmin_N, jmax_N, an_1, an_3, an_7, an_15, an_31, an_63, an_127, an_255, an_1023, an_2047, an_16383, an_65535, nm, pfI, rdI, rdW, rdL, rdI2, rdW2, ldA_N, stA_N, stB_N, stZ_N, pfZ_0, pfZ_1, rtZ_0, rtZ_1, acp_N, Option.bind_some, wp_some_iff, true_and, and_true, false_and, and_false, or_true, true_or, or_false, false_or, not_true_eq_false, not_false_eq_true, if_true, if_false, if_pos, if_neg, lt_sub, le_sub, sub_lt3, sub_le3, at_ok b2 (show 3 < 2 ^ 31 by decide)]
  refine wp_bind (pu_ok _ h2 (by rw [hq, List.length_append, bgL_len]; show 13 + 1 < 82; omega)) (fun m3 ⟨h3, e3⟩ => ?_)
  rw [byv_nI (hb.get 2), byv_nI (hb.get 3), List.append_assoc] at h3
  have e13 : Fr (FB 87) μ m3 := (e1.tr' e2).tr' e3
  have M3 := h.fr e13 (fun c k _ => by omega)
  unfold repL
  by_cases q : c = 0
  · rw [if_pos q, if_pos (by rw [q])]
    refine wp_bind (finish_C M3 hI h3 (by decide) hs (by show 2 ≤ 67; omega)) (fun m4 ⟨h4, h5, e4⟩ => wp_some ⟨h4, h5, e13.tr e4 (by intro c k h; omega) (by intro c k h; omega)⟩)
  · rw [if_neg q, if_neg q]
    refine wp_bind (pu_ok _ h3 (by rw [hq, List.length_append, bgL_len]; show 13 + 2 < 82; omega)) (fun m4 ⟨h4, e4⟩ => ?_)
    rw [byv_nI hc, List.append_assoc] at h4
    refine wp_bind (finish_C (M3.fr e4 (fun c k _ => by omega)) hI h4 (by decide) hs (by show 3 ≤ 67; omega)) (fun m5 ⟨h5, h6, e5⟩ => wp_some ⟨h5, h6, (e13.tr' e4).tr e5 (by intro c k h; omega) (by intro c k h; omega)⟩)
theorem put1_M {μ : Mem} {d : List Nat} {v : Nat} (h : OutM μ d) (hv : v < 256) (hd : d.length + 1 ≤ 100) : wp (f303 (nI v) (nI 1) μ) (fun m => OutM m (d ++ [v]) ∧ Fr FOut μ m) := by
  have := put_M (n := 1) (nI v) h (by decide) (by decide) hd
  rw [lowB_1, byv_nI hv] at this
  exact this
abbrev FMo : Nat → Nat → Prop := fun c k => c = 129 ∧ (k = 80 ∨ k = 81 ∨ k = 83 ∨ k = 86 ∨ k = 87) ∨ 163 ≤ c ∧ c ≤ 166 ∨ 169 ≤ c ∧ c ≤ 178
theorem rep1_M {μ : Mem} {x : Mw} {sb c a b : Nat} {bs : List Nat} (h : MM μ x) (hI : MI x) (ho : OutM μ []) (hs : sb < 256) (hc : c < 256) (ha : a = bs.getD 2 0) (hb : b = bs.getD 3 0) (ha2 : a < 256) (hb2 : b < 256) : wp (f318 (nI sb) (nI a) (nI b) (nI c) μ) (fun m => MM m (makeW x 1 sb (repL bs c)) ∧ OutM m [] ∧ Fr FMo μ m) := by
  unfold f318 c318_24
  rw [i_1]
  refine wp_bind (put1_M ho ha2 (by decide)) (fun m1 ⟨h1, e1⟩ => ?_)
  refine wp_bind (put1_M h1 hb2 (by show 1 + 1 ≤ 100; omega)) (fun m2 ⟨h2, e2⟩ => ?_)
  have e12 : Fr FOut μ m2 := e1.tr' e2
  have M2 := h.fr hI e12 (fun c k _ => by omega)
  subst ha hb
  unfold repL
  by_cases q : c = 0
  · rw [if_pos q, i_0, if_pos (by rw [q]; decide)]
    refine wp_bind (make_M M2 hI h2 (by decide) hs (by show 2 ≤ 67; omega)) (fun m4 ⟨h4, h5, e4⟩ => wp_some ⟨h4, h5, e12.tr e4 (by intro c k h; omega) (by intro c k h; omega)⟩)
  · rw [if_neg q, i_0, if_neg (by rw [nI_leI (by omega) (by omega)]; omega)]
    refine wp_bind (put1_M h2 hc (by show 2 + 1 ≤ 100; omega)) (fun m3 ⟨h3, e3⟩ => ?_)
    refine wp_bind (make_M (M2.fr hI e3 (fun c k _ => by omega)) hI h3 (by decide) hs (by show 3 ≤ 67; omega)) (fun m5 ⟨h5, h6, e5⟩ => wp_some ⟨h5, h6, (e12.tr' e3).tr e5 (by intro c k h; omega) (by intro c k h; omega)⟩)
/-! look -/
def KC (μ : Mem) (k : Kw) : Prop := MC μ k.1 ∧ PaC μ k.2.1 ∧ Shf μ 102 k.2.2 ∧ Ts μ ∧ Byt μ 87 []
def KM (μ : Mem) (k : Kw) : Prop := MM μ k.1 ∧ PaM μ k.2.1 ∧ RqM μ k.2.2 ∧ OutM μ []
def KI (k : Kw) : Prop := MI k.1 ∧ k.2.2.length ≤ 8 ∧ ∀ i, i < k.2.2.length → Pkg (pk k.2.2 i).1 ∧ (∃ d, d ≤ 4 ∧ (pk k.2.2 i).2.1 = nI d) ∧ (pk k.2.2 i).2.2 = nI 0
theorem KC.fr {μ m : Mem} {k : Kw} {P : Nat → Nat → Prop} (h : KC μ k) (ho : Fr P μ m) (h1 : ∀ c k, c = 100000 ∨ c = 100002 ∨ c = 57 ∧ 12 ≤ k ∧ k ≤ 14 ∨ 59 ≤ c ∧ c ≤ 80 ∨ 87 ≤ c ∧ c ≤ 88 ∨ c = 124 ∨ c = 9 ∧ 8 ≤ k ∧ k ≤ 9 ∨ 102 ≤ c ∧ c ≤ 107 → ¬ P c k) : KC m k :=
  ⟨h.1.fr ho (fun c k _ => h1 c k (by omega)), h.2.1.fr ho (fun k => h1 _ k (by omega)) (h1 _ _ (by omega)) (h1 _ _ (by omega)), h.2.2.1.fr ho (fun c k _ _ => h1 c k (by omega)), h.2.2.2.1.fr ho (fun k => h1 _ k (by omega)), h.2.2.2.2.fr ho (h1 _ _ (by omega)) (fun k => h1 _ k (by omega))⟩
theorem KM.fr {μ m : Mem} {k : Kw} {P : Nat → Nat → Prop} (h : KM μ k) (hI : MI k.1) (ho : Fr P μ m) (h1 : ∀ c k, c = 129 ∧ (k = 77 ∨ k = 80 ∨ k = 81 ∨ k = 86 ∨ k = 87 ∨ k = 104) ∨ 162 ≤ c ∧ c ≤ 163 ∨ 165 ≤ c ∧ c ≤ 166 ∨ 169 ≤ c ∧ c ≤ 181 → ¬ P c k) : KM m k :=
  ⟨h.1.fr hI ho (fun c k _ => h1 c k (by omega)), h.2.1.fr ho (fun k => h1 _ k (by omega)), h.2.2.1.fr ho (h1 _ _ (by omega)) (fun c k _ _ => h1 c k (by omega)), h.2.2.2.fr ho (h1 _ _ (by omega)) (fun k => h1 _ k (by omega))⟩
def lookK (k : Kw) (bs : List Nat) (dep : Nat) : Kw :=
  if refN bs (decide (k.2.2.length = 8)) = 0 then
    (if bs.getD 6 0 / 8 % 2 = 0 then k.1 else makeW k.1 1 1 (repL bs 0), k.2.1, k.2.2 ++ [(bs, nI dep, nI 0)])
  else (makeW k.1 1 2 (repL bs (refN bs (decide (k.2.2.length = 8)))), upL k.2.1 18 (k.2.1 18 + nI 1), k.2.2)
theorem lookK_I {k : Kw} {bs : List Nat} {dep : Nat} (h : KI k) (hl : bs.length ≤ 60) (hd : dep ≤ 4) : KI (lookK k bs dep) := by
  have r3 := repL_len bs
  unfold lookK
  split
  · next q =>
    obtain ⟨q1, q2⟩ := refN_0 q hl
    have q3 := of_decide_eq_false q2
    have hl8 := h.2.1
    refine ⟨?_, ?_, fun i hi => ?_⟩
    · show MI (if _ then _ else _)
      split
      · exact h.1
      · exact makeW_I h.1 (by have := r3 0; omega)
    · show (k.2.2 ++ [_]).length ≤ 8
      rw [List.length_append]
      show k.2.2.length + 1 ≤ 8
      omega
    · have hi : i < (k.2.2 ++ [(bs, nI dep, nI 0)]).length := hi
      rw [List.length_append] at hi
      have hi : i < k.2.2.length + 1 := hi
      show Pkg (pk (k.2.2 ++ [(bs, nI dep, nI 0)]) i).1 ∧ _
      rw [pk_app]
      by_cases e : i < k.2.2.length
      · rw [if_pos e]; exact h.2.2 i e
      · rw [if_neg e, if_pos (by omega)]
        exact ⟨q1, ⟨dep, hd, rfl⟩, rfl⟩
  · exact ⟨makeW_I h.1 (by have := r3 (refN bs (decide (k.2.2.length = 8))); omega), h.2⟩
abbrev FLk : Nat → Nat → Prop := fun c k => c = 57 ∧ (k = 13 ∨ k = 14) ∨ 59 ≤ c ∧ c ≤ 80 ∨ 87 ≤ c ∧ c ≤ 88 ∨ c = 124 ∨ 102 ≤ c ∧ c ≤ 107
theorem look_C {μ : Mem} {k : Kw} {bs : List Nat} {dep : Nat} (h : KC μ k) (hI : KI k) (hb : Byt μ 120 bs) (hl : bs.length ≤ 60) : wp (f10 (nI dep) μ) (fun m => KC m (lookK k bs dep) ∧ Fr FLk μ m) := by
  have g : gln (102 + 2) = 8 := gl_104
  have g2 : gln (102 + 1) = 480 := gl_103
  have g3 := gl_124
  obtain ⟨h1, h2, h3, h4, h87⟩ := h
  have hr := ref_C h1.1 h4 hb h3 hl hI.2.1
  have ho := off_60 (fun i hi => (hI.2.2 i hi).1.2.1) k.2.2.length (Nat.le_refl _)
  unfold f10 lookK
  by_cases q : refN bs (decide (k.2.2.length = 8)) = 0
  · have q3 := of_decide_eq_false (refN_0 q hl).2
    have hl8 := hI.2.1
    have hbl := hb.len
    rw [if_pos q]
    rw [q] at hr
    simp (disch := omega) only [i_0, i_1, i_2, i_3, i_4, i_5, i_6, i_7, i_8, i_9, i_10, i_11, i_12, i_13, i_14, i_15, i_16, i_17, i_18, i_19, i_20, i_21, i_22, i_23, i_24, i_25, i_26, i_27, i_31, i_32, i_40, i_42, i_45, i_48, i_51, i_52, i_56, i_58, i_59, i_60, i_61, i_62, i_63, i_64, i_85, i_90, i_100, i_112, i_120, i_121, i_127, i_128, i_130, i_144, i_171, i_192, i_193, i_197, i_200, i_207, i_235, i_240, i_248, i_252, i_254, i_255, i_256, i_512, i_544, i_768, i_769, i_793, i_1000, i_1023, i_1024, i_1200, i_1538, i_1541, i_1545, i_2046, i_2047, i_2049, i_2060, i_2736, i_2737, i_2817, i_2818, i_2819, i_2820, i_2821, i_2831, i_2832, i_3077, i_3085, i_3843, i_3849, i_3851, i_3852, i_4129, i_4353, i_4865, i_5121, i_5122, i_5123, i_6156, i_8192, i_12288, i_16383, i_32000, i_33280, i_49152, i_53247, i_60304, i_64000, i_64512, i_65521, i_65535, i_449838109, nI_add, pk_mul, pk_sub, nI_mm, nI_leI, nI_ltI, nI_eq, pk_div, jrem_N, jshl_N, jshr_N, jushr_N, jmin_N, jmax_N, an_1, an_3, an_7, an_15, an_31, an_63, an_127, an_255, an_1023, an_2047, an_16383, an_65535, nm, pfI, rdI, rdW, rdL, rdI2, rdW2, ldA_N, stA_N, stB_N, stZ_N, pfZ_0, pfZ_1, rtZ_0, rtZ_1, acp_N, Option.bind_some, wp_some_iff, true_and, and_true, false_and, and_false, or_true, true_or, or_false, false_or, not_true_eq_false, not_false_eq_true, if_true, if_false, if_pos, if_neg, lt_sub, le_sub, sub_lt3, sub_le3, hr, at_ok hb (show 6 < 2 ^ 31 by decide), an_8 _ (hb.get 6)]
    have fin : ∀ m x, MC m x → Byt m 87 [] → Fr FMk μ m → wp (c10_56 (nI dep) m) (fun m => KC m (x, k.2.1, k.2.2 ++ [(bs, nI dep, nI 0)]) ∧ Fr FLk μ m) := by
      intro m x hm hm87 hf
      have b1 := hb.fr hf (by omega) (fun k => by omega)
      unfold c10_56
      rw [b1.1, i_0]
      refine wp_bind (shadd_C (xs := bs) (b := 0) (tag := nI dep) (mark := nI 0) (h3.fr hf (fun c k _ _ => by omega)) b1 (by omega) (by rw [List.drop_zero, List.take_of_length_le (Nat.le_refl _)]) (by omega)) (fun r ⟨h5, e5⟩ => ?_)
      obtain ⟨m5, v5⟩ := r
      dsimp only at h5 e5 ⊢
      rw [if_pos ⟨by omega, by omega⟩] at h5
      have hf5 : Fr FLk μ m5 := hf.tr e5 (by intro c k h; omega) (by intro c k h; omega)
      exact wp_some ⟨⟨hm.fr e5 (fun c k _ => by omega), (h2.fr hf (fun k => by omega) (by omega) (by omega)).fr e5 (fun k => by omega) (by omega) (by omega), h5.2, h4.fr hf5 (fun k => by omega), hm87.fr e5 (by omega) (fun k => by omega)⟩, hf5⟩
    by_cases q5 : bs.getD 6 0 / 8 % 2 = 0
    · rw [if_pos q5, if_pos q5]
      exact fin μ _ h1 h87 Fr.rf
    · rw [if_neg q5, if_neg q5]
      refine wp_bind (rep1_C (c := 0) h1 hI.1 hb (by decide) (by decide) (by decide)) (fun m1 ⟨a1, a2, a3⟩ => ?_)
      exact fin m1 _ a1 a2 a3
  · have hlt := refN_lt (bs := bs) (f := decide (k.2.2.length = 8))
    rw [if_neg q]
    generalize refN bs (decide (k.2.2.length = 8)) = c at *
    have p18 := h2.1 18 (by decide) (by decide) (by decide)
    simp (disch := omega) only [i_0, i_1, i_2, i_3, i_4, i_5, i_6, i_7, i_8, i_9, i_10, i_11, i_12, i_13, i_14, i_15, i_16, i_17, i_18, i_19, i_20, i_21, i_22, i_23, i_24, i_25, i_26, i_27, i_31, i_32, i_40, i_42, i_45, i_48, i_51, i_52, i_56, i_58, i_59, i_60, i_61, i_62, i_63, i_64, i_85, i_90, i_100, i_112, i_120, i_121, i_127, i_128, i_130, i_144, i_171, i_192, i_193, i_197, i_200, i_207, i_235, i_240, i_248, i_252, i_254, i_255, i_256, i_512, i_544, i_768, i_769, i_793, i_1000, i_1023, i_1024, i_1200, i_1538, i_1541, i_1545, i_2046, i_2047, i_2049, i_2060, i_2736, i_2737, i_2817, i_2818, i_2819, i_2820, i_2821, i_2831, i_2832, i_3077, i_3085, i_3843, i_3849, i_3851, i_3852, i_4129, i_4353, i_4865, i_5121, i_5122, i_5123, i_6156, i_8192, i_12288, i_16383, i_32000, i_33280, i_49152, i_53247, i_60304, i_64000, i_64512, i_65521, i_65535, i_449838109, nI_add, pk_mul, pk_sub, nI_mm, nI_leI, nI_ltI, nI_eq, pk_div, jrem_N, jshl_N, jshr_N, jushr_N, jmin_N, jmax_N, an_1, an_3, an_7, an_15, an_31, an_63, an_127, an_255, an_1023, an_2047, an_16383, an_65535, nm, pfI, rdI, rdW, rdL, rdI2, rdW2, ldA_N, stA_N, stB_N, stZ_N, pfZ_0, pfZ_1, rtZ_0, rtZ_1, acp_N, Option.bind_some, wp_some_iff, true_and, and_true, false_and, and_false, or_true, true_or, or_false, false_or, not_true_eq_false, not_false_eq_true, if_true, if_false, if_pos, if_neg, lt_sub, le_sub, sub_lt3, sub_le3, hr, p18]
    have f1 : Fr (fun c _ => c = 124) μ (setI μ 124 18 (k.2.1 18 + nI 1)) := Fr.sI rfl
    have h2' := h2.up (i := 18) (x := k.2.1 18 + nI 1) (by omega)
    refine wp_bind (rep1_C (h1.fr f1 (fun c k _ => by omega)) hI.1 (hb.fr f1 (by omega) (fun k => by omega)) (by decide) (by decide) (by omega)) (fun m1 ⟨a1, a2, a3⟩ => ?_)
    have hf : Fr FLk μ m1 := f1.tr a3 (by intro c k h; omega) (by intro c k h; omega)
    exact wp_some ⟨⟨a1, h2'.fr a3 (fun k => by omega) (by omega) (by omega), (h3.fr f1 (fun c k _ _ => by omega)).fr a3 (fun c k _ _ => by omega), h4.fr hf (fun k => by omega), a2⟩, hf⟩
abbrev FLm : Nat → Nat → Prop := fun c k => c = 129 ∧ (k = 80 ∨ k = 81 ∨ k = 83 ∨ k = 86 ∨ k = 87 ∨ k = 104) ∨ 162 ≤ c ∧ c ≤ 166 ∨ 169 ≤ c ∧ c ≤ 181
theorem RqM.add {μ m : Mem} {rq : List Pk} {bs : List Nat} {dep : Nat} (h : RqM μ rq) (hx : bs.length ≤ 64) (hs : Seg m 179 (64 * rq.length) bs) (hf : Fr (fun c k => c = 179 ∧ 64 * rq.length ≤ k ∧ k < 64 * rq.length + bs.length) μ m) : RqM (setI (setI (setI m 180 rq.length (nI bs.length)) 181 rq.length (nI dep)) 129 104 (nI (rq.length + 1))) (rq ++ [(bs, nI dep, nI 0)]) := by
  generalize hm4 : setI (setI (setI m 180 rq.length (nI bs.length)) 181 rq.length (nI dep)) 129 104 (nI (rq.length + 1)) = m4
  have f4 : Fr (fun c k => (c = 180 ∨ c = 181) ∧ k = rq.length ∨ c = 129 ∧ k = 104) m m4 := by
    subst hm4
    exact ((Fr.sI (by omega)).pI (by omega)).pI (by omega)
  have f5 : Fr (fun c k => c = 179 ∧ 64 * rq.length ≤ k ∧ k < 64 * rq.length + 64 ∨ (c = 180 ∨ c = 181) ∧ k = rq.length ∨ c = 129 ∧ k = 104) μ m4 := hf.tr f4 (by intro c k h; omega) (by intro c k h; omega)
  have hal : (rq ++ [(bs, nI dep, nI 0)]).length = rq.length + 1 := by rw [List.length_append]; rfl
  refine ⟨?_, ?_, ?_⟩
  · rw [hal]
    subst hm4
    simp (disch := omega) only [i_0, i_1, i_2, i_3, i_4, i_5, i_6, i_7, i_8, i_9, i_10, i_11, i_12, i_13, i_14, i_15, i_16, i_17, i_18, i_19, i_20, i_21, i_22, i_23, i_24, i_25, i_26, i_27, i_31, i_32, i_40, i_42, i_45, i_48, i_51, i_52, i_56, i_58, i_59, i_60, i_61, i_62, i_63, i_64, i_85, i_90, i_100, i_112, i_120, i_121, i_127, i_128, i_130, i_144, i_171, i_192, i_193, i_197, i_200, i_207, i_235, i_240, i_248, i_252, i_254, i_255, i_256, i_512, i_544, i_768, i_769, i_793, i_1000, i_1023, i_1024, i_1200, i_1538, i_1541, i_1545, i_2046, i_2047, i_2049, i_2060, i_2736, i_2737, i_2817, i_2818, i_2819, i_2820, i_2821, i_2831, i_2832, i_3077, i_3085, i_3843, i_3849, i_3851, i_3852, i_4129, i_4353, i_4865, i_5121, i_5122, i_5123, i_6156, i_8192, i_12288, i_16383, i_32000, i_33280, i_49152, i_53247, i_60304, i_64000, i_64512, i_65521, i_65535, i_449838109, nI_add, pk_mul, pk_sub, nI_mm, nI_leI, nI_ltI, nI_eq, pk_div, jrem_N, jshl_N, jshr_N, jushr_N, jmin_N, jmax_N, an_1, an_3, an_7, an_15, an_31, an_63, an_127, an_255, an_1023, an_2047, an_16383, an_65535, nm, pfI, rdI, rdW, rdL, rdI2, rdW2, ldA_N, stA_N, stB_N, stZ_N, pfZ_0, pfZ_1, rtZ_0, rtZ_1, acp_N, Option.bind_some, wp_some_iff, true_and, and_true, false_and, and_false, or_true, true_or, or_false, false_or, not_true_eq_false, not_false_eq_true, if_true, if_false, if_pos, if_neg, lt_sub, le_sub, sub_lt3, sub_le3]
  · rw [hal]
    have z := QF.put2 (hi2 := rq.length + 1) h.2.1 (x := bs) (i := rq.length) (m := m4) hx (by subst hm4; simp (disch := omega) only [i_0, i_1, i_2, i_3, i_4, i_5, i_6, i_7, i_8, i_9, i_10, i_11, i_12, i_13, i_14, i_15, i_16, i_17, i_18, i_19, i_20, i_21, i_22, i_23, i_24, i_25, i_26, i_27, i_31, i_32, i_40, i_42, i_45, i_48, i_51, i_52, i_56, i_58, i_59, i_60, i_61, i_62, i_63, i_64, i_85, i_90, i_100, i_112, i_120, i_121, i_127, i_128, i_130, i_144, i_171, i_192, i_193, i_197, i_200, i_207, i_235, i_240, i_248, i_252, i_254, i_255, i_256, i_512, i_544, i_768, i_769, i_793, i_1000, i_1023, i_1024, i_1200, i_1538, i_1541, i_1545, i_2046, i_2047, i_2049, i_2060, i_2736, i_2737, i_2817, i_2818, i_2819, i_2820, i_2821, i_2831, i_2832, i_3077, i_3085, i_3843, i_3849, i_3851, i_3852, i_4129, i_4353, i_4865, i_5121, i_5122, i_5123, i_6156, i_8192, i_12288, i_16383, i_32000, i_33280, i_49152, i_53247, i_60304, i_64000, i_64512, i_65521, i_65535, i_449838109, nI_add, pk_mul, pk_sub, nI_mm, nI_leI, nI_ltI, nI_eq, pk_div, jrem_N, jshl_N, jshr_N, jushr_N, jmin_N, jmax_N, an_1, an_3, an_7, an_15, an_31, an_63, an_127, an_255, an_1023, an_2047, an_16383, an_65535, nm, pfI, rdI, rdW, rdL, rdI2, rdW2, ldA_N, stA_N, stB_N, stZ_N, pfZ_0, pfZ_1, rtZ_0, rtZ_1, acp_N, Option.bind_some, wp_some_iff, true_and, and_true, false_and, and_false, or_true, true_or, or_false, false_or, not_true_eq_false, not_false_eq_true, if_true, if_false, if_pos, if_neg, lt_sub, le_sub, sub_lt3, sub_le3]) (hs.fr f4 (fun k => by omega)) f5 (fun k q => by omega) (fun k q => by omega) (Or.inr ⟨rfl, rfl⟩)
    refine z.cg (Nat.le_refl _) (fun j q1 q2 => ?_)
    rw [pk_app]
    unfold upL
    by_cases e : j = rq.length
    · rw [if_pos e, if_neg (by omega), if_pos e]
    · rw [if_pos (show j < rq.length by omega), if_neg e]
  · rw [hal]
    have z := TF.put2 (hi2 := rq.length + 1) h.2.2 (x := nI dep) (i := rq.length) (m := m4) (by subst hm4; simp (disch := omega) only [i_0, i_1, i_2, i_3, i_4, i_5, i_6, i_7, i_8, i_9, i_10, i_11, i_12, i_13, i_14, i_15, i_16, i_17, i_18, i_19, i_20, i_21, i_22, i_23, i_24, i_25, i_26, i_27, i_31, i_32, i_40, i_42, i_45, i_48, i_51, i_52, i_56, i_58, i_59, i_60, i_61, i_62, i_63, i_64, i_85, i_90, i_100, i_112, i_120, i_121, i_127, i_128, i_130, i_144, i_171, i_192, i_193, i_197, i_200, i_207, i_235, i_240, i_248, i_252, i_254, i_255, i_256, i_512, i_544, i_768, i_769, i_793, i_1000, i_1023, i_1024, i_1200, i_1538, i_1541, i_1545, i_2046, i_2047, i_2049, i_2060, i_2736, i_2737, i_2817, i_2818, i_2819, i_2820, i_2821, i_2831, i_2832, i_3077, i_3085, i_3843, i_3849, i_3851, i_3852, i_4129, i_4353, i_4865, i_5121, i_5122, i_5123, i_6156, i_8192, i_12288, i_16383, i_32000, i_33280, i_49152, i_53247, i_60304, i_64000, i_64512, i_65521, i_65535, i_449838109, nI_add, pk_mul, pk_sub, nI_mm, nI_leI, nI_ltI, nI_eq, pk_div, jrem_N, jshl_N, jshr_N, jushr_N, jmin_N, jmax_N, an_1, an_3, an_7, an_15, an_31, an_63, an_127, an_255, an_1023, an_2047, an_16383, an_65535, nm, pfI, rdI, rdW, rdL, rdI2, rdW2, ldA_N, stA_N, stB_N, stZ_N, pfZ_0, pfZ_1, rtZ_0, rtZ_1, acp_N, Option.bind_some, wp_some_iff, true_and, and_true, false_and, and_false, or_true, true_or, or_false, false_or, not_true_eq_false, not_false_eq_true, if_true, if_false, if_pos, if_neg, lt_sub, le_sub, sub_lt3, sub_le3]) f5 (fun k q => by omega) (Or.inr ⟨rfl, rfl⟩)
    refine z.cg (Nat.le_refl _) (fun j q1 q2 => ?_)
    rw [pk_app]
    unfold upL
    by_cases e : j = rq.length
    · rw [if_pos e, if_neg (by omega), if_pos e]
    · rw [if_pos (show j < rq.length by omega), if_neg e]
theorem look_M {μ : Mem} {k : Kw} {bs : List Nat} {dep : Nat} (h : KM μ k) (hI : KI k) (hb : PkM μ bs) (hl : bs.length ≤ 60) : wp (f317 (nI dep) μ) (fun m => KM m (lookK k bs dep) ∧ Fr FLm μ m) := by
  have g := gl_140
  have g2 := gl_162
  have g3 := gl_179
  have g4 := gl_180
  have g5 := gl_181
  obtain ⟨h1, h2, h3, h4⟩ := h
  have hr := ref_M hb h3 hl hI.2.1
  have hl8 := hI.2.1
  have b2 := hb.2.get 2
  have b3 := hb.2.get 3
  have key : wp (c317_42 (nI dep) (nI (refN bs (decide (k.2.2.length = 8)))) (nI (bs.getD 2 0)) (nI (bs.getD 3 0)) μ) (fun m => KM m (lookK k bs dep) ∧ Fr FLm μ m) := by
    unfold c317_42 lookK
    by_cases q : refN bs (decide (k.2.2.length = 8)) = 0
    · have q3 := of_decide_eq_false (refN_0 q hl).2
      have q4 := (refN_0 q hl).1.1
      have z6 := hb.2.z (i := 6) (by omega)
      rw [if_pos q, q]
      simp (disch := omega) only [i_0, i_1, i_2, i_3, i_4, i_5, i_6, i_7, i_8, i_9, i_10, i_11, i_12, i_13, i_14, i_15, i_16, i_17, i_18, i_19, i_20, i_21, i_22, i_23, i_24, i_25, i_26, i_27, i_31, i_32, i_40, i_42, i_45, i_48, i_51, i_52, i_56, i_58, i_59, i_60, i_61, i_62, i_63, i_64, i_85, i_90, i_100, i_112, i_120, i_121, i_127, i_128, i_130, i_144, i_171, i_192, i_193, i_197, i_200, i_207, i_235, i_240, i_248, i_252, i_254, i_255, i_256, i_512, i_544, i_768, i_769, i_793, i_1000, i_1023, i_1024, i_1200, i_1538, i_1541, i_1545, i_2046, i_2047, i_2049, i_2060, i_2736, i_2737, i_2817, i_2818, i_2819, i_2820, i_2821, i_2831, i_2832, i_3077, i_3085, i_3843, i_3849, i_3851, i_3852, i_4129, i_4353, i_4865, i_5121, i_5122, i_5123, i_6156, i_8192, i_12288, i_16383, i_32000, i_33280, i_49152, i_53247, i_60304, i_64000, i_64512, i_65521, i_65535, i_449838109, nI_add, pk_mul, pk_sub, nI_mm, nI_leI, nI_ltI, nI_eq, pk_div, jrem_N, jshl_N, jshr_N, jushr_N, jmin_N, jmax_N, an_1, an_3, an_7, an_15, an_31, an_63, an_127, an_255, an_1023, an_2047, an_16383, an_65535, nm, pfI, rdI, rdW, rdL, rdI2, rdW2, ldA_N, stA_N, stB_N, stZ_N, pfZ_0, pfZ_1, rtZ_0, rtZ_1, acp_N, Option.bind_some, wp_some_iff, true_and, and_true, false_and, and_false, or_true, true_or, or_false, false_or, not_true_eq_false, not_false_eq_true, if_true, if_false, if_pos, if_neg, lt_sub, le_sub, sub_lt3, sub_le3, z6, an_8 _ (hb.2.get 6)]
      have fin : ∀ m x, MM m x → MI x → OutM m [] → Fr FMo μ m → wp (c317_91 (nI dep) m) (fun m => KM m (x, k.2.1, k.2.2 ++ [(bs, nI dep, nI 0)]) ∧ Fr FLm μ m) := by
        intro m x hm hi hout hf
        have b1 := hb.fr hf (by omega) (fun k => by omega)
        have r1 := h3.fr hf (by omega) (fun c k _ _ => by omega)
        have c1 := r1.1
        have c2 := b1.1
        unfold c317_91
        simp (disch := omega) only [i_0, i_1, i_2, i_3, i_4, i_5, i_6, i_7, i_8, i_9, i_10, i_11, i_12, i_13, i_14, i_15, i_16, i_17, i_18, i_19, i_20, i_21, i_22, i_23, i_24, i_25, i_26, i_27, i_31, i_32, i_40, i_42, i_45, i_48, i_51, i_52, i_56, i_58, i_59, i_60, i_61, i_62, i_63, i_64, i_85, i_90, i_100, i_112, i_120, i_121, i_127, i_128, i_130, i_144, i_171, i_192, i_193, i_197, i_200, i_207, i_235, i_240, i_248, i_252, i_254, i_255, i_256, i_512, i_544, i_768, i_769, i_793, i_1000, i_1023, i_1024, i_1200, i_1538, i_1541, i_1545, i_2046, i_2047, i_2049, i_2060, i_2736, i_2737, i_2817, i_2818, i_2819, i_2820, i_2821, i_2831, i_2832, i_3077, i_3085, i_3843, i_3849, i_3851, i_3852, i_4129, i_4353, i_4865, i_5121, i_5122, i_5123, i_6156, i_8192, i_12288, i_16383, i_32000, i_33280, i_49152, i_53247, i_60304, i_64000, i_64512, i_65521, i_65535, i_449838109, nI_add, pk_mul, pk_sub, nI_mm, nI_leI, nI_ltI, nI_eq, pk_div, jrem_N, jshl_N, jshr_N, jushr_N, jmin_N, jmax_N, an_1, an_3, an_7, an_15, an_31, an_63, an_127, an_255, an_1023, an_2047, an_16383, an_65535, nm, pfI, rdI, rdW, rdL, rdI2, rdW2, ldA_N, stA_N, stB_N, stZ_N, pfZ_0, pfZ_1, rtZ_0, rtZ_1, acp_N, Option.bind_some, wp_some_iff, true_and, and_true, false_and, and_false, or_true, true_or, or_false, false_or, not_true_eq_false, not_false_eq_true, if_true, if_false, if_pos, if_neg, lt_sub, le_sub, sub_lt3, sub_le3, c1, c2]
        refine wp_bind (move_M b1.2 rfl (by omega) (by omega) (by omega) (by omega)) (fun m2 ⟨h5, e5⟩ => ?_)
        have d1 : m2.1 129 104 = nI k.2.2.length := by rw [e5.1 _ _ (by omega)]; exact c1
        have d2 : m2.1 129 27 = nI bs.length := by rw [e5.1 _ _ (by omega)]; exact c2
        simp (disch := omega) only [i_0, i_1, i_2, i_3, i_4, i_5, i_6, i_7, i_8, i_9, i_10, i_11, i_12, i_13, i_14, i_15, i_16, i_17, i_18, i_19, i_20, i_21, i_22, i_23, i_24, i_25, i_26, i_27, i_31, i_32, i_40, i_42, i_45, i_48, i_51, i_52, i_56, i_58, i_59, i_60, i_61, i_62, i_63, i_64, i_85, i_90, i_100, i_112, i_120, i_121, i_127, i_128, i_130, i_144, i_171, i_192, i_193, i_197, i_200, i_207, i_235, i_240, i_248, i_252, i_254, i_255, i_256, i_512, i_544, i_768, i_769, i_793, i_1000, i_1023, i_1024, i_1200, i_1538, i_1541, i_1545, i_2046, i_2047, i_2049, i_2060, i_2736, i_2737, i_2817, i_2818, i_2819, i_2820, i_2821, i_2831, i_2832, i_3077, i_3085, i_3843, i_3849, i_3851, i_3852, i_4129, i_4353, i_4865, i_5121, i_5122, i_5123, i_6156, i_8192, i_12288, i_16383, i_32000, i_33280, i_49152, i_53247, i_60304, i_64000, i_64512, i_65521, i_65535, i_449838109, nI_add, pk_mul, pk_sub, nI_mm, nI_leI, nI_ltI, nI_eq, pk_div, jrem_N, jshl_N, jshr_N, jushr_N, jmin_N, jmax_N, an_1, an_3, an_7, an_15, an_31, an_63, an_127, an_255, an_1023, an_2047, an_16383, an_65535, nm, pfI, rdI, rdW, rdL, rdI2, rdW2, ldA_N, stA_N, stB_N, stZ_N, pfZ_0, pfZ_1, rtZ_0, rtZ_1, acp_N, Option.bind_some, wp_some_iff, true_and, and_true, false_and, and_false, or_true, true_or, or_false, false_or, not_true_eq_false, not_false_eq_true, if_true, if_false, if_pos, if_neg, lt_sub, le_sub, sub_lt3, sub_le3, d1, d2]
        have R := r1.add (dep := dep) (by omega) h5 e5
        have f6 : Fr (fun c k => 179 ≤ c ∧ c ≤ 181 ∨ c = 129 ∧ k = 104) m (setI (setI (setI m2 180 k.2.2.length (nI bs.length)) 181 k.2.2.length (nI dep)) 129 104 (nI (k.2.2.length + 1))) := (((e5.mono (by intro c k h; omega)).pI (by omega)).pI (by omega)).pI (by omega)
        exact ⟨⟨hm.fr hi f6 (fun c k _ => by omega), (h2.fr hf (fun k => by omega)).fr f6 (fun k => by omega), R, hout.fr f6 (by omega) (fun k => by omega)⟩, hf.tr f6 (by intro c k h; omega) (by intro c k h; omega)⟩
      by_cases q5 : bs.getD 6 0 / 8 % 2 = 0
      · rw [if_pos q5, if_pos q5]
        exact fin μ _ h1 hI.1 h4 Fr.rf
      · rw [if_neg q5, if_neg q5]
        refine wp_bind (rep1_M (c := 0) h1 hI.1 h4 (by decide) (by decide) rfl rfl b2 b3) (fun m1 ⟨a1, a2, a3⟩ => ?_)
        exact fin m1 _ a1 (makeW_I hI.1 (by have := repL_len bs 0; omega)) a2 a3
    · have hlt := refN_lt (bs := bs) (f := decide (k.2.2.length = 8))
      rw [if_neg q]
      generalize refN bs (decide (k.2.2.length = 8)) = c at *
      have p18 := h2 18 (by decide)
      simp (disch := omega) only [i_0, i_1, i_2, i_3, i_4, i_5, i_6, i_7, i_8, i_9, i_10, i_11, i_12, i_13, i_14, i_15, i_16, i_17, i_18, i_19, i_20, i_21, i_22, i_23, i_24, i_25, i_26, i_27, i_31, i_32, i_40, i_42, i_45, i_48, i_51, i_52, i_56, i_58, i_59, i_60, i_61, i_62, i_63, i_64, i_85, i_90, i_100, i_112, i_120, i_121, i_127, i_128, i_130, i_144, i_171, i_192, i_193, i_197, i_200, i_207, i_235, i_240, i_248, i_252, i_254, i_255, i_256, i_512, i_544, i_768, i_769, i_793, i_1000, i_1023, i_1024, i_1200, i_1538, i_1541, i_1545, i_2046, i_2047, i_2049, i_2060, i_2736, i_2737, i_2817, i_2818, i_2819, i_2820, i_2821, i_2831, i_2832, i_3077, i_3085, i_3843, i_3849, i_3851, i_3852, i_4129, i_4353, i_4865, i_5121, i_5122, i_5123, i_6156, i_8192, i_12288, i_16383, i_32000, i_33280, i_49152, i_53247, i_60304, i_64000, i_64512, i_65521, i_65535, i_449838109, nI_add, pk_mul, pk_sub, nI_mm, nI_leI, nI_ltI, nI_eq, pk_div, jrem_N, jshl_N, jshr_N, jushr_N, jmin_N, jmax_N, an_1, an_3, an_7, an_15, an_31, an_63, an_127, an_255, an_1023, an_2047, an_16383, an_65535, nm, pfI, rdI, rdW, rdL, rdI2, rdW2, ldA_N, stA_N, stB_N, stZ_N, pfZ_0, pfZ_1, rtZ_0, rtZ_1, acp_N, Option.bind_some, wp_some_iff, true_and, and_true, false_and, and_false, or_true, true_or, or_false, false_or, not_true_eq_false, not_false_eq_true, if_true, if_false, if_pos, if_neg, lt_sub, le_sub, sub_lt3, sub_le3, p18]
      have f1 : Fr (fun c _ => c = 162) μ (setI μ 162 18 (k.2.1 18 + nI 1)) := Fr.sI rfl
      have h2' := h2.up (i := 18) (x := k.2.1 18 + nI 1)
      refine wp_bind (rep1_M (h1.fr hI.1 f1 (fun c k _ => by omega)) hI.1 (h4.fr f1 (by omega) (fun k => by omega)) (by decide) (by omega) rfl rfl b2 b3) (fun m1 ⟨a1, a2, a3⟩ => ?_)
      exact wp_some ⟨⟨a1, h2'.fr a3 (fun k => by omega), (h3.fr f1 (by omega) (fun c k _ _ => by omega)).fr a3 (by omega) (fun c k _ _ => by omega), a2⟩, f1.tr a3 (by intro c k h; omega) (by intro c k h; omega)⟩
  unfold f317 c317_23
  have c2 := hb.1
  by_cases q2 : bs.length ≤ 2
  · rw [getD_no q2, getD_no (show bs.length ≤ 3 by omega)] at key
    simp (disch := omega) only [i_0, i_1, i_2, i_3, i_4, i_5, i_6, i_7, i_8, i_9, i_10, i_11, i_12, i_13, i_14, i_15, i_16, i_17, i_18, i_19, i_20, i_21, i_22, i_23, i_24, i_25, i_26, i_27, i_31, i_32, i_40, i_42, i_45, i_48, i_51, i_52, i_56, i_58, i_59, i_60, i_61, i_62, i_63, i_64, i_85, i_90, i_100, i_112, i_120, i_121, i_127, i_128, i_130, i_144, i_171, i_192, i_193, i_197, i_200, i_207, i_235, i_240, i_248, i_252, i_254, i_255, i_256, i_512, i_544, i_768, i_769, i_793, i_1000, i_1023, i_1024, i_1200, i_1538, i_1541, i_1545, i_2046, i_2047, i_2049, i_2060, i_2736, i_2737, i_2817, i_2818, i_2819, i_2820, i_2821, i_2831, i_2832, i_3077, i_3085, i_3843, i_3849, i_3851, i_3852, i_4129, i_4353, i_4865, i_5121, i_5122, i_5123, i_6156, i_8192, i_12288, i_16383, i_32000, i_33280, i_49152, i_53247, i_60304, i_64000, i_64512, i_65521, i_65535, i_449838109, nI_add, pk_mul, pk_sub, nI_mm, nI_leI, nI_ltI, nI_eq, pk_div, jrem_N, jshl_N, jshr_N, jushr_N, jmin_N, jmax_N, an_1, an_3, an_7, an_15, an_31, an_63, an_127, an_255, an_1023, an_2047, an_16383, an_65535, nm, pfI, rdI, rdW, rdL, rdI2, rdW2, ldA_N, stA_N, stB_N, stZ_N, pfZ_0, pfZ_1, rtZ_0, rtZ_1, acp_N, Option.bind_some, wp_some_iff, true_and, and_true, false_and, and_false, or_true, true_or, or_false, false_or, not_true_eq_false, not_false_eq_true, if_true, if_false, if_pos, if_neg, lt_sub, le_sub, sub_lt3, sub_le3, hr, c2]
    exact key
  · have z2 := hb.2.z (i := 2) (by omega)
    by_cases q3 : bs.length ≤ 3
    · rw [getD_no q3] at key
      simp (disch := omega) only [i_0, i_1, i_2, i_3, i_4, i_5, i_6, i_7, i_8, i_9, i_10, i_11, i_12, i_13, i_14, i_15, i_16, i_17, i_18, i_19, i_20, i_21, i_22, i_23, i_24, i_25, i_26, i_27, i_31, i_32, i_40, i_42, i_45, i_48, i_51, i_52, i_56, i_58, i_59, i_60, i_61, i_62, i_63, i_64, i_85, i_90, i_100, i_112, i_120, i_121, i_127, i_128, i_130, i_144, i_171, i_192, i_193, i_197, i_200, i_207, i_235, i_240, i_248, i_252, i_254, i_255, i_256, i_512, i_544, i_768, i_769, i_793, i_1000, i_1023, i_1024, i_1200, i_1538, i_1541, i_1545, i_2046, i_2047, i_2049, i_2060, i_2736, i_2737, i_2817, i_2818, i_2819, i_2820, i_2821, i_2831, i_2832, i_3077, i_3085, i_3843, i_3849, i_3851, i_3852, i_4129, i_4353, i_4865, i_5121, i_5122, i_5123, i_6156, i_8192, i_12288, i_16383, i_32000, i_33280, i_49152, i_53247, i_60304, i_64000, i_64512, i_65521, i_65535, i_449838109, nI_add, pk_mul, pk_sub, nI_mm, nI_leI, nI_ltI, nI_eq, pk_div, jrem_N, jshl_N, jshr_N, jushr_N, jmin_N, jmax_N, an_1, an_3, an_7, an_15, an_31, an_63, an_127, an_255, an_1023, an_2047, an_16383, an_65535, nm, pfI, rdI, rdW, rdL, rdI2, rdW2, ldA_N, stA_N, stB_N, stZ_N, pfZ_0, pfZ_1, rtZ_0, rtZ_1, acp_N, Option.bind_some, wp_some_iff, true_and, and_true, false_and, and_false, or_true, true_or, or_false, false_or, not_true_eq_false, not_false_eq_true, if_true, if_false, if_pos, if_neg, lt_sub, le_sub, sub_lt3, sub_le3, hr, c2, z2]
      exact key
    · have z3 := hb.2.z (i := 3) (by omega)
      simp (disch := omega) only [i_0, i_1, i_2, i_3, i_4, i_5, i_6, i_7, i_8, i_9, i_10, i_11, i_12, i_13, i_14, i_15, i_16, i_17, i_18, i_19, i_20, i_21, i_22, i_23, i_24, i_25, i_26, i_27, i_31, i_32, i_40, i_42, i_45, i_48, i_51, i_52, i_56, i_58, i_59, i_60, i_61, i_62, i_63, i_64, i_85, i_90, i_100, i_112, i_120, i_121, i_127, i_128, i_130, i_144, i_171, i_192, i_193, i_197, i_200, i_207, i_235, i_240, i_248, i_252, i_254, i_255, i_256, i_512, i_544, i_768, i_769, i_793, i_1000, i_1023, i_1024, i_1200, i_1538, i_1541, i_1545, i_2046, i_2047, i_2049, i_2060, i_2736, i_2737, i_2817, i_2818, i_2819, i_2820, i_2821, i_2831, i_2832, i_3077, i_3085, i_3843, i_3849, i_3851, i_3852, i_4129, i_4353, i_4865, i_5121, i_5122, i_5123, i_6156, i_8192, i_12288, i_16383, i_32000, i_33280, i_49152, i_53247, i_60304, i_64000, i_64512, i_65521, i_65535, i_449838109, nI_add, pk_mul, pk_sub, nI_mm, nI_leI, nI_ltI, nI_eq, pk_div, jrem_N, jshl_N, jshr_N, jushr_N, jmin_N, jmax_N, an_1, an_3, an_7, an_15, an_31, an_63, an_127, an_255, an_1023, an_2047, an_16383, an_65535, nm, pfI, rdI, rdW, rdL, rdI2, rdW2, ldA_N, stA_N, stB_N, stZ_N, pfZ_0, pfZ_1, rtZ_0, rtZ_1, acp_N, Option.bind_some, wp_some_iff, true_and, and_true, false_and, and_false, or_true, true_or, or_false, false_or, not_true_eq_false, not_false_eq_true, if_true, if_false, if_pos, if_neg, lt_sub, le_sub, sub_lt3, sub_le3, hr, c2, z2, z3]
      exact key
