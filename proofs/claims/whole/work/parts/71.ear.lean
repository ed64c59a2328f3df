/-! ===== the craft's ear ===== -/
/-- frames in a unit, one after another -/
def frLen (ds : List Nat) (p : Nat) : Nat := w2 ds (p + 2) % 1024 + 1
def dealsD (ds : List Nat) : Nat → Nat → Dw → Dw
  | 0, _, d => d
  | k + 1, p, d => if ds.length < p + 7 ∨ 64 ≤ ds.getD p 0 then d else if p + frLen ds p ≤ ds.length then dealsD ds k (p + frLen ds p) (dealD d ds p (frLen ds p)) else parD d 17
theorem dealsD_stop {ds : List Nat} {p : Nat} {d : Dw} (h : ds.length < p + 7 ∨ 64 ≤ ds.getD p 0) : ∀ k, dealsD ds k p d = d
  | 0 => rfl
  | k + 1 => by rw [dealsD, if_pos h]
theorem parD_I {d : Dw} {i : Nat} (h : DI d) : DI (parD d i) := h
theorem dealsD_I {ds : List Nat} (hb : ∀ b, b ∈ ds → b < 256) : ∀ (k p : Nat) (d : Dw), DI d → DI (dealsD ds k p d)
  | 0, _, d, h => h
  | k + 1, p, d, h => by
    rw [dealsD]
    split
    · exact h
    · split
      · next q => exact dealsD_I hb k _ _ (dealD_I h hb q)
      · exact parD_I h
theorem DC.fr {μ m : Mem} {d : Dw} {P : Nat → Nat → Prop} (h : DC μ d) (ho : Fr P μ m) (h1 : ∀ c k, c = 100000 ∨ c = 100002 ∨ c = 57 ∧ 12 ≤ k ∧ k ≤ 14 ∨ 59 ≤ c ∧ c ≤ 80 ∨ 87 ≤ c ∧ c ≤ 88 ∨ c = 124 ∨ c = 9 ∧ 8 ≤ k ∧ k ≤ 16 ∨ 102 ≤ c ∧ c ≤ 107 → ¬ P c k) : DC m d :=
  ⟨h.1.fr ho (fun c k _ => h1 c k (by omega)), h.2.1.fr ho (fun k _ _ => h1 _ k (by omega)), by rw [ho.1 _ _ (h1 _ _ (by omega))]; exact h.2.2⟩
theorem DM.fr {μ m : Mem} {d : Dw} {P : Nat → Nat → Prop} (h : DM μ d) (hI : MI d.1.1) (ho : Fr P μ m) (h1 : ∀ c k, c = 129 ∧ (19 ≤ k ∧ k ≤ 25 ∨ k = 77 ∨ k = 80 ∨ k = 81 ∨ k = 86 ∨ k = 87 ∨ k = 104) ∨ 162 ≤ c ∧ c ≤ 163 ∨ 165 ≤ c ∧ c ≤ 166 ∨ 169 ≤ c ∧ c ≤ 181 → ¬ P c k) : DM m d :=
  ⟨h.1.fr hI ho (fun c k _ => h1 c k (by omega)), h.2.1.fr ho (fun k _ _ => h1 _ k (by omega)), by rw [ho.1 _ _ (h1 _ _ (by omega))]; exact h.2.2⟩
theorem an_192 : ∀ v, v < 256 → (nI v &&& nI 192 = nI 0 ↔ v < 64) := by
  have h : (List.range 256).all (fun v => decide (nI v &&& nI 192 = nI 0 ↔ v < 64)) = true := by decide +kernel
  intro v hv
  exact of_decide_eq_true (List.all_eq_true.mp h v (List.mem_range.mpr hv))
theorem Byt.cap10 {μ : Mem} {ds : List Nat} (h : Byt μ 10 ds) : ds.length ≤ 112 := by
  have := h.2.1
  rw [show gln (10 + 1) = 112 from gl_11] at this
  exact this
theorem flen0_C {μ : Mem} {ds : List Nat} {p : Nat} (h : Byt μ 10 ds) (hp : p ≤ ds.length) (q : ds.length < p + 7 ∨ 64 ≤ ds.getD p 0) : f185 (nI p) μ = some (μ, nI 0) := by
  have hl := h.cap10
  have b0 := h.get p
  have a0 := at_ok h (k := p) (by omega)
  have z := h.1
  unfold f185
  by_cases q1 : ds.length < p + 7
  · simp (disch := omega) only [i_0, i_1, i_2, i_3, i_4, i_5, i_6, i_7, i_8, i_9, i_10, i_11, i_12, i_13, i_14, i_15, i_16, i_17, i_18, i_19, i_20, i_21, i_22, i_23, i_24, i_25, i_26, i_27, i_31, i_32, i_40, i_42, i_45, i_48, i_51, i_52, i_56, i_58, i_59, i_60, i_61, i_62, i_63, i_64, i_85, i_90, i_100, i_112, i_120, i_121, i_127, i_128, i_130, i_144, i_171, i_192, i_193, i_197, i_200, i_207, i_235, i_240, i_248, i_252, i_254, i_255, i_256, i_512, i_544, i_768, i_769, i_793, i_1000, i_1023, i_1024, i_1200, i_1538, i_1541, i_1545, i_2046, i_2047, i_2049, i_2060, i_2736, i_2737, i_2817, i_2818, i_2819, i_2820, i_2821, i_2831, i_2832, i_3077, i_3085, i_3843, i_3849, i_3851, i_3852, i_4129, i_4353, i_4865, i_5121, i_5122, i_5123, i_6156, i_8192, i_12288, i_16383, i_32000, i_33280, i_49152, i_53247, i_60304, i_64000, i_64512, i_65521, i_65535, i_449838109, nI_add, pk_mul, pk_sub, nI_mm, nI_leI, nI_ltI, nI_eq, pk_div, jrem_N, jshl_N, jshr_N, jushr_N, jmin_N, jmax_N, an_1, an_3, an_7, an_15, an_31, an_63, an_127, an_255, an_1023, an_2047, an_16383, an_65535, nm, pfI, rdI, rdW, rdL, rdI2, rdW2, ldA_N, stA_N, stB_N, stZ_N, pfZ_0, pfZ_1, rtZ_0, rtZ_1, acp_N, Option.bind_some, wp_some_iff, true_and, and_true, false_and, and_false, or_true, true_or, or_false, false_or, not_true_eq_false, not_false_eq_true, if_true, if_false, if_pos, if_neg, lt_sub, le_sub, sub_lt3, sub_le3, Option.bind_assoc, z]
  · simp (disch := omega) only [i_0, i_1, i_2, i_3, i_4, i_5, i_6, i_7, i_8, i_9, i_10, i_11, i_12, i_13, i_14, i_15, i_16, i_17, i_18, i_19, i_20, i_21, i_22, i_23, i_24, i_25, i_26, i_27, i_31, i_32, i_40, i_42, i_45, i_48, i_51, i_52, i_56, i_58, i_59, i_60, i_61, i_62, i_63, i_64, i_85, i_90, i_100, i_112, i_120, i_121, i_127, i_128, i_130, i_144, i_171, i_192, i_193, i_197, i_200, i_207, i_235, i_240, i_248, i_252, i_254, i_255, i_256, i_512, i_544, i_768, i_769, i_793, i_1000, i_1023, i_1024, i_1200, i_1538, i_1541, i_1545, i_2046, i_2047, i_2049, i_2060, i_2736, i_2737, i_2817, i_2818, i_2819, i_2820, i_2821, i_2831, i_2832, i_3077, i_3085, i_3843, i_3849, i_3851, i_3852, i_4129, i_4353, i_4865, i_5121, i_5122, i_5123, i_6156, i_8192, i_12288, i_16383, i_32000, i_33280, i_49152, i_53247, i_60304, i_64000, i_64512, i_65521, i_65535, i_449838109, nI_add, pk_mul, pk_sub, nI_mm, nI_leI, nI_ltI, nI_eq, pk_div, jrem_N, jshl_N, jshr_N, jushr_N, jmin_N, jmax_N, an_1, an_3, an_7, an_15, an_31, an_63, an_127, an_255, an_1023, an_2047, an_16383, an_65535, nm, pfI, rdI, rdW, rdL, rdI2, rdW2, ldA_N, stA_N, stB_N, stZ_N, pfZ_0, pfZ_1, rtZ_0, rtZ_1, acp_N, Option.bind_some, wp_some_iff, true_and, and_true, false_and, and_false, or_true, true_or, or_false, false_or, not_true_eq_false, not_false_eq_true, if_true, if_false, if_pos, if_neg, lt_sub, le_sub, sub_lt3, sub_le3, Option.bind_assoc, z, a0, an_192 _ b0]
theorem flen1_C {μ : Mem} {ds : List Nat} {p : Nat} (h : Byt μ 10 ds) (hp : p ≤ ds.length) (q : ¬ (ds.length < p + 7 ∨ 64 ≤ ds.getD p 0)) : f185 (nI p) μ = if p + frLen ds p ≤ ds.length then some (μ, nI (frLen ds p)) else some (setI μ 9 9 (μ.1 9 9 + nI 1), nI 0) := by
  have hl := h.cap10
  have b0 := h.get p
  have b2 := h.get (p + 2)
  have b3 := h.get (p + 2 + 1)
  have a0 := at_ok h (k := p) (by omega)
  have a2 := two_ok h (k := p + 2) (by omega)
  have z := h.1
  unfold f185 frLen w2
  simp (disch := omega) only [i_0, i_1, i_2, i_3, i_4, i_5, i_6, i_7, i_8, i_9, i_10, i_11, i_12, i_13, i_14, i_15, i_16, i_17, i_18, i_19, i_20, i_21, i_22, i_23, i_24, i_25, i_26, i_27, i_31, i_32, i_40, i_42, i_45, i_48, i_51, i_52, i_56, i_58, i_59, i_60, i_61, i_62, i_63, i_64, i_85, i_90, i_100, i_112, i_120, i_121, i_127, i_128, i_130, i_144, i_171, i_192, i_193, i_197, i_200, i_207, i_235, i_240, i_248, i_252, i_254, i_255, i_256, i_512, i_544, i_768, i_769, i_793, i_1000, i_1023, i_1024, i_1200, i_1538, i_1541, i_1545, i_2046, i_2047, i_2049, i_2060, i_2736, i_2737, i_2817, i_2818, i_2819, i_2820, i_2821, i_2831, i_2832, i_3077, i_3085, i_3843, i_3849, i_3851, i_3852, i_4129, i_4353, i_4865, i_5121, i_5122, i_5123, i_6156, i_8192, i_12288, i_16383, i_32000, i_33280, i_49152, i_53247, i_60304, i_64000, i_64512, i_65521, i_65535, i_449838109, nI_add, pk_mul, pk_sub, nI_mm, nI_leI, nI_ltI, nI_eq, pk_div, jrem_N, jshl_N, jshr_N, jushr_N, jmin_N, jmax_N, an_1, an_3, an_7, an_15, an_31, an_63, an_127, an_255, an_1023, an_2047, an_16383, an_65535, nm, pfI, rdI, rdW, rdL, rdI2, rdW2, ldA_N, stA_N, stB_N, stZ_N, pfZ_0, pfZ_1, rtZ_0, rtZ_1, acp_N, Option.bind_some, wp_some_iff, true_and, and_true, false_and, and_false, or_true, true_or, or_false, false_or, not_true_eq_false, not_false_eq_true, if_true, if_false, if_pos, if_neg, lt_sub, le_sub, sub_lt3, sub_le3, Option.bind_assoc, z, a0, an_192 _ b0, a2]
  by_cases q2 : p + ((256 * ds.getD (p + 2) 0 + ds.getD (p + 2 + 1) 0) % 1024 + 1) ≤ ds.length
  · rw [if_pos q2, if_pos (by omega)]
  · rw [if_neg q2, if_neg (by omega)]
abbrev FEd : Nat → Nat → Prop := fun c k => FDl c k ∨ c = 9 ∧ 1 ≤ k ∧ k ≤ 3 ∨ c = 10 ∨ c = 11
theorem deals_C {μ : Mem} {d : Dw} {ds : List Nat} (h : DC μ d) (hI : DI d) (hb : Byt μ 10 ds) : wp (f215 μ) (fun m => DC m (dealsD ds 112 0 d) ∧ m.1 9 1 = nI 0 ∧ m.1 9 2 = nI 0 ∧ m.1 9 3 = nI 0 ∧ Byt m 10 [] ∧ Fr FEd μ m) := by
  have hl := hb.cap10
  have hbb := hb.2.2.2
  have fin : ∀ m, DC m (dealsD ds 112 0 d) → Fr FDl μ m → wp (c215_79 m) (fun m => DC m (dealsD ds 112 0 d) ∧ m.1 9 1 = nI 0 ∧ m.1 9 2 = nI 0 ∧ m.1 9 3 = nI 0 ∧ Byt m 10 [] ∧ Fr FEd μ m) := by
    intro m h1 h2
    unfold c215_79 f184
    simp (disch := omega) only [i_0, i_1, i_2, i_3, i_4, i_5, i_6, i_7, i_8, i_9, i_10, i_11, i_12, i_13, i_14, i_15, i_16, i_17, i_18, i_19, i_20, i_21, i_22, i_23, i_24, i_25, i_26, i_27, i_31, i_32, i_40, i_42, i_45, i_48, i_51, i_52, i_56, i_58, i_59, i_60, i_61, i_62, i_63, i_64, i_85, i_90, i_100, i_112, i_120, i_121, i_127, i_128, i_130, i_144, i_171, i_192, i_193, i_197, i_200, i_207, i_235, i_240, i_248, i_252, i_254, i_255, i_256, i_512, i_544, i_768, i_769, i_793, i_1000, i_1023, i_1024, i_1200, i_1538, i_1541, i_1545, i_2046, i_2047, i_2049, i_2060, i_2736, i_2737, i_2817, i_2818, i_2819, i_2820, i_2821, i_2831, i_2832, i_3077, i_3085, i_3843, i_3849, i_3851, i_3852, i_4129, i_4353, i_4865, i_5121, i_5122, i_5123, i_6156, i_8192, i_12288, i_16383, i_32000, i_33280, i_49152, i_53247, i_60304, i_64000, i_64512, i_65521, i_65535, i_449838109, nI_add, pk_mul, pk_sub, nI_mm, nI_leI, nI_ltI, nI_eq, pk_div, jrem_N, jshl_N, jshr_N, jushr_N, jmin_N, jmax_N, an_1, an_3, an_7, an_15, an_31, an_63, an_127, an_255, an_1023, an_2047, an_16383, an_65535, nm, pfI, rdI, rdW, rdL, rdI2, rdW2, ldA_N, stA_N, stB_N, stZ_N, pfZ_0, pfZ_1, rtZ_0, rtZ_1, acp_N, Option.bind_some, wp_some_iff, true_and, and_true, false_and, and_false, or_true, true_or, or_false, false_or, not_true_eq_false, not_false_eq_true, if_true, if_false, if_pos, if_neg, lt_sub, le_sub, sub_lt3, sub_le3, Option.bind_assoc]
    have f1 : Fr (fun c k => c = 9 ∧ 1 ≤ k ∧ k ≤ 3) m (setI (setI (setI m 9 1 (nI 0)) 9 2 (nI 0)) 9 3 (nI 0)) := ((Fr.sI (by omega)).pI (by omega)).pI (by omega)
    have e1 : (setI (setI (setI m 9 1 (nI 0)) 9 2 (nI 0)) 9 3 (nI 0)).1 9 1 = nI 0 := by simp (disch := omega) only [i_0, i_1, i_2, i_3, i_4, i_5, i_6, i_7, i_8, i_9, i_10, i_11, i_12, i_13, i_14, i_15, i_16, i_17, i_18, i_19, i_20, i_21, i_22, i_23, i_24, i_25, i_26, i_27, i_31, i_32, i_40, i_42, i_45, i_48, i_51, i_52, i_56, i_58, i_59, i_60, i_61, i_62, i_63, i_64, i_85, i_90, i_100, i_112, i_120, i_121, i_127, i_128, i_130, i_144, i_171, i_192, i_193, i_197, i_200, i_207, i_235, i_240, i_248, i_252, i_254, i_255, i_256, i_512, i_544, i_768, i_769, i_793, i_1000, i_1023, i_1024, i_1200, i_1538, i_1541, i_1545, i_2046, i_2047, i_2049, i_2060, i_2736, i_2737, i_2817, i_2818, i_2819, i_2820, i_2821, i_2831, i_2832, i_3077, i_3085, i_3843, i_3849, i_3851, i_3852, i_4129, i_4353, i_4865, i_5121, i_5122, i_5123, i_6156, i_8192, i_12288, i_16383, i_32000, i_33280, i_49152, i_53247, i_60304, i_64000, i_64512, i_65521, i_65535, i_449838109, nI_add, pk_mul, pk_sub, nI_mm, nI_leI, nI_ltI, nI_eq, pk_div, jrem_N, jshl_N, jshr_N, jushr_N, jmin_N, jmax_N, an_1, an_3, an_7, an_15, an_31, an_63, an_127, an_255, an_1023, an_2047, an_16383, an_65535, nm, pfI, rdI, rdW, rdL, rdI2, rdW2, ldA_N, stA_N, stB_N, stZ_N, pfZ_0, pfZ_1, rtZ_0, rtZ_1, acp_N, Option.bind_some, wp_some_iff, true_and, and_true, false_and, and_false, or_true, true_or, or_false, false_or, not_true_eq_false, not_false_eq_true, if_true, if_false, if_pos, if_neg, lt_sub, le_sub, sub_lt3, sub_le3, Option.bind_assoc]
    have e2 : (setI (setI (setI m 9 1 (nI 0)) 9 2 (nI 0)) 9 3 (nI 0)).1 9 2 = nI 0 := by simp (disch := omega) only [i_0, i_1, i_2, i_3, i_4, i_5, i_6, i_7, i_8, i_9, i_10, i_11, i_12, i_13, i_14, i_15, i_16, i_17, i_18, i_19, i_20, i_21, i_22, i_23, i_24, i_25, i_26, i_27, i_31, i_32, i_40, i_42, i_45, i_48, i_51, i_52, i_56, i_58, i_59, i_60, i_61, i_62, i_63, i_64, i_85, i_90, i_100, i_112, i_120, i_121, i_127, i_128, i_130, i_144, i_171, i_192, i_193, i_197, i_200, i_207, i_235, i_240, i_248, i_252, i_254, i_255, i_256, i_512, i_544, i_768, i_769, i_793, i_1000, i_1023, i_1024, i_1200, i_1538, i_1541, i_1545, i_2046, i_2047, i_2049, i_2060, i_2736, i_2737, i_2817, i_2818, i_2819, i_2820, i_2821, i_2831, i_2832, i_3077, i_3085, i_3843, i_3849, i_3851, i_3852, i_4129, i_4353, i_4865, i_5121, i_5122, i_5123, i_6156, i_8192, i_12288, i_16383, i_32000, i_33280, i_49152, i_53247, i_60304, i_64000, i_64512, i_65521, i_65535, i_449838109, nI_add, pk_mul, pk_sub, nI_mm, nI_leI, nI_ltI, nI_eq, pk_div, jrem_N, jshl_N, jshr_N, jushr_N, jmin_N, jmax_N, an_1, an_3, an_7, an_15, an_31, an_63, an_127, an_255, an_1023, an_2047, an_16383, an_65535, nm, pfI, rdI, rdW, rdL, rdI2, rdW2, ldA_N, stA_N, stB_N, stZ_N, pfZ_0, pfZ_1, rtZ_0, rtZ_1, acp_N, Option.bind_some, wp_some_iff, true_and, and_true, false_and, and_false, or_true, true_or, or_false, false_or, not_true_eq_false, not_false_eq_true, if_true, if_false, if_pos, if_neg, lt_sub, le_sub, sub_lt3, sub_le3, Option.bind_assoc]
    have e3 : (setI (setI (setI m 9 1 (nI 0)) 9 2 (nI 0)) 9 3 (nI 0)).1 9 3 = nI 0 := by simp (disch := omega) only [i_0, i_1, i_2, i_3, i_4, i_5, i_6, i_7, i_8, i_9, i_10, i_11, i_12, i_13, i_14, i_15, i_16, i_17, i_18, i_19, i_20, i_21, i_22, i_23, i_24, i_25, i_26, i_27, i_31, i_32, i_40, i_42, i_45, i_48, i_51, i_52, i_56, i_58, i_59, i_60, i_61, i_62, i_63, i_64, i_85, i_90, i_100, i_112, i_120, i_121, i_127, i_128, i_130, i_144, i_171, i_192, i_193, i_197, i_200, i_207, i_235, i_240, i_248, i_252, i_254, i_255, i_256, i_512, i_544, i_768, i_769, i_793, i_1000, i_1023, i_1024, i_1200, i_1538, i_1541, i_1545, i_2046, i_2047, i_2049, i_2060, i_2736, i_2737, i_2817, i_2818, i_2819, i_2820, i_2821, i_2831, i_2832, i_3077, i_3085, i_3843, i_3849, i_3851, i_3852, i_4129, i_4353, i_4865, i_5121, i_5122, i_5123, i_6156, i_8192, i_12288, i_16383, i_32000, i_33280, i_49152, i_53247, i_60304, i_64000, i_64512, i_65521, i_65535, i_449838109, nI_add, pk_mul, pk_sub, nI_mm, nI_leI, nI_ltI, nI_eq, pk_div, jrem_N, jshl_N, jshr_N, jushr_N, jmin_N, jmax_N, an_1, an_3, an_7, an_15, an_31, an_63, an_127, an_255, an_1023, an_2047, an_16383, an_65535, nm, pfI, rdI, rdW, rdL, rdI2, rdW2, ldA_N, stA_N, stB_N, stZ_N, pfZ_0, pfZ_1, rtZ_0, rtZ_1, acp_N, Option.bind_some, wp_some_iff, true_and, and_true, false_and, and_false, or_true, true_or, or_false, false_or, not_true_eq_false, not_false_eq_true, if_true, if_false, if_pos, if_neg, lt_sub, le_sub, sub_lt3, sub_le3, Option.bind_assoc]
    generalize setI (setI (setI m 9 1 (nI 0)) 9 2 (nI 0)) 9 3 (nI 0) = m1 at *
    refine wp_bind (wp_bind (cl_ok 10 m1) (fun m2 hm => wp_some hm)) (fun m2 ⟨h3, h4⟩ => wp_some ?_)
    have f12 : Fr (fun c k => c = 9 ∧ 1 ≤ k ∧ k ≤ 3 ∨ c = 10 ∨ c = 11) m m2 := f1.tr h4 (by intro c k h; omega) (by intro c k h; omega)
    exact ⟨h1.fr f12 (fun c k _ => by omega), by rw [h4.1 _ _ (by omega)]; exact e1, by rw [h4.1 _ _ (by omega)]; exact e2, by rw [h4.1 _ _ (by omega)]; exact e3, h3, h2.tr f12 (by intro c k h; omega) (by intro c k h; omega)⟩
  unfold f215 l215_4
  refine wp_for (γ := Nat × Dw × Mem) (fun i x => (nI x.1, nI i, x.2.2)) (fun i x => i ≤ x.1 ∧ x.1 ≤ ds.length ∧ DI x.2.1 ∧ DC x.2.2 x.2.1 ∧ Byt x.2.2 10 ds ∧ Fr FDl μ x.2.2 ∧ dealsD ds (112 - i) x.1 x.2.1 = dealsD ds 112 0 d) 112 (by omega) (0, d, μ) _ rfl ⟨Nat.le_refl _, Nat.zero_le _, hI, h, hb, Fr.rf, rfl⟩ (fun self i x hi hx hk => ?_) (fun self x hx => ?_)
  · obtain ⟨p, d1, m⟩ := x
    obtain ⟨x1, x2, x3, x4, x5, x6, x7⟩ := hx
    dsimp only at x1 x2 x3 x4 x5 x6 x7 ⊢
    unfold b215_4
    by_cases q : ds.length < p + 7 ∨ 64 ≤ ds.getD p 0
    · rw [dealsD_stop q] at x7
      have e := flen0_C x5 x2 q
      simp (disch := omega) only [i_0, i_1, i_2, i_3, i_4, i_5, i_6, i_7, i_8, i_9, i_10, i_11, i_12, i_13, i_14, i_15, i_16, i_17, i_18, i_19, i_20, i_21, i_22, i_23, i_24, i_25, i_26, i_27, i_31, i_32, i_40, i_42, i_45, i_48, i_51, i_52, i_56, i_58, i_59, i_60, i_61, i_62, i_63, i_64, i_85, i_90, i_100, i_112, i_120, i_121, i_127, i_128, i_130, i_144, i_171, i_192, i_193, i_197, i_200, i_207, i_235, i_240, i_248, i_252, i_254, i_255, i_256, i_512, i_544, i_768, i_769, i_793, i_1000, i_1023, i_1024, i_1200, i_1538, i_1541, i_1545, i_2046, i_2047, i_2049, i_2060, i_2736, i_2737, i_2817, i_2818, i_2819, i_2820, i_2821, i_2831, i_2832, i_3077, i_3085, i_3843, i_3849, i_3851, i_3852, i_4129, i_4353, i_4865, i_5121, i_5122, i_5123, i_6156, i_8192, i_12288, i_16383, i_32000, i_33280, i_49152, i_53247, i_60304, i_64000, i_64512, i_65521, i_65535, i_449838109, nI_add, pk_mul, pk_sub, nI_mm, nI_leI, nI_ltI, nI_eq, pk_div, jrem_N, jshl_N, jshr_N, jushr_N, jmin_N, jmax_N, an_1, an_3, an_7, an_15, an_31, an_63, an_127, an_255, an_1023, an_2047, an_16383, an_65535, nm, pfI, rdI, rdW, rdL, rdI2, rdW2, ldA_N, stA_N, stB_N, stZ_N, pfZ_0, pfZ_1, rtZ_0, rtZ_1, acp_N, Option.bind_some, wp_some_iff, true_and, and_true, false_and, and_false, or_true, true_or, or_false, false_or, not_true_eq_false, not_false_eq_true, if_true, if_false, if_pos, if_neg, lt_sub, le_sub, sub_lt3, sub_le3, Option.bind_assoc, e]
      exact fin m (by rw [← x7]; exact x4) x6
    · rw [show 112 - i = (112 - (i + 1)) + 1 by omega, dealsD, if_neg q] at x7
      have e := flen1_C x5 x2 q
      by_cases q2 : p + frLen ds p ≤ ds.length
      · rw [if_pos q2] at e x7
        have hn : 1 ≤ frLen ds p := Nat.le_add_left _ _
        simp (disch := omega) only [i_0, i_1, i_2, i_3, i_4, i_5, i_6, i_7, i_8, i_9, i_10, i_11, i_12, i_13, i_14, i_15, i_16, i_17, i_18, i_19, i_20, i_21, i_22, i_23, i_24, i_25, i_26, i_27, i_31, i_32, i_40, i_42, i_45, i_48, i_51, i_52, i_56, i_58, i_59, i_60, i_61, i_62, i_63, i_64, i_85, i_90, i_100, i_112, i_120, i_121, i_127, i_128, i_130, i_144, i_171, i_192, i_193, i_197, i_200, i_207, i_235, i_240, i_248, i_252, i_254, i_255, i_256, i_512, i_544, i_768, i_769, i_793, i_1000, i_1023, i_1024, i_1200, i_1538, i_1541, i_1545, i_2046, i_2047, i_2049, i_2060, i_2736, i_2737, i_2817, i_2818, i_2819, i_2820, i_2821, i_2831, i_2832, i_3077, i_3085, i_3843, i_3849, i_3851, i_3852, i_4129, i_4353, i_4865, i_5121, i_5122, i_5123, i_6156, i_8192, i_12288, i_16383, i_32000, i_33280, i_49152, i_53247, i_60304, i_64000, i_64512, i_65521, i_65535, i_449838109, nI_add, pk_mul, pk_sub, nI_mm, nI_leI, nI_ltI, nI_eq, pk_div, jrem_N, jshl_N, jshr_N, jushr_N, jmin_N, jmax_N, an_1, an_3, an_7, an_15, an_31, an_63, an_127, an_255, an_1023, an_2047, an_16383, an_65535, nm, pfI, rdI, rdW, rdL, rdI2, rdW2, ldA_N, stA_N, stB_N, stZ_N, pfZ_0, pfZ_1, rtZ_0, rtZ_1, acp_N, Option.bind_some, wp_some_iff, true_and, and_true, false_and, and_false, or_true, true_or, or_false, false_or, not_true_eq_false, not_false_eq_true, if_true, if_false, if_pos, if_neg, lt_sub, le_sub, sub_lt3, sub_le3, Option.bind_assoc, e]
        refine deal_C x4 x3 x5 hn q2 _ _ (fun m2 y1 y2 y3 => ?_)
        unfold c215_69
        simp (disch := omega) only [i_0, i_1, i_2, i_3, i_4, i_5, i_6, i_7, i_8, i_9, i_10, i_11, i_12, i_13, i_14, i_15, i_16, i_17, i_18, i_19, i_20, i_21, i_22, i_23, i_24, i_25, i_26, i_27, i_31, i_32, i_40, i_42, i_45, i_48, i_51, i_52, i_56, i_58, i_59, i_60, i_61, i_62, i_63, i_64, i_85, i_90, i_100, i_112, i_120, i_121, i_127, i_128, i_130, i_144, i_171, i_192, i_193, i_197, i_200, i_207, i_235, i_240, i_248, i_252, i_254, i_255, i_256, i_512, i_544, i_768, i_769, i_793, i_1000, i_1023, i_1024, i_1200, i_1538, i_1541, i_1545, i_2046, i_2047, i_2049, i_2060, i_2736, i_2737, i_2817, i_2818, i_2819, i_2820, i_2821, i_2831, i_2832, i_3077, i_3085, i_3843, i_3849, i_3851, i_3852, i_4129, i_4353, i_4865, i_5121, i_5122, i_5123, i_6156, i_8192, i_12288, i_16383, i_32000, i_33280, i_49152, i_53247, i_60304, i_64000, i_64512, i_65521, i_65535, i_449838109, nI_add, pk_mul, pk_sub, nI_mm, nI_leI, nI_ltI, nI_eq, pk_div, jrem_N, jshl_N, jshr_N, jushr_N, jmin_N, jmax_N, an_1, an_3, an_7, an_15, an_31, an_63, an_127, an_255, an_1023, an_2047, an_16383, an_65535, nm, pfI, rdI, rdW, rdL, rdI2, rdW2, ldA_N, stA_N, stB_N, stZ_N, pfZ_0, pfZ_1, rtZ_0, rtZ_1, acp_N, Option.bind_some, wp_some_iff, true_and, and_true, false_and, and_false, or_true, true_or, or_false, false_or, not_true_eq_false, not_false_eq_true, if_true, if_false, if_pos, if_neg, lt_sub, le_sub, sub_lt3, sub_le3, Option.bind_assoc]
        exact hk (p + frLen ds p, dealD d1 ds p (frLen ds p), m2) ⟨by dsimp only; omega, q2, dealD_I x3 hbb q2, y1, y2, x6.tr y3 (fun _ _ q => q) (fun _ _ q => q), x7⟩
      · rw [if_neg q2] at e x7
        have z9 := x4.1.2.1.2.2
        simp (disch := omega) only [i_0, i_1, i_2, i_3, i_4, i_5, i_6, i_7, i_8, i_9, i_10, i_11, i_12, i_13, i_14, i_15, i_16, i_17, i_18, i_19, i_20, i_21, i_22, i_23, i_24, i_25, i_26, i_27, i_31, i_32, i_40, i_42, i_45, i_48, i_51, i_52, i_56, i_58, i_59, i_60, i_61, i_62, i_63, i_64, i_85, i_90, i_100, i_112, i_120, i_121, i_127, i_128, i_130, i_144, i_171, i_192, i_193, i_197, i_200, i_207, i_235, i_240, i_248, i_252, i_254, i_255, i_256, i_512, i_544, i_768, i_769, i_793, i_1000, i_1023, i_1024, i_1200, i_1538, i_1541, i_1545, i_2046, i_2047, i_2049, i_2060, i_2736, i_2737, i_2817, i_2818, i_2819, i_2820, i_2821, i_2831, i_2832, i_3077, i_3085, i_3843, i_3849, i_3851, i_3852, i_4129, i_4353, i_4865, i_5121, i_5122, i_5123, i_6156, i_8192, i_12288, i_16383, i_32000, i_33280, i_49152, i_53247, i_60304, i_64000, i_64512, i_65521, i_65535, i_449838109, nI_add, pk_mul, pk_sub, nI_mm, nI_leI, nI_ltI, nI_eq, pk_div, jrem_N, jshl_N, jshr_N, jushr_N, jmin_N, jmax_N, an_1, an_3, an_7, an_15, an_31, an_63, an_127, an_255, an_1023, an_2047, an_16383, an_65535, nm, pfI, rdI, rdW, rdL, rdI2, rdW2, ldA_N, stA_N, stB_N, stZ_N, pfZ_0, pfZ_1, rtZ_0, rtZ_1, acp_N, Option.bind_some, wp_some_iff, true_and, and_true, false_and, and_false, or_true, true_or, or_false, false_or, not_true_eq_false, not_false_eq_true, if_true, if_false, if_pos, if_neg, lt_sub, le_sub, sub_lt3, sub_le3, Option.bind_assoc, e]
        refine fin _ ?_ (x6.pI (by omega))
        rw [← x7]
        exact x4.par (i := 17) (j := 9) (Or.inr rfl) rfl (by rw [z9])
  · obtain ⟨p, d1, m⟩ := x
    obtain ⟨x1, x2, x3, x4, x5, x6, x7⟩ := hx
    dsimp only at x1 x2 x3 x4 x5 x6 x7 ⊢
    unfold b215_4
    simp (disch := omega) only [i_0, i_1, i_2, i_3, i_4, i_5, i_6, i_7, i_8, i_9, i_10, i_11, i_12, i_13, i_14, i_15, i_16, i_17, i_18, i_19, i_20, i_21, i_22, i_23, i_24, i_25, i_26, i_27, i_31, i_32, i_40, i_42, i_45, i_48, i_51, i_52, i_56, i_58, i_59, i_60, i_61, i_62, i_63, i_64, i_85, i_90, i_100, i_112, i_120, i_121, i_127, i_128, i_130, i_144, i_171, i_192, i_193, i_197, i_200, i_207, i_235, i_240, i_248, i_252, i_254, i_255, i_256, i_512, i_544, i_768, i_769, i_793, i_1000, i_1023, i_1024, i_1200, i_1538, i_1541, i_1545, i_2046, i_2047, i_2049, i_2060, i_2736, i_2737, i_2817, i_2818, i_2819, i_2820, i_2821, i_2831, i_2832, i_3077, i_3085, i_3843, i_3849, i_3851, i_3852, i_4129, i_4353, i_4865, i_5121, i_5122, i_5123, i_6156, i_8192, i_12288, i_16383, i_32000, i_33280, i_49152, i_53247, i_60304, i_64000, i_64512, i_65521, i_65535, i_449838109, nI_add, pk_mul, pk_sub, nI_mm, nI_leI, nI_ltI, nI_eq, pk_div, jrem_N, jshl_N, jshr_N, jushr_N, jmin_N, jmax_N, an_1, an_3, an_7, an_15, an_31, an_63, an_127, an_255, an_1023, an_2047, an_16383, an_65535, nm, pfI, rdI, rdW, rdL, rdI2, rdW2, ldA_N, stA_N, stB_N, stZ_N, pfZ_0, pfZ_1, rtZ_0, rtZ_1, acp_N, Option.bind_some, wp_some_iff, true_and, and_true, false_and, and_false, or_true, true_or, or_false, false_or, not_true_eq_false, not_false_eq_true, if_true, if_false, if_pos, if_neg, lt_sub, le_sub, sub_lt3, sub_le3, Option.bind_assoc]
    exact fin m (by rw [← x7]; exact x4) x6
/-! the block's bits -/
theorem pfLs {a k : Nat} {x : Int64} {μ : Mem} : pfL a k x μ = some (setL μ a k x) := rfl
theorem rdL2 {μ : Mem} {a k : Nat} {x : Int64} : (setL μ a k x).2 a k = x := by
  show va_up μ.2 a (va_up (μ.2 a) k x) a k = x
  rw [gup_s, gup_s]
theorem lN_mod (n : Nat) : lN n = lN (n % 2 ^ 64) := by
  apply Int64.toBitVec_inj.mp
  rw [lN_bv, lN_bv]
  apply BitVec.eq_of_toNat_eq
  rw [BitVec.toNat_ofNat, BitVec.toNat_ofNat, Nat.mod_mod]
theorem lshl1 {B b : Nat} (hb : b < 2) : jlshl (lN B) (nI 1) ||| (nI b).toInt64 = lN ((2 * B + b) % 2 ^ 64) := by
  rw [show jlshl (lN B) (nI 1) = lN (B * 2 ^ 1) from wb_shl _ (by decide), nI_l (by omega), lN_mod (B * 2 ^ 1), show B * 2 ^ 1 % 2 ^ 64 = (B % 2 ^ 63) * 2 by omega, g_or (k := 1) (p := 2) rfl hb (by omega)]
  congr 1
  omega
theorem lowbits {B b nb : Nat} (hb : b < 2) (hn : nb < 64) : (2 * B + b) % 2 ^ 64 % 2 ^ (nb + 1) = 2 * (B % 2 ^ nb) + b := by
  rw [Nat.mod_mod_of_dvd _ (Nat.pow_dvd_pow 2 (by omega)), Nat.pow_succ, Nat.mul_comm (2 ^ nb) 2]
  have hs := Nat.two_pow_pos nb
  generalize 2 ^ nb = s at *
  have h1 := Nat.mod_lt B hs
  have h2 := Nat.div_add_mod B s
  have h3 : 2 * B + b = 2 * s * (B / s) + (2 * (B % s) + b) := by
    rw [Nat.mul_assoc]
    omega
  rw [h3, Nat.mul_add_mod, Nat.mod_eq_of_lt (by omega)]
/-! the ear's state: the machine; in a unit, window, bits seen; the block's number and bits; the unit's bytes; mended; units -/
abbrev Ew : Type := Dw × (Bool × Nat × Nat) × (Nat × Nat) × List Nat × Int32 × Int32
def EC (μ : Mem) (e : Ew) : Prop := DC μ e.1 ∧ μ.1 9 1 = nI (b2n e.2.1.1) ∧ μ.1 9 2 = nI e.2.1.2.1 ∧ μ.1 9 3 = nI e.2.1.2.2 ∧ (∃ B, B < 2 ^ 64 ∧ μ.2 9 4 = lN B ∧ e.2.2.1.1 = B % 2 ^ e.2.2.1.2) ∧ μ.1 9 5 = nI e.2.2.1.2 ∧ Byt μ 10 e.2.2.2.1 ∧ μ.1 9 6 = e.2.2.2.2.1 ∧ μ.1 9 7 = e.2.2.2.2.2
def EI (e : Ew) : Prop := DI e.1 ∧ e.2.1.2.1 < 65536 ∧ e.2.1.2.2 ≤ 16 ∧ e.2.2.1.2 < 64 ∧ e.2.2.1.1 < 2 ^ e.2.2.1.2 ∧ e.2.2.2.1.length ≤ 112 ∧ e.2.2.2.1.length % 7 = 0 ∧ (∀ b, b ∈ e.2.2.2.1 → b < 256) ∧ (e.2.1.1 = false → e.2.2.2.1 = [] ∧ e.2.2.1.2 = 0)
def endE (d : Dw) (ds : List Nat) (me un : Int32) : Ew := (dealsD ds 112 0 d, (false, 0, 0), (0, 0), [], me, un)
def bitE (b w : Nat) : Nat := (2 * w + b) % 65536
def cntE (c : Nat) : Nat := if 16 ≤ c then c else c + 1
def hearE (b : Nat) (e : Ew) : Ew :=
  if e.2.1.1 = false then
    (if cntE e.2.1.2.2 = 16 ∧ onN (bitE b e.2.1.2.1 ^^^ 60304) 32 ≤ 1 then (e.1, (true, bitE b e.2.1.2.1, cntE e.2.1.2.2), (0, 0), [], e.2.2.2.2.1, e.2.2.2.2.2 + nI 1)
    else (e.1, (false, bitE b e.2.1.2.1, cntE e.2.1.2.2), e.2.2))
  else if e.2.2.1.2 + 1 = 64 then
    (if e.2.2.2.1.length = 112 then endE e.1 e.2.2.2.1 e.2.2.2.2.1 e.2.2.2.2.2
    else match mnd (2 * e.2.2.1.1 + b) with
      | none => endE e.1 e.2.2.2.1 e.2.2.2.2.1 e.2.2.2.2.2
      | some q => (e.1, e.2.1, (0, 0), e.2.2.2.1 ++ sev q.1, e.2.2.2.2.1 + nI q.2, e.2.2.2.2.2))
  else (e.1, e.2.1, (2 * e.2.2.1.1 + b, e.2.2.1.2 + 1), e.2.2.2)
theorem endE_I {d : Dw} {ds : List Nat} {me un : Int32} (h : DI d) (hb : ∀ b, b ∈ ds → b < 256) : EI (endE d ds me un) :=
  ⟨dealsD_I hb _ _ _ h, (show 0 < 65536 by decide), Nat.zero_le _, (show 0 < 64 by decide), (show 0 < 2 ^ 0 by decide), Nat.zero_le _, rfl, fun b hb => (by cases hb), fun _ => ⟨rfl, rfl⟩⟩
theorem cntE_le {c : Nat} (h : c ≤ 16) : cntE c ≤ 16 := by
  unfold cntE
  split <;> omega
theorem hearE_I {e : Ew} {b : Nat} (h : EI e) (hb : b < 2) : EI (hearE b e) := by
  obtain ⟨d, ⟨hb1, w, c⟩, ⟨A, nb⟩, ds, me, un⟩ := e
  obtain ⟨h1, h2, h3, h4, h5, h6, h7, h8, h9⟩ := h
  dsimp only at h1 h2 h3 h4 h5 h6 h7 h8 h9
  have hw : bitE b w < 65536 := Nat.mod_lt _ (by decide)
  have hc := cntE_le h3
  unfold hearE
  dsimp only
  split
  · next q =>
    split
    · exact ⟨h1, hw, hc, (show 0 < 64 by decide), (show 0 < 2 ^ 0 by decide), Nat.zero_le _, rfl, fun b hb => (by cases hb), fun z => by cases z⟩
    · exact ⟨h1, hw, hc, h4, h5, h6, h7, h8, fun _ => h9 q⟩
  · next q =>
    split
    · split
      · exact endE_I h1 h8
      · next ql =>
        cases hm : mnd (2 * A + b) with
        | none => exact endE_I h1 h8
        | some z =>
          refine ⟨h1, h2, h3, (show 0 < 64 by decide), (show 0 < 2 ^ 0 by decide), ?_, ?_, mem_lt_app h8 (sev_lt _), fun z => absurd z q⟩
          · show (ds ++ sev z.1).length ≤ 112
            rw [List.length_append, sev_len]
            omega
          · show (ds ++ sev z.1).length % 7 = 0
            rw [List.length_append, sev_len]
            omega
    · next ql =>
      refine ⟨h1, h2, h3, (show nb + 1 < 64 by omega), ?_, h6, h7, h8, fun z => absurd z q⟩
      show 2 * A + b < 2 ^ (nb + 1)
      rw [Nat.pow_succ]
      omega
