/-! ===== the schedule: what stands against a request ===== -/
theorem lgc_le {a b : Int64} : lg_cmp a b ≤ 0 ↔ a.toInt ≤ b.toInt := by
  unfold lg_cmp
  by_cases e1 : a > b
  · rw [if_pos e1]
    have := Int64.lt_iff_toInt_lt.mp e1
    constructor
    · intro h; exact absurd h (by decide)
    · intro h; omega
  · rw [if_neg e1]
    have : ¬ b.toInt < a.toInt := fun z => e1 (Int64.lt_iff_toInt_lt.mpr z)
    by_cases e2 : a = b
    · rw [if_pos e2]
      constructor
      · intro _; omega
      · intro _; decide
    · rw [if_neg e2]
      constructor
      · intro _; omega
      · intro _; decide
theorem lgc_gt {a b : Int64} : 0 < lg_cmp a b ↔ b.toInt < a.toInt := by
  unfold lg_cmp
  by_cases e1 : a > b
  · rw [if_pos e1]
    have := Int64.lt_iff_toInt_lt.mp e1
    constructor
    · intro _; exact this
    · intro _; decide
  · rw [if_neg e1]
    have : ¬ b.toInt < a.toInt := fun z => e1 (Int64.lt_iff_toInt_lt.mpr z)
    by_cases e2 : a = b
    · rw [if_pos e2]
      constructor
      · intro h; exact absurd h (by decide)
      · intro h; omega
    · rw [if_neg e2]
      constructor
      · intro h; exact absurd h (by decide)
      · intro h; omega
theorem sx64 {v : Nat} (h : v < 4294967296) : (nI v).toInt64.toInt = if v < 2147483648 then (v : Int) else (v : Int) - 4294967296 := by
  rw [Int32.toInt_toInt64]
  show (BitVec.ofNat 32 v).toInt = _
  rw [BitVec.toInt_eq_toNat_cond, BitVec.toNat_ofNat, Nat.mod_eq_of_lt h]
  split <;> split <;> omega
theorem add64 {t v : Nat} (ht : t < 2147483648) (h : v < 4294967296) : ((nI t).toInt64 + (nI v).toInt64).toInt = if v < 2147483648 then (t : Int) + v else (t : Int) + v - 4294967296 := by
  rw [Int64.toInt_add, sx64 (by omega), sx64 h, if_pos ht]
  split
  · rw [Int.bmod_eq_of_le (by omega) (by omega)]
  · rw [Int.bmod_eq_of_le (by omega) (by omega)]
    omega
theorem tick64 {t : Nat} (ht : t < 2 ^ 30) : ((nI t).toInt64 + (1 : Int64)).toInt = (t : Int) + 1 := by
  rw [Int64.toInt_add, sx64 (by omega), if_pos (by omega), show (1 : Int64).toInt = 1 from rfl, Int.bmod_eq_of_le (by omega) (by omega)]
/-- a time, shifted, is later than the next tick and no greater than an int may be -/
def ltr (tk t v : Nat) : Bool := decide (if v < 2147483648 then tk + 1 < t + v ∧ t + v ≤ 2147483647 else tk + 1 + 4294967296 < t + v ∧ t + v ≤ 2147483647 + 4294967296)
theorem later_C {μ : Mem} {x : Int64} {tk t v : Nat} (ht : μ.1 57 12 = nI tk) (htk : tk < 2 ^ 30) (hv : v < 4294967296) (hx : x.toInt = if v < 2147483648 then (t : Int) + v else (t : Int) + v - 4294967296) : f54 x μ = some (μ, nI (b2n (ltr tk t v))) := by
  have e2 := tick64 htk
  have e3 : (2147483647 : Int64).toInt = 2147483647 := rfl
  unfold f54 ltr
  rw [ht]
  simp only [lgc_le, lgc_gt, e2, e3, hx]
  by_cases q : v < 2147483648
  · simp only [if_pos q]
    by_cases q1 : tk + 1 < t + v
    · rw [if_neg (by omega)]
      by_cases q2 : t + v ≤ 2147483647
      · rw [if_neg (by omega), decide_eq_true ⟨q1, q2⟩]; rfl
      · rw [if_pos (by omega), decide_eq_false (fun z => q2 z.2)]; rfl
    · rw [if_pos (by omega), decide_eq_false (fun z => q1 z.1)]; rfl
  · simp only [if_neg q]
    by_cases q1 : tk + 1 + 4294967296 < t + v
    · rw [if_neg (by omega)]
      by_cases q2 : t + v ≤ 2147483647 + 4294967296
      · rw [if_neg (by omega), decide_eq_true ⟨q1, q2⟩]; rfl
      · rw [if_pos (by omega), decide_eq_false (fun z => q2 z.2)]; rfl
    · rw [if_pos (by omega), decide_eq_false (fun z => q1 z.1)]; rfl
/-! looking for a count -/
def ctE (es : List Pk) (i : Nat) : Nat := w2 (pk es i).1 2 % 16384
def fcN (es : List Pk) (c : Nat) : Option Nat := (List.range es.length).find? (fun n => decide (ctE es (nthI es n) = c))
theorem fcN_some {es : List Pk} {c n : Nat} (h : fcN es c = some n) : n < es.length := by
  unfold fcN at h
  exact List.mem_range.mp (List.mem_of_find?_eq_some h)
theorem fcN_of {es : List Pk} {c n : Nat} (hn : n < es.length) (h : ctE es (nthI es n) = c) (h2 : ∀ j, j < n → ctE es (nthI es j) ≠ c) : fcN es c = some n := by
  unfold fcN
  rw [List.find?_range_eq_some]
  refine ⟨by simp [h], List.mem_range.mpr hn, fun j hj => ?_⟩
  simp only [Bool.not_eq_true', decide_eq_false_iff_not]
  exact h2 j hj
theorem fcN_none {es : List Pk} {c : Nat} (h : ∀ j, j < es.length → ctE es (nthI es j) ≠ c) : fcN es c = none := by
  unfold fcN
  rw [List.find?_eq_none]
  intro i hi
  rw [decide_eq_true_eq]
  exact h i (List.mem_range.mp hi)
theorem cnt_C {μ : Mem} {es : List Pk} {i : Nat} (h : Shf μ 108 es) (hi : i < es.length) : f56 (nI i) μ = some (μ, nI (ctE es i)) := by
  have e := twoOf_y h hi (k := 2) (by omega)
  unfold f56 ctE w2
  simp (disch := omega) only [i_0, i_1, i_2, i_3, i_4, i_5, i_6, i_7, i_8, i_9, i_10, i_11, i_12, i_13, i_14, i_15, i_16, i_17, i_18, i_19, i_20, i_21, i_22, i_23, i_24, i_25, i_26, i_27, i_31, i_32, i_40, i_42, i_45, i_48, i_51, i_52, i_56, i_58, i_59, i_60, i_61, i_62, i_63, i_64, i_85, i_90, i_100, i_112, i_120, i_121, i_127, i_128, i_130, i_144, i_171, i_192, i_193, i_197, i_200, i_207, i_235, i_240, i_248, i_252, i_254, i_255, i_256, i_512, i_544, i_768, i_769, i_793, i_1000, i_1023, i_1024, i_1200, i_1538, i_1541, i_1545, i_2046, i_2047, i_2049, i_2060, i_2736, i_2737, i_2817, i_2818, i_2819, i_2820, i_2821, i_2831, i_2832, i_3077, i_3085, i_3843, i_3849, i_3851, i_3852, i_4129, i_4353, i_4865, i_5121, i_5122, i_5123, i_6156, i_8192, i_12288, i_16383, i_32000, i_33280, i_49152, i_53247, i_60304, i_64000, i_64512, i_65521, i_65535, i_449838109, nI_add, pk_mul, pk_sub, nI_mm, nI_leI, nI_ltI, nI_eq, pk_div, jrem_N, jshl_N, jshr_N, jushr_N, jmin_N, jmax_N, an_1, an_3, an_7, an_15, an_31, an_63, an_127, an_255, an_1023, an_2047, an_16383, an_65535, nm, pfI, rdI, rdW, rdL, rdI2, rdW2, ldA_N, stA_N, stB_N, stZ_N, pfZ_0, pfZ_1, rtZ_0, rtZ_1, acp_N, Option.bind_some, wp_some_iff, true_and, and_true, false_and, and_false, or_true, true_or, or_false, false_or, not_true_eq_false, not_false_eq_true, if_true, if_false, if_pos, if_neg, lt_sub, le_sub, sub_lt3, sub_le3, Option.bind_assoc, e]
theorem fc_C {μ : Mem} {es : List Pk} {c : Nat} (h : Shf μ 108 es) (hI : EnI es) (hc : c < 65536) : f57 (nI c) μ = some (μ, match fcN es c with | some n => nI (nthI es n) | none => -nI 1) := by
  apply wp_eq
  have hl := hI.1
  have h5 := h.1
  unfold f57 l57_2
  refine wp_for (fun i m => (nI c, nI i, m)) (fun i m => m = μ ∧ ∀ j, j < i → ctE es (nthI es j) ≠ c) es.length (by omega) μ _ rfl ⟨rfl, fun j hj => absurd hj (Nat.not_lt_zero _)⟩ (fun self i m hi ⟨x1, x2⟩ hk => ?_) (fun self m ⟨x1, x2⟩ => ?_)
  · subst x1
    have en := nth_C h hI (n := i) (by omega)
    rw [nthV_y hi] at en
    have ec := cnt_C h (nth_lt hi).1
    have hcl : ctE es (nthI es i) < 16384 := Nat.mod_lt _ (by decide)
    unfold b57_2
    by_cases q : ctE es (nthI es i) = c
    · rw [fcN_of hi q x2]
      simp (disch := omega) only [i_0, i_1, i_2, i_3, i_4, i_5, i_6, i_7, i_8, i_9, i_10, i_11, i_12, i_13, i_14, i_15, i_16, i_17, i_18, i_19, i_20, i_21, i_22, i_23, i_24, i_25, i_26, i_27, i_31, i_32, i_40, i_42, i_45, i_48, i_51, i_52, i_56, i_58, i_59, i_60, i_61, i_62, i_63, i_64, i_85, i_90, i_100, i_112, i_120, i_121, i_127, i_128, i_130, i_144, i_171, i_192, i_193, i_197, i_200, i_207, i_235, i_240, i_248, i_252, i_254, i_255, i_256, i_512, i_544, i_768, i_769, i_793, i_1000, i_1023, i_1024, i_1200, i_1538, i_1541, i_1545, i_2046, i_2047, i_2049, i_2060, i_2736, i_2737, i_2817, i_2818, i_2819, i_2820, i_2821, i_2831, i_2832, i_3077, i_3085, i_3843, i_3849, i_3851, i_3852, i_4129, i_4353, i_4865, i_5121, i_5122, i_5123, i_6156, i_8192, i_12288, i_16383, i_32000, i_33280, i_49152, i_53247, i_60304, i_64000, i_64512, i_65521, i_65535, i_449838109, nI_add, pk_mul, pk_sub, nI_mm, nI_leI, nI_ltI, nI_eq, pk_div, jrem_N, jshl_N, jshr_N, jushr_N, jmin_N, jmax_N, an_1, an_3, an_7, an_15, an_31, an_63, an_127, an_255, an_1023, an_2047, an_16383, an_65535, nm, pfI, rdI, rdW, rdL, rdI2, rdW2, ldA_N, stA_N, stB_N, stZ_N, pfZ_0, pfZ_1, rtZ_0, rtZ_1, acp_N, Option.bind_some, wp_some_iff, true_and, and_true, false_and, and_false, or_true, true_or, or_false, false_or, not_true_eq_false, not_false_eq_true, if_true, if_false, if_pos, if_neg, lt_sub, le_sub, sub_lt3, sub_le3, Option.bind_assoc, h5, en, ec, q]
    · simp (disch := omega) only [i_0, i_1, i_2, i_3, i_4, i_5, i_6, i_7, i_8, i_9, i_10, i_11, i_12, i_13, i_14, i_15, i_16, i_17, i_18, i_19, i_20, i_21, i_22, i_23, i_24, i_25, i_26, i_27, i_31, i_32, i_40, i_42, i_45, i_48, i_51, i_52, i_56, i_58, i_59, i_60, i_61, i_62, i_63, i_64, i_85, i_90, i_100, i_112, i_120, i_121, i_127, i_128, i_130, i_144, i_171, i_192, i_193, i_197, i_200, i_207, i_235, i_240, i_248, i_252, i_254, i_255, i_256, i_512, i_544, i_768, i_769, i_793, i_1000, i_1023, i_1024, i_1200, i_1538, i_1541, i_1545, i_2046, i_2047, i_2049, i_2060, i_2736, i_2737, i_2817, i_2818, i_2819, i_2820, i_2821, i_2831, i_2832, i_3077, i_3085, i_3843, i_3849, i_3851, i_3852, i_4129, i_4353, i_4865, i_5121, i_5122, i_5123, i_6156, i_8192, i_12288, i_16383, i_32000, i_33280, i_49152, i_53247, i_60304, i_64000, i_64512, i_65521, i_65535, i_449838109, nI_add, pk_mul, pk_sub, nI_mm, nI_leI, nI_ltI, nI_eq, pk_div, jrem_N, jshl_N, jshr_N, jushr_N, jmin_N, jmax_N, an_1, an_3, an_7, an_15, an_31, an_63, an_127, an_255, an_1023, an_2047, an_16383, an_65535, nm, pfI, rdI, rdW, rdL, rdI2, rdW2, ldA_N, stA_N, stB_N, stZ_N, pfZ_0, pfZ_1, rtZ_0, rtZ_1, acp_N, Option.bind_some, wp_some_iff, true_and, and_true, false_and, and_false, or_true, true_or, or_false, false_or, not_true_eq_false, not_false_eq_true, if_true, if_false, if_pos, if_neg, lt_sub, le_sub, sub_lt3, sub_le3, Option.bind_assoc, h5, en, ec, q]
      exact hk m ⟨rfl, fun j hj => by
        by_cases e : j = i
        · rw [e]; exact q
        · exact x2 j (by omega)⟩
  · subst x1
    rw [fcN_none x2]
    unfold b57_2
    simp (disch := omega) only [i_0, i_1, i_2, i_3, i_4, i_5, i_6, i_7, i_8, i_9, i_10, i_11, i_12, i_13, i_14, i_15, i_16, i_17, i_18, i_19, i_20, i_21, i_22, i_23, i_24, i_25, i_26, i_27, i_31, i_32, i_40, i_42, i_45, i_48, i_51, i_52, i_56, i_58, i_59, i_60, i_61, i_62, i_63, i_64, i_85, i_90, i_100, i_112, i_120, i_121, i_127, i_128, i_130, i_144, i_171, i_192, i_193, i_197, i_200, i_207, i_235, i_240, i_248, i_252, i_254, i_255, i_256, i_512, i_544, i_768, i_769, i_793, i_1000, i_1023, i_1024, i_1200, i_1538, i_1541, i_1545, i_2046, i_2047, i_2049, i_2060, i_2736, i_2737, i_2817, i_2818, i_2819, i_2820, i_2821, i_2831, i_2832, i_3077, i_3085, i_3843, i_3849, i_3851, i_3852, i_4129, i_4353, i_4865, i_5121, i_5122, i_5123, i_6156, i_8192, i_12288, i_16383, i_32000, i_33280, i_49152, i_53247, i_60304, i_64000, i_64512, i_65521, i_65535, i_449838109, nI_add, pk_mul, pk_sub, nI_mm, nI_leI, nI_ltI, nI_eq, pk_div, jrem_N, jshl_N, jshr_N, jushr_N, jmin_N, jmax_N, an_1, an_3, an_7, an_15, an_31, an_63, an_127, an_255, an_1023, an_2047, an_16383, an_65535, nm, pfI, rdI, rdW, rdL, rdI2, rdW2, ldA_N, stA_N, stB_N, stZ_N, pfZ_0, pfZ_1, rtZ_0, rtZ_1, acp_N, Option.bind_some, wp_some_iff, true_and, and_true, false_and, and_false, or_true, true_or, or_false, false_or, not_true_eq_false, not_false_eq_true, if_true, if_false, if_pos, if_neg, lt_sub, le_sub, sub_lt3, sub_le3, Option.bind_assoc, h5]
theorem cntE_M {μ : Mem} {s : Tw} {j : Nat} (h : ScM μ s) (hE : EnI s.2.2) (hj : j < s.2.2.length) : f313 207 (nI (40 * j + 2)) μ = some (μ, nI (w2 (pk s.2.2 (nthI s.2.2 j)).1 2)) := by
  have g := gl_207
  have hn := hE.2 _ (nth_lt hj).1
  have hl := hE.1
  exact word_M (h.2.2.2 j hj).2.2.2 (by omega) (by omega)
theorem fc_M {μ : Mem} {s : Tw} {c : Nat} (h : ScM μ s) (hE : EnI s.2.2) (hc : c < 65536) : f333 (nI c) μ = some (μ, match fcN s.2.2 c with | some n => nI n | none => -nI 2) := by
  apply wp_eq
  have hl := hE.1
  have h5 := h.2.2.1
  unfold f333 l333_2
  refine wp_for (fun i m => (nI c, nI i, m)) (fun i m => m = μ ∧ ∀ j, j < i → ctE s.2.2 (nthI s.2.2 j) ≠ c) s.2.2.length (by omega) μ _ rfl ⟨rfl, fun j hj => absurd hj (Nat.not_lt_zero _)⟩ (fun self i m hi ⟨x1, x2⟩ hk => ?_) (fun self m ⟨x1, x2⟩ => ?_)
  · subst x1
    have ec := cntE_M h hE hi
    have hcl : ctE s.2.2 (nthI s.2.2 i) < 16384 := Nat.mod_lt _ (by decide)
    unfold b333_2
    unfold ctE at hcl
    by_cases q : ctE s.2.2 (nthI s.2.2 i) = c
    · rw [fcN_of hi q x2]
      unfold ctE at q
      simp (disch := omega) only [i_0, i_1, i_2, i_3, i_4, i_5, i_6, i_7, i_8, i_9, i_10, i_11, i_12, i_13, i_14, i_15, i_16, i_17, i_18, i_19, i_20, i_21, i_22, i_23, i_24, i_25, i_26, i_27, i_31, i_32, i_40, i_42, i_45, i_48, i_51, i_52, i_56, i_58, i_59, i_60, i_61, i_62, i_63, i_64, i_85, i_90, i_100, i_112, i_120, i_121, i_127, i_128, i_130, i_144, i_171, i_192, i_193, i_197, i_200, i_207, i_235, i_240, i_248, i_252, i_254, i_255, i_256, i_512, i_544, i_768, i_769, i_793, i_1000, i_1023, i_1024, i_1200, i_1538, i_1541, i_1545, i_2046, i_2047, i_2049, i_2060, i_2736, i_2737, i_2817, i_2818, i_2819, i_2820, i_2821, i_2831, i_2832, i_3077, i_3085, i_3843, i_3849, i_3851, i_3852, i_4129, i_4353, i_4865, i_5121, i_5122, i_5123, i_6156, i_8192, i_12288, i_16383, i_32000, i_33280, i_49152, i_53247, i_60304, i_64000, i_64512, i_65521, i_65535, i_449838109, nI_add, pk_mul, pk_sub, nI_mm, nI_leI, nI_ltI, nI_eq, pk_div, jrem_N, jshl_N, jshr_N, jushr_N, jmin_N, jmax_N, an_1, an_3, an_7, an_15, an_31, an_63, an_127, an_255, an_1023, an_2047, an_16383, an_65535, nm, pfI, rdI, rdW, rdL, rdI2, rdW2, ldA_N, stA_N, stB_N, stZ_N, pfZ_0, pfZ_1, rtZ_0, rtZ_1, acp_N, Option.bind_some, wp_some_iff, true_and, and_true, false_and, and_false, or_true, true_or, or_false, false_or, not_true_eq_false, not_false_eq_true, if_true, if_false, if_pos, if_neg, lt_sub, le_sub, sub_lt3, sub_le3, Option.bind_assoc, h5, ec, q]
    · have q' := q
      unfold ctE at q'
      simp (disch := omega) only [i_0, i_1, i_2, i_3, i_4, i_5, i_6, i_7, i_8, i_9, i_10, i_11, i_12, i_13, i_14, i_15, i_16, i_17, i_18, i_19, i_20, i_21, i_22, i_23, i_24, i_25, i_26, i_27, i_31, i_32, i_40, i_42, i_45, i_48, i_51, i_52, i_56, i_58, i_59, i_60, i_61, i_62, i_63, i_64, i_85, i_90, i_100, i_112, i_120, i_121, i_127, i_128, i_130, i_144, i_171, i_192, i_193, i_197, i_200, i_207, i_235, i_240, i_248, i_252, i_254, i_255, i_256, i_512, i_544, i_768, i_769, i_793, i_1000, i_1023, i_1024, i_1200, i_1538, i_1541, i_1545, i_2046, i_2047, i_2049, i_2060, i_2736, i_2737, i_2817, i_2818, i_2819, i_2820, i_2821, i_2831, i_2832, i_3077, i_3085, i_3843, i_3849, i_3851, i_3852, i_4129, i_4353, i_4865, i_5121, i_5122, i_5123, i_6156, i_8192, i_12288, i_16383, i_32000, i_33280, i_49152, i_53247, i_60304, i_64000, i_64512, i_65521, i_65535, i_449838109, nI_add, pk_mul, pk_sub, nI_mm, nI_leI, nI_ltI, nI_eq, pk_div, jrem_N, jshl_N, jshr_N, jushr_N, jmin_N, jmax_N, an_1, an_3, an_7, an_15, an_31, an_63, an_127, an_255, an_1023, an_2047, an_16383, an_65535, nm, pfI, rdI, rdW, rdL, rdI2, rdW2, ldA_N, stA_N, stB_N, stZ_N, pfZ_0, pfZ_1, rtZ_0, rtZ_1, acp_N, Option.bind_some, wp_some_iff, true_and, and_true, false_and, and_false, or_true, true_or, or_false, false_or, not_true_eq_false, not_false_eq_true, if_true, if_false, if_pos, if_neg, lt_sub, le_sub, sub_lt3, sub_le3, Option.bind_assoc, h5, ec, q']
      exact hk m ⟨rfl, fun j hj => by
        by_cases e : j = i
        · rw [e]; exact q
        · exact x2 j (by omega)⟩
  · subst x1
    rw [fcN_none x2]
    unfold b333_2
    simp (disch := omega) only [i_0, i_1, i_2, i_3, i_4, i_5, i_6, i_7, i_8, i_9, i_10, i_11, i_12, i_13, i_14, i_15, i_16, i_17, i_18, i_19, i_20, i_21, i_22, i_23, i_24, i_25, i_26, i_27, i_31, i_32, i_40, i_42, i_45, i_48, i_51, i_52, i_56, i_58, i_59, i_60, i_61, i_62, i_63, i_64, i_85, i_90, i_100, i_112, i_120, i_121, i_127, i_128, i_130, i_144, i_171, i_192, i_193, i_197, i_200, i_207, i_235, i_240, i_248, i_252, i_254, i_255, i_256, i_512, i_544, i_768, i_769, i_793, i_1000, i_1023, i_1024, i_1200, i_1538, i_1541, i_1545, i_2046, i_2047, i_2049, i_2060, i_2736, i_2737, i_2817, i_2818, i_2819, i_2820, i_2821, i_2831, i_2832, i_3077, i_3085, i_3843, i_3849, i_3851, i_3852, i_4129, i_4353, i_4865, i_5121, i_5122, i_5123, i_6156, i_8192, i_12288, i_16383, i_32000, i_33280, i_49152, i_53247, i_60304, i_64000, i_64512, i_65521, i_65535, i_449838109, nI_add, pk_mul, pk_sub, nI_mm, nI_leI, nI_ltI, nI_eq, pk_div, jrem_N, jshl_N, jshr_N, jushr_N, jmin_N, jmax_N, an_1, an_3, an_7, an_15, an_31, an_63, an_127, an_255, an_1023, an_2047, an_16383, an_65535, nm, pfI, rdI, rdW, rdL, rdI2, rdW2, ldA_N, stA_N, stB_N, stZ_N, pfZ_0, pfZ_1, rtZ_0, rtZ_1, acp_N, Option.bind_some, wp_some_iff, true_and, and_true, false_and, and_false, or_true, true_or, or_false, false_or, not_true_eq_false, not_false_eq_true, if_true, if_false, if_pos, if_neg, lt_sub, le_sub, sub_lt3, sub_le3, Option.bind_assoc, h5]
/-! all may be shifted -/
def allB (f : Nat → Bool) : Nat → Bool
  | 0 => true
  | n + 1 => allB f n && f n
theorem allB_t {f : Nat → Bool} : ∀ n, allB f n = true ↔ ∀ i, i < n → f i = true
  | 0 => ⟨fun _ i hi => absurd hi (Nat.not_lt_zero _), fun _ => rfl⟩
  | n + 1 => by
    rw [allB, Bool.and_eq_true, allB_t n]
    constructor
    · intro ⟨a, b⟩ i hi
      by_cases e : i = n
      · rw [e]; exact b
      · exact a i (by omega)
    · intro h
      exact ⟨fun i hi => h i (by omega), h n (by omega)⟩
theorem allB_f {f : Nat → Bool} {n i : Nat} (hi : i < n) (h : f i = false) : allB f n = false := by
  cases hb : allB f n
  · rfl
  · have := (allB_t n).mp hb i hi
    rw [h] at this
    cases this
def mayS (tk : Nat) (es : List Pk) (v : Nat) : Bool := allB (fun i => ltr tk (tm es i) v) es.length
theorem may_C {μ : Mem} {es : List Pk} {tk v : Nat} (h : Shf μ 108 es) (hI : EnI es) (ht : μ.1 57 12 = nI tk) (htk : tk < 2 ^ 30) (hv : v < 4294967296) : f55 (nI v) μ = some (μ, nI (b2n (mayS tk es v))) := by
  apply wp_eq
  have hl := hI.1
  have h5 := h.1
  unfold f55 l55_2
  refine wp_for (fun i m => (nI v, nI i, m)) (fun i m => m = μ ∧ ∀ j, j < i → ltr tk (tm es j) v = true) es.length (by omega) μ _ rfl ⟨rfl, fun j hj => absurd hj (Nat.not_lt_zero _)⟩ (fun self i m hi ⟨x1, x2⟩ hk => ?_) (fun self m ⟨x1, x2⟩ => ?_)
  · subst x1
    obtain ⟨_, _, ⟨t1, t2⟩, _⟩ := hI.2 i hi
    have e1 := tagOf_y h hi
    rw [t2] at e1
    have e2 := later_C (x := (nI (tm es i)).toInt64 + (nI v).toInt64) (t := tm es i) ht htk hv (add64 (by omega) hv)
    unfold b55_2
    cases q : ltr tk (tm es i) v
    · rw [show mayS tk es v = false from allB_f hi q]
      rw [q, b2n_f] at e2
      simp (disch := omega) only [i_0, i_1, i_2, i_3, i_4, i_5, i_6, i_7, i_8, i_9, i_10, i_11, i_12, i_13, i_14, i_15, i_16, i_17, i_18, i_19, i_20, i_21, i_22, i_23, i_24, i_25, i_26, i_27, i_31, i_32, i_40, i_42, i_45, i_48, i_51, i_52, i_56, i_58, i_59, i_60, i_61, i_62, i_63, i_64, i_85, i_90, i_100, i_112, i_120, i_121, i_127, i_128, i_130, i_144, i_171, i_192, i_193, i_197, i_200, i_207, i_235, i_240, i_248, i_252, i_254, i_255, i_256, i_512, i_544, i_768, i_769, i_793, i_1000, i_1023, i_1024, i_1200, i_1538, i_1541, i_1545, i_2046, i_2047, i_2049, i_2060, i_2736, i_2737, i_2817, i_2818, i_2819, i_2820, i_2821, i_2831, i_2832, i_3077, i_3085, i_3843, i_3849, i_3851, i_3852, i_4129, i_4353, i_4865, i_5121, i_5122, i_5123, i_6156, i_8192, i_12288, i_16383, i_32000, i_33280, i_49152, i_53247, i_60304, i_64000, i_64512, i_65521, i_65535, i_449838109, nI_add, pk_mul, pk_sub, nI_mm, nI_leI, nI_ltI, nI_eq, pk_div, jrem_N, jshl_N, jshr_N, jushr_N, jmin_N, jmax_N, an_1, an_3, an_7, an_15, an_31, an_63, an_127, an_255, an_1023, an_2047, an_16383, an_65535, nm, pfI, rdI, rdW, rdL, rdI2, rdW2, ldA_N, stA_N, stB_N, stZ_N, pfZ_0, pfZ_1, rtZ_0, rtZ_1, acp_N, Option.bind_some, wp_some_iff, true_and, and_true, false_and, and_false, or_true, true_or, or_false, false_or, not_true_eq_false, not_false_eq_true, if_true, if_false, if_pos, if_neg, lt_sub, le_sub, sub_lt3, sub_le3, Option.bind_assoc, h5, e1, e2, b2n_f]
    · rw [q, b2n_t] at e2
      simp (disch := omega) only [i_0, i_1, i_2, i_3, i_4, i_5, i_6, i_7, i_8, i_9, i_10, i_11, i_12, i_13, i_14, i_15, i_16, i_17, i_18, i_19, i_20, i_21, i_22, i_23, i_24, i_25, i_26, i_27, i_31, i_32, i_40, i_42, i_45, i_48, i_51, i_52, i_56, i_58, i_59, i_60, i_61, i_62, i_63, i_64, i_85, i_90, i_100, i_112, i_120, i_121, i_127, i_128, i_130, i_144, i_171, i_192, i_193, i_197, i_200, i_207, i_235, i_240, i_248, i_252, i_254, i_255, i_256, i_512, i_544, i_768, i_769, i_793, i_1000, i_1023, i_1024, i_1200, i_1538, i_1541, i_1545, i_2046, i_2047, i_2049, i_2060, i_2736, i_2737, i_2817, i_2818, i_2819, i_2820, i_2821, i_2831, i_2832, i_3077, i_3085, i_3843, i_3849, i_3851, i_3852, i_4129, i_4353, i_4865, i_5121, i_5122, i_5123, i_6156, i_8192, i_12288, i_16383, i_32000, i_33280, i_49152, i_53247, i_60304, i_64000, i_64512, i_65521, i_65535, i_449838109, nI_add, pk_mul, pk_sub, nI_mm, nI_leI, nI_ltI, nI_eq, pk_div, jrem_N, jshl_N, jshr_N, jushr_N, jmin_N, jmax_N, an_1, an_3, an_7, an_15, an_31, an_63, an_127, an_255, an_1023, an_2047, an_16383, an_65535, nm, pfI, rdI, rdW, rdL, rdI2, rdW2, ldA_N, stA_N, stB_N, stZ_N, pfZ_0, pfZ_1, rtZ_0, rtZ_1, acp_N, Option.bind_some, wp_some_iff, true_and, and_true, false_and, and_false, or_true, true_or, or_false, false_or, not_true_eq_false, not_false_eq_true, if_true, if_false, if_pos, if_neg, lt_sub, le_sub, sub_lt3, sub_le3, Option.bind_assoc, h5, e1, e2]
      exact hk m ⟨rfl, fun j hj => by
        by_cases e : j = i
        · rw [e]; exact q
        · exact x2 j (by omega)⟩
  · subst x1
    rw [show mayS tk es v = true from (allB_t _).mpr x2]
    unfold b55_2
    simp (disch := omega) only [i_0, i_1, i_2, i_3, i_4, i_5, i_6, i_7, i_8, i_9, i_10, i_11, i_12, i_13, i_14, i_15, i_16, i_17, i_18, i_19, i_20, i_21, i_22, i_23, i_24, i_25, i_26, i_27, i_31, i_32, i_40, i_42, i_45, i_48, i_51, i_52, i_56, i_58, i_59, i_60, i_61, i_62, i_63, i_64, i_85, i_90, i_100, i_112, i_120, i_121, i_127, i_128, i_130, i_144, i_171, i_192, i_193, i_197, i_200, i_207, i_235, i_240, i_248, i_252, i_254, i_255, i_256, i_512, i_544, i_768, i_769, i_793, i_1000, i_1023, i_1024, i_1200, i_1538, i_1541, i_1545, i_2046, i_2047, i_2049, i_2060, i_2736, i_2737, i_2817, i_2818, i_2819, i_2820, i_2821, i_2831, i_2832, i_3077, i_3085, i_3843, i_3849, i_3851, i_3852, i_4129, i_4353, i_4865, i_5121, i_5122, i_5123, i_6156, i_8192, i_12288, i_16383, i_32000, i_33280, i_49152, i_53247, i_60304, i_64000, i_64512, i_65521, i_65535, i_449838109, nI_add, pk_mul, pk_sub, nI_mm, nI_leI, nI_ltI, nI_eq, pk_div, jrem_N, jshl_N, jshr_N, jushr_N, jmin_N, jmax_N, an_1, an_3, an_7, an_15, an_31, an_63, an_127, an_255, an_1023, an_2047, an_16383, an_65535, nm, pfI, rdI, rdW, rdL, rdI2, rdW2, ldA_N, stA_N, stB_N, stZ_N, pfZ_0, pfZ_1, rtZ_0, rtZ_1, acp_N, Option.bind_some, wp_some_iff, true_and, and_true, false_and, and_false, or_true, true_or, or_false, false_or, not_true_eq_false, not_false_eq_true, if_true, if_false, if_pos, if_neg, lt_sub, le_sub, sub_lt3, sub_le3, Option.bind_assoc, h5, b2n_t]
theorem may_M {μ : Mem} {s : Tw} {bs : List Nat} {dep tk : Nat} (h : ScM μ s) (hE : EnI s.2.2) (hq : CurM μ bs dep) (hl60 : bs.length ≤ 60) (hb : 15 ≤ bs.length) (ht : μ.1 129 77 = nI tk) (htk : tk < 2 ^ 30) : l323_96 gF (nI 0, μ) = some (μ, nI (rsn (mayS tk s.2.2 (w4l bs 11)) 21)) := by
  apply wp_eq
  have hl := hE.1
  have h5 := h.2.2.1
  have g := gl_204
  have e4 := hq.fo hl60 (i := 11) (by omega)
  have hv : w4l bs 11 < 4294967296 := by4 hq.2.2.2 11
  have e3 : (2147483647 : Int64).toInt = 2147483647 := rfl
  have ek := tick64 htk
  generalize w4l bs 11 = v at *
  unfold l323_96
  refine wp_for (fun i m => (nI i, m)) (fun i m => m = μ ∧ ∀ j, j < i → ltr tk (tm s.2.2 (nthI s.2.2 j)) v = true) s.2.2.length (by omega) μ _ rfl ⟨rfl, fun j hj => absurd hj (Nat.not_lt_zero _)⟩ (fun self i m hi ⟨x1, x2⟩ hk => ?_) (fun self m ⟨x1, x2⟩ => ?_)
  · subst x1
    have hn := nth_lt hi
    obtain ⟨_, _, ⟨t1, t2⟩, _⟩ := hE.2 _ hn.1
    have e1 := (h.2.2.2 i hi).1
    dsimp only at e1
    rw [t2] at e1
    have ea := add64 (t := tm s.2.2 (nthI s.2.2 i)) (v := v) (by omega) hv
    have bad : ltr tk (tm s.2.2 (nthI s.2.2 i)) v = false → mayS tk s.2.2 v = false := fun z => allB_f hn.1 z
    have good : ltr tk (tm s.2.2 (nthI s.2.2 i)) v = true → wp (self (nI (i + 1), m)) (fun r => r = (m, nI (rsn (mayS tk s.2.2 v) 21))) := fun z => hk m ⟨rfl, fun j hj => by
      by_cases e : j = i
      · rw [e]; exact z
      · exact x2 j (by omega)⟩
    unfold b323_96
    rw [h5, if_neg (fun z => by have := (nI_leI (by omega) (by omega)).mp z; omega), ldA_N (by omega), Option.bind_some, e1, i_11, e4, Option.bind_some]
    dsimp only [nm]
    rw [ht]
    simp only [lgc_le, ek, e3, ea]
    unfold ltr at bad good
    generalize tm s.2.2 (nthI s.2.2 i) = t at *
    by_cases q : v < 2147483648
    · simp only [if_pos q] at bad good ⊢
      by_cases q1 : tk + 1 < t + v
      · rw [if_neg (by omega)]
        by_cases q2 : t + v ≤ 2147483647
        · rw [if_pos (by omega), i_1, nI_add]
          exact good (decide_eq_true ⟨q1, q2⟩)
        · rw [if_neg (by omega), bad (decide_eq_false (fun z => q2 z.2))]
          exact wp_some rfl
      · rw [if_pos (by omega), bad (decide_eq_false (fun z => q1 z.1))]
        exact wp_some rfl
    · simp only [if_neg q] at bad good ⊢
      by_cases q1 : tk + 1 + 4294967296 < t + v
      · rw [if_neg (by omega)]
        by_cases q2 : t + v ≤ 2147483647 + 4294967296
        · rw [if_pos (by omega), i_1, nI_add]
          exact good (decide_eq_true ⟨q1, q2⟩)
        · rw [if_neg (by omega), bad (decide_eq_false (fun z => q2 z.2))]
          exact wp_some rfl
      · rw [if_pos (by omega), bad (decide_eq_false (fun z => q1 z.1))]
        exact wp_some rfl
  · subst x1
    have hm : mayS tk s.2.2 v = true := by
      refine (allB_t _).mpr (fun i hi => ?_)
      have := x2 (rk s.2.2 i) (rk_lt hi)
      rw [nth_of hi rfl] at this
      exact this
    rw [hm]
    unfold b323_96
    rw [h5, if_pos ((nI_leI (by omega) (by omega)).mpr (Nat.le_refl _))]
    exact wp_some rfl
