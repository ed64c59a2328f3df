/-! ===== how many bits are 1 ===== -/
theorem and_sp {a m : Nat} (A M : Nat) (ha : a < 256) (hm : m < 256) : (a + 256 * A) &&& (m + 256 * M) = (a &&& m) + 256 * (A &&& M) := by
  have h1 : ((a + 256 * A) &&& (m + 256 * M)) % 2 ^ 8 = ((a + 256 * A) % 2 ^ 8) &&& ((m + 256 * M) % 2 ^ 8) := Nat.and_mod_two_pow
  have h2 : ((a + 256 * A) &&& (m + 256 * M)) / 2 ^ 8 = ((a + 256 * A) / 2 ^ 8) &&& ((m + 256 * M) / 2 ^ 8) := Nat.and_div_two_pow
  rw [show (a + 256 * A) % 2 ^ 8 = a by omega, show (m + 256 * M) % 2 ^ 8 = m by omega] at h1
  rw [show (a + 256 * A) / 2 ^ 8 = A by omega, show (m + 256 * M) / 2 ^ 8 = M by omega] at h2
  omega
theorem and_lo {x m t : Nat} (hm : m < 2 ^ t) : x &&& m = (x % 2 ^ t) &&& m := by
  have h1 : (x &&& m) % 2 ^ t = (x % 2 ^ t) &&& (m % 2 ^ t) := Nat.and_mod_two_pow
  rw [Nat.mod_eq_of_lt hm, Nat.mod_eq_of_lt (Nat.lt_of_le_of_lt Nat.and_le_right hm)] at h1
  exact h1
theorem and_s1 {a m : Nat} (A M : Nat) (ha : a < 256) (hm : m < 128) : ((a + 256 * A) / 2) &&& (m + 256 * M) = ((a / 2) &&& m) + 256 * ((A / 2) &&& M) := by
  rw [show (a + 256 * A) / 2 = (a / 2 + A % 2 * 128) + 256 * (A / 2) by omega, and_sp _ _ (by omega) (by omega), and_lo (t := 7) (x := a / 2 + A % 2 * 128) hm, show (a / 2 + A % 2 * 128) % 2 ^ 7 = a / 2 by omega]
theorem and_s2 {a m : Nat} (A M : Nat) (ha : a < 256) (hm : m < 64) : ((a + 256 * A) / 4) &&& (m + 256 * M) = ((a / 4) &&& m) + 256 * ((A / 4) &&& M) := by
  rw [show (a + 256 * A) / 4 = (a / 4 + A % 4 * 64) + 256 * (A / 4) by omega, and_sp _ _ (by omega) (by omega), and_lo (t := 6) (x := a / 4 + A % 4 * 64) hm, show (a / 4 + A % 4 * 64) % 2 ^ 6 = a / 4 by omega]
def onN (n : Nat) : Nat → Nat
  | 0 => 0
  | i + 1 => onN n i + n / 2 ^ i % 2
theorem onN_le (n : Nat) : ∀ i, onN n i ≤ i
  | 0 => Nat.le_refl _
  | i + 1 => by
    have := onN_le n i
    unfold onN
    omega
theorem onN_b {a y : Nat} : ∀ i, i ≤ 8 → onN (a + 256 * y) i = onN a i
  | 0, _ => rfl
  | i + 1, h => by
    rw [onN, onN, onN_b i (by omega)]
    have : (a + 256 * y) / 2 ^ i % 2 = a / 2 ^ i % 2 := by
      have e : 256 * y = 2 ^ i * (2 ^ (8 - i) * y) := by
        rw [← Nat.mul_assoc, ← Nat.pow_add, show i + (8 - i) = 8 by omega]
      have e2 : 2 ^ (8 - i) = 2 * 2 ^ (7 - i) := by rw [← Nat.pow_succ']; congr 1; omega
      rw [e, Nat.add_mul_div_left _ _ (Nat.two_pow_pos i), e2, Nat.mul_assoc, Nat.add_mul_mod_self_left]
    rw [this]
theorem onN_s {a y : Nat} (ha : a < 256) : ∀ k, onN (a + 256 * y) (8 + k) = onN a 8 + onN y k
  | 0 => onN_b 8 (Nat.le_refl _)
  | k + 1 => by
    show onN (a + 256 * y) (8 + k) + (a + 256 * y) / 2 ^ (8 + k) % 2 = onN a 8 + (onN y k + y / 2 ^ k % 2)
    rw [onN_s ha k]
    have : (a + 256 * y) / 2 ^ (8 + k) = y / 2 ^ k := by
      rw [Nat.pow_add, ← Nat.div_div_eq_div_mul, show (a + 256 * y) / 2 ^ 8 = y by omega]
    rw [this]
    omega
def xB (a : Nat) : Nat := ((a - ((a / 2) &&& 85)) &&& 51) + (((a - ((a / 2) &&& 85)) / 4) &&& 51)
theorem xB_tab : (List.range 256).all (fun a => decide ((a / 2) &&& 85 ≤ a) && decide (xB a % 16 ≤ 4) && decide (xB a / 16 ≤ 4) && decide ((xB a + xB a / 16) % 16 = onN a 8) && decide (onN a 8 ≤ 8)) = true := by decide +kernel
theorem xB_s {a : Nat} (h : a < 256) : (a / 2) &&& 85 ≤ a ∧ xB a % 16 ≤ 4 ∧ xB a / 16 ≤ 4 ∧ (xB a + xB a / 16) % 16 = onN a 8 ∧ onN a 8 ≤ 8 := by
  have t := List.all_eq_true.mp xB_tab a (List.mem_range.mpr h)
  simp only [Bool.and_eq_true, decide_eq_true_eq] at t
  obtain ⟨⟨⟨⟨a, b⟩, c⟩, d⟩, e⟩ := t
  exact ⟨a, b, c, d, e⟩
theorem an_M (n m : Nat) : nI n &&& nI m = nI (n &&& m) := nx_and n m
theorem i_55 : (1431655765 : Int32) = nI 1431655765 := by decide
theorem i_33 : (858993459 : Int32) = nI 858993459 := by decide
theorem i_0f : (252645135 : Int32) = nI 252645135 := by decide
theorem ones_M {n : Nat} {μ : Mem} (hn : n < 2 ^ 32) : f266 (nI n) μ = some (μ, nI (onN n 32)) := by
  apply wp_eq
  unfold f266 l266_4
  simp (disch := omega) only [i_0, i_1, i_2, i_3, i_4, i_5, i_6, i_7, i_8, i_9, i_10, i_11, i_12, i_13, i_14, i_15, i_16, i_17, i_18, i_19, i_20, i_21, i_22, i_23, i_24, i_25, i_26, i_27, i_31, i_32, i_40, i_42, i_45, i_48, i_51, i_52, i_56, i_58, i_59, i_60, i_61, i_62, i_63, i_64, i_85, i_90, i_100, i_112, i_120, i_121, i_127, i_128, i_130, i_144, i_171, i_192, i_193, i_197, i_200, i_207, i_235, i_240, i_248, i_252, i_254, i_255, i_256, i_512, i_544, i_768, i_769, i_793, i_1000, i_1023, i_1024, i_1200, i_1538, i_1541, i_1545, i_2046, i_2047, i_2049, i_2060, i_2736, i_2737, i_2817, i_2818, i_2819, i_2820, i_2821, i_2831, i_2832, i_3077, i_3085, i_3843, i_3849, i_3851, i_3852, i_4129, i_4353, i_4865, i_5121, i_5122, i_5123, i_6156, i_8192, i_12288, i_16383, i_32000, i_33280, i_49152, i_53247, i_60304, i_64000, i_64512, i_65521, i_65535, i_449838109, nI_add, pk_mul, pk_sub, nI_mm, nI_leI, nI_ltI, nI_eq, pk_div, jrem_N, jshl_N, jshr_N, jushr_N, jmin_N, jmax_N, an_1, an_3, an_7, an_15, an_31, an_63, an_127, an_255, an_1023, an_2047, an_16383, an_65535, nm, pfI, rdI, rdW, rdL, rdI2, rdW2, ldA_N, stA_N, stB_N, stZ_N, pfZ_0, pfZ_1, rtZ_0, rtZ_1, acp_N, Option.bind_some, wp_some_iff, true_and, and_true, false_and, and_false, or_true, true_or, or_false, false_or, not_true_eq_false, not_false_eq_true, if_true, if_false, if_pos, if_neg, lt_sub, le_sub, sub_lt3, sub_le3]
  refine wp_for (fun i m => (nI n, nI (onN n i), nI i, m)) (fun i m => m = μ) 32 (by omega) μ _ rfl rfl (fun self i m hi y1 hk => ?_) (fun self m y1 => ?_)
  · subst y1
    have := onN_le n i
    unfold b266_4
    simp (disch := omega) only [i_0, i_1, i_2, i_3, i_4, i_5, i_6, i_7, i_8, i_9, i_10, i_11, i_12, i_13, i_14, i_15, i_16, i_17, i_18, i_19, i_20, i_21, i_22, i_23, i_24, i_25, i_26, i_27, i_31, i_32, i_40, i_42, i_45, i_48, i_51, i_52, i_56, i_58, i_59, i_60, i_61, i_62, i_63, i_64, i_85, i_90, i_100, i_112, i_120, i_121, i_127, i_128, i_130, i_144, i_171, i_192, i_193, i_197, i_200, i_207, i_235, i_240, i_248, i_252, i_254, i_255, i_256, i_512, i_544, i_768, i_769, i_793, i_1000, i_1023, i_1024, i_1200, i_1538, i_1541, i_1545, i_2046, i_2047, i_2049, i_2060, i_2736, i_2737, i_2817, i_2818, i_2819, i_2820, i_2821, i_2831, i_2832, i_3077, i_3085, i_3843, i_3849, i_3851, i_3852, i_4129, i_4353, i_4865, i_5121, i_5122, i_5123, i_6156, i_8192, i_12288, i_16383, i_32000, i_33280, i_49152, i_53247, i_60304, i_64000, i_64512, i_65521, i_65535, i_449838109, nI_add, pk_mul, pk_sub, nI_mm, nI_leI, nI_ltI, nI_eq, pk_div, jrem_N, jshl_N, jshr_N, jushr_N, jmin_N, jmax_N, an_1, an_3, an_7, an_15, an_31, an_63, an_127, an_255, an_1023, an_2047, an_16383, an_65535, nm, pfI, rdI, rdW, rdL, rdI2, rdW2, ldA_N, stA_N, stB_N, stZ_N, pfZ_0, pfZ_1, rtZ_0, rtZ_1, acp_N, Option.bind_some, wp_some_iff, true_and, and_true, false_and, and_false, or_true, true_or, or_false, false_or, not_true_eq_false, not_false_eq_true, if_true, if_false, if_pos, if_neg, lt_sub, le_sub, sub_lt3, sub_le3]
    exact hk m rfl
  · subst y1
    unfold b266_4
    simp (disch := omega) only [i_0, i_1, i_2, i_3, i_4, i_5, i_6, i_7, i_8, i_9, i_10, i_11, i_12, i_13, i_14, i_15, i_16, i_17, i_18, i_19, i_20, i_21, i_22, i_23, i_24, i_25, i_26, i_27, i_31, i_32, i_40, i_42, i_45, i_48, i_51, i_52, i_56, i_58, i_59, i_60, i_61, i_62, i_63, i_64, i_85, i_90, i_100, i_112, i_120, i_121, i_127, i_128, i_130, i_144, i_171, i_192, i_193, i_197, i_200, i_207, i_235, i_240, i_248, i_252, i_254, i_255, i_256, i_512, i_544, i_768, i_769, i_793, i_1000, i_1023, i_1024, i_1200, i_1538, i_1541, i_1545, i_2046, i_2047, i_2049, i_2060, i_2736, i_2737, i_2817, i_2818, i_2819, i_2820, i_2821, i_2831, i_2832, i_3077, i_3085, i_3843, i_3849, i_3851, i_3852, i_4129, i_4353, i_4865, i_5121, i_5122, i_5123, i_6156, i_8192, i_12288, i_16383, i_32000, i_33280, i_49152, i_53247, i_60304, i_64000, i_64512, i_65521, i_65535, i_449838109, nI_add, pk_mul, pk_sub, nI_mm, nI_leI, nI_ltI, nI_eq, pk_div, jrem_N, jshl_N, jshr_N, jushr_N, jmin_N, jmax_N, an_1, an_3, an_7, an_15, an_31, an_63, an_127, an_255, an_1023, an_2047, an_16383, an_65535, nm, pfI, rdI, rdW, rdL, rdI2, rdW2, ldA_N, stA_N, stB_N, stZ_N, pfZ_0, pfZ_1, rtZ_0, rtZ_1, acp_N, Option.bind_some, wp_some_iff, true_and, and_true, false_and, and_false, or_true, true_or, or_false, false_or, not_true_eq_false, not_false_eq_true, if_true, if_false, if_pos, if_neg, lt_sub, le_sub, sub_lt3, sub_le3]
