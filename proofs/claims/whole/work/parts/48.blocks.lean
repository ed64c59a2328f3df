/-! ===== BLOCKS and UNITS ===== -/
def rstep (r b : Nat) : Nat := if 128 ≤ 2 * r + b then (2 * r + b) ^^^ 197 else 2 * r + b
theorem rstep_lt {r b : Nat} (hr : r < 128) (hb : b < 2) : rstep r b < 128 := by
  have h : ∀ r, r < 128 → ∀ b, b < 2 → rstep r b < 128 := by decide +kernel
  exact h r hr b hb
def remF (g : Nat → Nat) : Nat → Nat
  | 0 => 0
  | k + 1 => rstep (remF g k) (g k)
theorem remF_lt {g : Nat → Nat} (hg : ∀ k, g k < 2) : ∀ n, remF g n < 128
  | 0 => show 0 < 128 by decide
  | n + 1 => rstep_lt (remF_lt hg n) (hg n)
theorem remF_cg {g g2 : Nat → Nat} : ∀ n, (∀ k, k < n → g k = g2 k) → remF g n = remF g2 n
  | 0, _ => rfl
  | n + 1, h => by rw [remF, remF, remF_cg n (fun k hk => h k (by omega)), h n (by omega)]
theorem t128 {t : Nat} (ht : t < 256) : (nI t &&& nI 128 = nI 0) ↔ t < 128 := by
  have h : ∀ t, t < 256 → ((nI t &&& nI 128 = nI 0) ↔ t < 128) := by decide +kernel
  exact h t ht
theorem or1 {r b : Nat} (hb : b < 2) : r * 2 ^ 1 ||| b = 2 * r + b := by rw [or_add 1 hb]; omega
theorem f1_ok {n : Nat} {μ : Mem} (hn : n < 2 ^ 64) : f1 (lN n) μ = some (μ, nI (remF (fun k => n / 2 ^ (63 - k) % 2) 63)) := by
  apply wp_eq
  have hg : ∀ k, (fun k => n / 2 ^ (63 - k) % 2) k < 2 := fun k => Nat.mod_lt _ (by decide)
  unfold f1 l1_5
  refine wp_for (fun i m => (lN n, nI (remF (fun k => n / 2 ^ (63 - k) % 2) i), nI (63 - i), m)) (fun i m => m = μ) 63 (by omega) μ _ rfl rfl (fun self i m hi hm hk => ?_) (fun self m hm => ?_)
  · subst hm
    have h1 := remF_lt hg i
    have h2 := hg i
    have h3 : remF (fun k => n / 2 ^ (63 - k) % 2) (i + 1) = rstep (remF (fun k => n / 2 ^ (63 - k) % 2) i) (n / 2 ^ (63 - i) % 2) := rfl
    specialize hk m rfl
    dsimp only at h2 hk
    rw [h3] at hk
    unfold b1_5
    dsimp only
    rw [show jlushr (lN n) (nI (63 - i)) = lN (n / 2 ^ (63 - i)) from wb_shr hn (by omega), lN_i]
    generalize remF (fun k => n / 2 ^ (63 - k) % 2) i = r at h1 hk ⊢
    simp (disch := omega) only [i_0, i_1, i_2, i_3, i_4, i_5, i_6, i_7, i_8, i_9, i_10, i_11, i_12, i_13, i_14, i_15, i_16, i_17, i_18, i_19, i_20, i_21, i_22, i_23, i_24, i_25, i_26, i_27, i_31, i_32, i_40, i_42, i_45, i_48, i_51, i_52, i_56, i_58, i_59, i_60, i_61, i_62, i_63, i_64, i_85, i_90, i_100, i_112, i_120, i_121, i_127, i_128, i_130, i_144, i_171, i_192, i_193, i_197, i_200, i_207, i_235, i_240, i_248, i_252, i_254, i_255, i_256, i_512, i_544, i_768, i_769, i_793, i_1000, i_1023, i_1024, i_1200, i_1538, i_1541, i_1545, i_2046, i_2047, i_2049, i_2060, i_2736, i_2737, i_2817, i_2818, i_2819, i_2820, i_2821, i_2831, i_2832, i_3077, i_3085, i_3843, i_3849, i_3851, i_3852, i_4129, i_4353, i_4865, i_5121, i_5122, i_5123, i_6156, i_8192, i_12288, i_16383, i_32000, i_33280, i_49152, i_53247, i_60304, i_64000, i_64512, i_65521, i_65535, i_449838109, nI_add, pk_mul, pk_sub, nI_mm, nI_leI, nI_ltI, nI_eq, pk_div, jrem_N, jshl_N, jshr_N, jushr_N, jmin_N, jmax_N, an_1, an_3, an_7, an_15, an_31, an_63, an_127, an_255, an_1023, an_2047, an_16383, an_65535] 
    generalize n / 2 ^ (63 - i) % 2 = b at h2 hk ⊢
    unfold rstep at hk
    rw [show 63 - (i + 1) = 63 - i - 1 by omega] at hk
    simp (disch := omega) only [i_0, i_1, i_2, i_3, i_4, i_5, i_6, i_7, i_8, i_9, i_10, i_11, i_12, i_13, i_14, i_15, i_16, i_17, i_18, i_19, i_20, i_21, i_22, i_23, i_24, i_25, i_26, i_27, i_31, i_32, i_40, i_42, i_45, i_48, i_51, i_52, i_56, i_58, i_59, i_60, i_61, i_62, i_63, i_64, i_85, i_90, i_100, i_112, i_120, i_121, i_127, i_128, i_130, i_144, i_171, i_192, i_193, i_197, i_200, i_207, i_235, i_240, i_248, i_252, i_254, i_255, i_256, i_512, i_544, i_768, i_769, i_793, i_1000, i_1023, i_1024, i_1200, i_1538, i_1541, i_1545, i_2046, i_2047, i_2049, i_2060, i_2736, i_2737, i_2817, i_2818, i_2819, i_2820, i_2821, i_2831, i_2832, i_3077, i_3085, i_3843, i_3849, i_3851, i_3852, i_4129, i_4353, i_4865, i_5121, i_5122, i_5123, i_6156, i_8192, i_12288, i_16383, i_32000, i_33280, i_49152, i_53247, i_60304, i_64000, i_64512, i_65521, i_65535, i_449838109, nI_add, pk_mul, pk_sub, nI_mm, nI_leI, nI_ltI, nI_eq, pk_div, jrem_N, jshl_N, jshr_N, jushr_N, jmin_N, jmax_N, an_1, an_3, an_7, an_15, an_31, an_63, an_127, an_255, an_1023, an_2047, an_16383, an_65535, nm, pfI, rdI, rdW, rdL, rdI2, rdW2, ldA_N, stA_N, stB_N, stZ_N, pfZ_0, pfZ_1, rtZ_0, rtZ_1, acp_N, Option.bind_some, wp_some_iff, true_and, and_true, false_and, and_false, or_true, true_or, or_false, false_or, not_true_eq_false, not_false_eq_true, if_true, if_false, if_pos, if_neg, c1_35, nx_or, or1, t128, nx_xor]
    refine wp_if (fun q => ?_) (fun q => ?_)
    · rw [if_neg (by omega)] at hk; exact hk
    · rw [if_pos (by omega)] at hk; exact hk
  · subst hm
    unfold b1_5
    simp (disch := omega) only [i_0, i_1, i_2, i_3, i_4, i_5, i_6, i_7, i_8, i_9, i_10, i_11, i_12, i_13, i_14, i_15, i_16, i_17, i_18, i_19, i_20, i_21, i_22, i_23, i_24, i_25, i_26, i_27, i_31, i_32, i_40, i_42, i_45, i_48, i_51, i_52, i_56, i_58, i_59, i_60, i_61, i_62, i_63, i_64, i_85, i_90, i_100, i_112, i_120, i_121, i_127, i_128, i_130, i_144, i_171, i_192, i_193, i_197, i_200, i_207, i_235, i_240, i_248, i_252, i_254, i_255, i_256, i_512, i_544, i_768, i_769, i_793, i_1000, i_1023, i_1024, i_1200, i_1538, i_1541, i_1545, i_2046, i_2047, i_2049, i_2060, i_2736, i_2737, i_2817, i_2818, i_2819, i_2820, i_2821, i_2831, i_2832, i_3077, i_3085, i_3843, i_3849, i_3851, i_3852, i_4129, i_4353, i_4865, i_5121, i_5122, i_5123, i_6156, i_8192, i_12288, i_16383, i_32000, i_33280, i_49152, i_53247, i_60304, i_64000, i_64512, i_65521, i_65535, i_449838109, nI_add, pk_mul, pk_sub, nI_mm, nI_leI, nI_ltI, nI_eq, pk_div, jrem_N, jshl_N, jshr_N, jushr_N, jmin_N, jmax_N, an_1, an_3, an_7, an_15, an_31, an_63, an_127, an_255, an_1023, an_2047, an_16383, an_65535, nm, pfI, rdI, rdW, rdL, rdI2, rdW2, ldA_N, stA_N, stB_N, stZ_N, pfZ_0, pfZ_1, rtZ_0, rtZ_1, acp_N, Option.bind_some, wp_some_iff, true_and, and_true, false_and, and_false, or_true, true_or, or_false, false_or, not_true_eq_false, not_false_eq_true, if_true, if_false, if_pos, if_neg]
/-! the reference's remainder -/
def bB (bits z t : Nat) (n k : Nat) : Nat := (if k < bits then n / 2 ^ (63 - k) % 2 else 0) ^^^ (if t = 1 ∧ 56 ≤ k then 1 else 0)
theorem bx_lt {a b : Nat} (ha : a < 2) (hb : b < 2) : a ^^^ b < 2 := Nat.xor_lt_two_pow (n := 1) ha hb
theorem bB_lt (bits z t n k : Nat) : bB bits z t n k < 2 := by
  unfold bB
  refine bx_lt ?_ ?_
  · split
    · exact Nat.mod_lt _ (by decide)
    · decide
  · split <;> decide
theorem mod256_bit {m b : Nat} (hb : b < 8) : m % 256 / 2 ^ b % 2 = m / 2 ^ b % 2 := by
  have : b = 0 ∨ b = 1 ∨ b = 2 ∨ b = 3 ∨ b = 4 ∨ b = 5 ∨ b = 6 ∨ b = 7 := by omega
  rcases this with rfl | rfl | rfl | rfl | rfl | rfl | rfl | rfl <;> omega
theorem bit_byte {n k : Nat} (hk : k < 64) : n / 2 ^ (56 - 8 * (k / 8)) % 256 / 2 ^ (7 - k % 8) % 2 = n / 2 ^ (63 - k) % 2 := by
  rw [mod256_bit (by omega), Nat.div_div_eq_div_mul, ← Nat.pow_add, show 56 - 8 * (k / 8) + (7 - k % 8) = 63 - k by omega]
theorem rem_M {p fr bits z t n : Nat} {μ : Mem} (hb : bits ≤ 63) (hz : bits + z ≤ 63) (ht : t < 2) (hrow : ∀ j, 8 * j < bits → μ.1 p (fr + j) = nI (n / 2 ^ (56 - 8 * j) % 256)) (hl : fr + (bits + 7) / 8 ≤ gln p) :
    f246 p (nI fr) (nI bits) (nI z) (nI t) μ = some (μ, nI (remF (bB bits z t n) (bits + z))) := by
  apply wp_eq
  have hgl := gln_le p
  unfold f246 l246_6
  refine wp_for (fun i m => (nI fr, nI bits, nI z, nI t, nI (remF (bB bits z t n) i), nI i, m)) (fun i m => m = μ) (bits + z) (by omega) μ _ rfl rfl (fun self i m hi hm hk => ?_) (fun self m hm => ?_)
  · subst hm
    have h1 := remF_lt (bB_lt bits z t n) i
    have h2 := bB_lt bits z t n i
    have h3 : remF (bB bits z t n) (i + 1) = rstep (remF (bB bits z t n) i) (bB bits z t n i) := rfl
    specialize hk m rfl
    rw [h3] at hk
    generalize hr : remF (bB bits z t n) i = r at h1 hk ⊢
    have key : ∀ b0 s : Nat, b0 < 2 → s < 2 → bB bits z t n i = b0 ^^^ s → wp (c246_65 p (fun v1 v2 v3 v4 v5 v6 μ => self (v1, v2, v3, v4, v5, v6, μ)) (nI fr) (nI bits) (nI z) (nI t) (nI r) (nI i) (nI b0) (nI s) m) (fun r => r = (m, nI (remF (bB bits z t n) (bits + z)))) := by
      intro b0 s hb0 hs he
      rw [he] at h2 hk
      have hx : nI b0 ^^^ nI s = nI (b0 ^^^ s) := nx_xor b0 s
      generalize b0 ^^^ s = b at h2 hk hx
      unfold rstep at hk
      unfold c246_65
      simp (disch := omega) only [i_0, i_1, i_2, i_3, i_4, i_5, i_6, i_7, i_8, i_9, i_10, i_11, i_12, i_13, i_14, i_15, i_16, i_17, i_18, i_19, i_20, i_21, i_22, i_23, i_24, i_25, i_26, i_27, i_31, i_32, i_40, i_42, i_45, i_48, i_51, i_52, i_56, i_58, i_59, i_60, i_61, i_62, i_63, i_64, i_85, i_90, i_100, i_112, i_120, i_121, i_127, i_128, i_130, i_144, i_171, i_192, i_193, i_197, i_200, i_207, i_235, i_240, i_248, i_252, i_254, i_255, i_256, i_512, i_544, i_768, i_769, i_793, i_1000, i_1023, i_1024, i_1200, i_1538, i_1541, i_1545, i_2046, i_2047, i_2049, i_2060, i_2736, i_2737, i_2817, i_2818, i_2819, i_2820, i_2821, i_2831, i_2832, i_3077, i_3085, i_3843, i_3849, i_3851, i_3852, i_4129, i_4353, i_4865, i_5121, i_5122, i_5123, i_6156, i_8192, i_12288, i_16383, i_32000, i_33280, i_49152, i_53247, i_60304, i_64000, i_64512, i_65521, i_65535, i_449838109, nI_add, pk_mul, pk_sub, nI_mm, nI_leI, nI_ltI, nI_eq, pk_div, jrem_N, jshl_N, jshr_N, jushr_N, jmin_N, jmax_N, an_1, an_3, an_7, an_15, an_31, an_63, an_127, an_255, an_1023, an_2047, an_16383, an_65535, nm, pfI, rdI, rdW, rdL, rdI2, rdW2, ldA_N, stA_N, stB_N, stZ_N, pfZ_0, pfZ_1, rtZ_0, rtZ_1, acp_N, Option.bind_some, wp_some_iff, true_and, and_true, false_and, and_false, or_true, true_or, or_false, false_or, not_true_eq_false, not_false_eq_true, if_true, if_false, if_pos, if_neg, hx, c246_94, nx_or, or1, t128, nx_xor]
      refine wp_if (fun q => ?_) (fun q => ?_)
      · rw [if_neg (by omega)] at hk; exact hk
      · rw [if_pos (by omega)] at hk; exact hk
    have key2 : ∀ b0 : Nat, b0 < 2 → b0 = (if i < bits then n / 2 ^ (63 - i) % 2 else 0) → wp (c246_44 p (fun v1 v2 v3 v4 v5 v6 μ => self (v1, v2, v3, v4, v5, v6, μ)) (nI fr) (nI bits) (nI z) (nI t) (nI r) (nI i) (nI b0) m) (fun r => r = (m, nI (remF (bB bits z t n) (bits + z)))) := by
      intro b0 hb0 he
      unfold c246_44 c246_64
      simp (disch := omega) only [i_0, i_1, i_2, i_3, i_4, i_5, i_6, i_7, i_8, i_9, i_10, i_11, i_12, i_13, i_14, i_15, i_16, i_17, i_18, i_19, i_20, i_21, i_22, i_23, i_24, i_25, i_26, i_27, i_31, i_32, i_40, i_42, i_45, i_48, i_51, i_52, i_56, i_58, i_59, i_60, i_61, i_62, i_63, i_64, i_85, i_90, i_100, i_112, i_120, i_121, i_127, i_128, i_130, i_144, i_171, i_192, i_193, i_197, i_200, i_207, i_235, i_240, i_248, i_252, i_254, i_255, i_256, i_512, i_544, i_768, i_769, i_793, i_1000, i_1023, i_1024, i_1200, i_1538, i_1541, i_1545, i_2046, i_2047, i_2049, i_2060, i_2736, i_2737, i_2817, i_2818, i_2819, i_2820, i_2821, i_2831, i_2832, i_3077, i_3085, i_3843, i_3849, i_3851, i_3852, i_4129, i_4353, i_4865, i_5121, i_5122, i_5123, i_6156, i_8192, i_12288, i_16383, i_32000, i_33280, i_49152, i_53247, i_60304, i_64000, i_64512, i_65521, i_65535, i_449838109, nI_add, pk_mul, pk_sub, nI_mm, nI_leI, nI_ltI, nI_eq, pk_div, jrem_N, jshl_N, jshr_N, jushr_N, jmin_N, jmax_N, an_1, an_3, an_7, an_15, an_31, an_63, an_127, an_255, an_1023, an_2047, an_16383, an_65535, nm, pfI, rdI, rdW, rdL, rdI2, rdW2, ldA_N, stA_N, stB_N, stZ_N, pfZ_0, pfZ_1, rtZ_0, rtZ_1, acp_N, Option.bind_some, wp_some_iff, true_and, and_true, false_and, and_false, or_true, true_or, or_false, false_or, not_true_eq_false, not_false_eq_true, if_true, if_false, if_pos, if_neg]
      refine wp_if (fun q => ?_) (fun q => ?_)
      · refine key b0 0 hb0 (by decide) ?_
        rw [bB, ← he, if_neg (by omega)]
      · refine wp_if (fun q2 => ?_) (fun q2 => ?_)
        · refine key b0 0 hb0 (by decide) ?_
          rw [bB, ← he, if_neg (by omega)]
        · refine key b0 1 hb0 (by decide) ?_
          rw [bB, ← he, if_pos (by omega)]
    unfold b246_6
    simp (disch := omega) only [i_0, i_1, i_2, i_3, i_4, i_5, i_6, i_7, i_8, i_9, i_10, i_11, i_12, i_13, i_14, i_15, i_16, i_17, i_18, i_19, i_20, i_21, i_22, i_23, i_24, i_25, i_26, i_27, i_31, i_32, i_40, i_42, i_45, i_48, i_51, i_52, i_56, i_58, i_59, i_60, i_61, i_62, i_63, i_64, i_85, i_90, i_100, i_112, i_120, i_121, i_127, i_128, i_130, i_144, i_171, i_192, i_193, i_197, i_200, i_207, i_235, i_240, i_248, i_252, i_254, i_255, i_256, i_512, i_544, i_768, i_769, i_793, i_1000, i_1023, i_1024, i_1200, i_1538, i_1541, i_1545, i_2046, i_2047, i_2049, i_2060, i_2736, i_2737, i_2817, i_2818, i_2819, i_2820, i_2821, i_2831, i_2832, i_3077, i_3085, i_3843, i_3849, i_3851, i_3852, i_4129, i_4353, i_4865, i_5121, i_5122, i_5123, i_6156, i_8192, i_12288, i_16383, i_32000, i_33280, i_49152, i_53247, i_60304, i_64000, i_64512, i_65521, i_65535, i_449838109, nI_add, pk_mul, pk_sub, nI_mm, nI_leI, nI_ltI, nI_eq, pk_div, jrem_N, jshl_N, jshr_N, jushr_N, jmin_N, jmax_N, an_1, an_3, an_7, an_15, an_31, an_63, an_127, an_255, an_1023, an_2047, an_16383, an_65535, nm, pfI, rdI, rdW, rdL, rdI2, rdW2, ldA_N, stA_N, stB_N, stZ_N, pfZ_0, pfZ_1, rtZ_0, rtZ_1, acp_N, Option.bind_some, wp_some_iff, true_and, and_true, false_and, and_false, or_true, true_or, or_false, false_or, not_true_eq_false, not_false_eq_true, if_true, if_false, if_pos, if_neg]
    refine wp_if (fun q => ?_) (fun q => ?_)
    · exact key2 0 (by decide) (by rw [if_neg (by omega)])
    · simp (disch := omega) only [i_0, i_1, i_2, i_3, i_4, i_5, i_6, i_7, i_8, i_9, i_10, i_11, i_12, i_13, i_14, i_15, i_16, i_17, i_18, i_19, i_20, i_21, i_22, i_23, i_24, i_25, i_26, i_27, i_31, i_32, i_40, i_42, i_45, i_48, i_51, i_52, i_56, i_58, i_59, i_60, i_61, i_62, i_63, i_64, i_85, i_90, i_100, i_112, i_120, i_121, i_127, i_128, i_130, i_144, i_171, i_192, i_193, i_197, i_200, i_207, i_235, i_240, i_248, i_252, i_254, i_255, i_256, i_512, i_544, i_768, i_769, i_793, i_1000, i_1023, i_1024, i_1200, i_1538, i_1541, i_1545, i_2046, i_2047, i_2049, i_2060, i_2736, i_2737, i_2817, i_2818, i_2819, i_2820, i_2821, i_2831, i_2832, i_3077, i_3085, i_3843, i_3849, i_3851, i_3852, i_4129, i_4353, i_4865, i_5121, i_5122, i_5123, i_6156, i_8192, i_12288, i_16383, i_32000, i_33280, i_49152, i_53247, i_60304, i_64000, i_64512, i_65521, i_65535, i_449838109, nI_add, pk_mul, pk_sub, nI_mm, nI_leI, nI_ltI, nI_eq, pk_div, jrem_N, jshl_N, jshr_N, jushr_N, jmin_N, jmax_N, an_1, an_3, an_7, an_15, an_31, an_63, an_127, an_255, an_1023, an_2047, an_16383, an_65535, nm, pfI, rdI, rdW, rdL, rdI2, rdW2, ldA_N, stA_N, stB_N, stZ_N, pfZ_0, pfZ_1, rtZ_0, rtZ_1, acp_N, Option.bind_some, wp_some_iff, true_and, and_true, false_and, and_false, or_true, true_or, or_false, false_or, not_true_eq_false, not_false_eq_true, if_true, if_false, if_pos, if_neg, hrow]
      rw [bit_byte (by omega)]
      exact key2 _ (Nat.mod_lt _ (by decide)) (by rw [if_pos (by omega)])
  · subst hm
    unfold b246_6
    simp (disch := omega) only [i_0, i_1, i_2, i_3, i_4, i_5, i_6, i_7, i_8, i_9, i_10, i_11, i_12, i_13, i_14, i_15, i_16, i_17, i_18, i_19, i_20, i_21, i_22, i_23, i_24, i_25, i_26, i_27, i_31, i_32, i_40, i_42, i_45, i_48, i_51, i_52, i_56, i_58, i_59, i_60, i_61, i_62, i_63, i_64, i_85, i_90, i_100, i_112, i_120, i_121, i_127, i_128, i_130, i_144, i_171, i_192, i_193, i_197, i_200, i_207, i_235, i_240, i_248, i_252, i_254, i_255, i_256, i_512, i_544, i_768, i_769, i_793, i_1000, i_1023, i_1024, i_1200, i_1538, i_1541, i_1545, i_2046, i_2047, i_2049, i_2060, i_2736, i_2737, i_2817, i_2818, i_2819, i_2820, i_2821, i_2831, i_2832, i_3077, i_3085, i_3843, i_3849, i_3851, i_3852, i_4129, i_4353, i_4865, i_5121, i_5122, i_5123, i_6156, i_8192, i_12288, i_16383, i_32000, i_33280, i_49152, i_53247, i_60304, i_64000, i_64512, i_65521, i_65535, i_449838109, nI_add, pk_mul, pk_sub, nI_mm, nI_leI, nI_ltI, nI_eq, pk_div, jrem_N, jshl_N, jshr_N, jushr_N, jmin_N, jmax_N, an_1, an_3, an_7, an_15, an_31, an_63, an_127, an_255, an_1023, an_2047, an_16383, an_65535, nm, pfI, rdI, rdW, rdL, rdI2, rdW2, ldA_N, stA_N, stB_N, stZ_N, pfZ_0, pfZ_1, rtZ_0, rtZ_1, acp_N, Option.bind_some, wp_some_iff, true_and, and_true, false_and, and_false, or_true, true_or, or_false, false_or, not_true_eq_false, not_false_eq_true, if_true, if_false, if_pos, if_neg]
/-! units as lists -/
def pre (g : Nat → Nat) : Nat → Nat
  | 0 => 0
  | i + 1 => pre g i * 256 + g i
theorem pre_lt {g : Nat → Nat} (hg : ∀ i, g i < 256) : ∀ i, pre g i < 256 ^ i
  | 0 => show 0 < 1 by decide
  | i + 1 => by
    have := pre_lt hg i
    have := hg i
    rw [pre, Nat.pow_succ]
    omega
def gB (bs : List Nat) (k i : Nat) : Nat := if 7 * k + i < bs.length then bs.getD (7 * k + i) 0 else 85
def nB (bs : List Nat) (k : Nat) : Nat := pre (gB bs k) 7 * 256
def eB (bs : List Nat) (k : Nat) : Nat := (remF (fun j => nB bs k / 2 ^ (63 - j) % 2) 63 ^^^ 127) * 2
def blkL (bs : List Nat) (k : Nat) : List Nat := (List.range 7).map (gB bs k) ++ [eB bs k]
def bksL (bs : List Nat) : Nat → List Nat
  | 0 => []
  | k + 1 => bksL bs k ++ blkL bs k
theorem bksL_len (bs : List Nat) : ∀ k, (bksL bs k).length = 8 * k
  | 0 => rfl
  | k + 1 => by rw [bksL, List.length_append, bksL_len bs k, blkL]; simp; omega
def unitL (bs : List Nat) : List Nat := [235, 144] ++ bksL bs ((bs.length + 6) / 7) ++ List.replicate 7 197 ++ [121]
theorem unitL_len (bs : List Nat) : (unitL bs).length = 10 + 8 * ((bs.length + 6) / 7) := by simp [unitL, bksL_len]; omega
theorem getD_lt {bs : List Nat} (h : ∀ b, b ∈ bs → b < 256) (i : Nat) : bs.getD i 0 < 256 := by
  by_cases hk : i < bs.length
  · rw [List.getD_eq_getElem?_getD, List.getElem?_eq_getElem hk]
    exact h _ (List.getElem_mem hk)
  · rw [List.getD_eq_getElem?_getD, List.getElem?_eq_none_iff.mpr (by omega)]
    decide
theorem gB_lt {bs : List Nat} (h : ∀ b, b ∈ bs → b < 256) (k i : Nat) : gB bs k i < 256 := by
  unfold gB
  split
  · exact getD_lt h _
  · decide
theorem pre7 {g : Nat → Nat} (hg : ∀ i, g i < 256) : ∀ j, j < 7 → pre g 7 * 256 / 2 ^ (56 - 8 * j) % 256 = g j := by
  intro j hj
  have h0 := hg 0
  have h1 := hg 1
  have h2 := hg 2
  have h3 := hg 3
  have h4 := hg 4
  have h5 := hg 5
  have h6 := hg 6
  have : j = 0 ∨ j = 1 ∨ j = 2 ∨ j = 3 ∨ j = 4 ∨ j = 5 ∨ j = 6 := by omega
  rcases this with rfl | rfl | rfl | rfl | rfl | rfl | rfl <;> simp only [pre] <;> omega
theorem nB_lt {bs : List Nat} (h : ∀ b, b ∈ bs → b < 256) (k : Nat) : nB bs k < 2 ^ 64 := by
  have := pre_lt (gB_lt h k) 7
  unfold nB
  omega
theorem sev_nB {bs : List Nat} (h : ∀ b, b ∈ bs → b < 256) (k : Nat) : sev (nB bs k) = (List.range 7).map (gB bs k) := by
  unfold sev
  apply List.map_congr_left
  intro j hj
  exact pre7 (gB_lt h k) j (List.mem_range.mp hj)
theorem eB_lt (bs : List Nat) (k : Nat) : eB bs k < 256 := by
  have : remF (fun j => nB bs k / 2 ^ (63 - j) % 2) 63 < 2 ^ 7 := remF_lt (fun k => Nat.mod_lt _ (by decide)) 63
  have := Nat.xor_lt_two_pow (n := 7) this (show 127 < 2 ^ 7 by decide)
  unfold eB
  omega
theorem eB_C {r : Nat} (hr : r < 128) : (jshl (nI r ^^^ (-nI 1)) (nI 1)) &&& nI 254 = nI ((r ^^^ 127) * 2) := by
  have h : ∀ r, r < 128 → (jshl (nI r ^^^ (-nI 1)) (nI 1)) &&& nI 254 = nI ((r ^^^ 127) * 2) := by decide +kernel
  exact h r hr
theorem eB_M {bs : List Nat} {k : Nat} : remF (bB 56 7 0 (nB bs k)) 63 = remF (fun j => nB bs k / 2 ^ (63 - j) % 2) 63 := by
  apply remF_cg
  intro j hj
  unfold bB
  rw [if_neg (show ¬ (0 = 1 ∧ 56 ≤ j) by omega), Nat.xor_zero]
  by_cases e : j < 56
  · rw [if_pos e]
  · rw [if_neg e]
    unfold nB
    have : j = 56 ∨ j = 57 ∨ j = 58 ∨ j = 59 ∨ j = 60 ∨ j = 61 ∨ j = 62 := by omega
    rcases this with rfl | rfl | rfl | rfl | rfl | rfl | rfl <;> omega
theorem wrap_C {d u : Nat} {bs us : List Nat} {μ : Mem} (h : Byt μ d bs) (hne : d + 1 < u ∨ u + 1 < d) (hc : 10 + 8 * ((bs.length + 6) / 7) ≤ gln (u + 1)) (hl : bs.length < 60000) : wp (f3 d u μ) (fun m => Byt m u (unitL bs) ∧ Fr (FB u) μ m) := by
  have hb := h.2.2.2
  unfold f3
  refine wp_bind (cl_ok u μ) (fun m1 ⟨h1, h2⟩ => ?_)
  refine wp_bind (p2_ok _ h1 (by simp; omega)) (fun m2 ⟨h3, h4⟩ => ?_)
  rw [show [] ++ lowB 60304 2 = [235, 144] by decide +kernel] at h3
  unfold l3_12
  refine wp_for (fun i m => (nI (7 * i), m)) (fun i m => Byt m u ([235, 144] ++ bksL bs i) ∧ Fr (FB u) μ m) ((bs.length + 6) / 7) (by omega) m2 _ rfl ⟨h3, h2.tr' h4⟩ (fun self i m hi ⟨hm, hf⟩ hk => ?_) (fun self m ⟨hm, hf⟩ => ?_)
  · have hd : Byt m d bs := h.fr hf (by omega) (fun k => by omega)
    unfold b3_12
    simp (disch := omega) only [i_0, i_1, i_2, i_3, i_4, i_5, i_6, i_7, i_8, i_9, i_10, i_11, i_12, i_13, i_14, i_15, i_16, i_17, i_18, i_19, i_20, i_21, i_22, i_23, i_24, i_25, i_26, i_27, i_31, i_32, i_40, i_42, i_45, i_48, i_51, i_52, i_56, i_58, i_59, i_60, i_61, i_62, i_63, i_64, i_85, i_90, i_100, i_112, i_120, i_121, i_127, i_128, i_130, i_144, i_171, i_192, i_193, i_197, i_200, i_207, i_235, i_240, i_248, i_252, i_254, i_255, i_256, i_512, i_544, i_768, i_769, i_793, i_1000, i_1023, i_1024, i_1200, i_1538, i_1541, i_1545, i_2046, i_2047, i_2049, i_2060, i_2736, i_2737, i_2817, i_2818, i_2819, i_2820, i_2821, i_2831, i_2832, i_3077, i_3085, i_3843, i_3849, i_3851, i_3852, i_4129, i_4353, i_4865, i_5121, i_5122, i_5123, i_6156, i_8192, i_12288, i_16383, i_32000, i_33280, i_49152, i_53247, i_60304, i_64000, i_64512, i_65521, i_65535, i_449838109, nI_add, pk_mul, pk_sub, nI_mm, nI_leI, nI_ltI, nI_eq, pk_div, jrem_N, jshl_N, jshr_N, jushr_N, jmin_N, jmax_N, an_1, an_3, an_7, an_15, an_31, an_63, an_127, an_255, an_1023, an_2047, an_16383, an_65535, nm, pfI, rdI, rdW, rdL, rdI2, rdW2, ldA_N, stA_N, stB_N, stZ_N, pfZ_0, pfZ_1, rtZ_0, rtZ_1, acp_N, Option.bind_some, wp_some_iff, true_and, and_true, false_and, and_false, or_true, true_or, or_false, false_or, not_true_eq_false, not_false_eq_true, if_true, if_false, if_pos, if_neg, hd.1]
    unfold l3_25
    refine wp_for (fun j m => (nI (7 * i), lN (pre (gB bs i) j), nI j, m)) (fun j m' => m' = m) 7 (by omega) m _ rfl rfl (fun self2 j m' hj hm' hk2 => ?_) (fun self2 m' hm' => ?_)
    · subst hm'
      specialize hk2 m' rfl
      have hp := pre_lt (gB_lt hb i) j
      have hp2 : 256 ^ j ≤ 256 ^ 6 := Nat.pow_le_pow_right (by decide) (by omega)
      have hg := gB_lt hb i j
      unfold b3_25
      have fin : ∀ b, b = gB bs i j → wp (c3_62 d u (fun v2 μ => self (v2, μ)) (fun v2 w3 v5 μ => self2 (v2, w3, v5, μ)) (nI (7 * i)) (nI j) (jlshl (lN (pre (gB bs i) j)) (nI 8)) (nI b) m') (fun m => Byt m u (unitL bs) ∧ Fr (FB u) μ m) := by
        intro b hbe
        subst hbe
        unfold c3_62
        rw [show jlshl (lN (pre (gB bs i) j)) (nI 8) = lN (pre (gB bs i) j * 2 ^ 8) from wb_shl _ (by decide), nI_l (by omega), g_or (k := 8) rfl hg (by omega)]
        simp (disch := omega) only [i_0, i_1, i_2, i_3, i_4, i_5, i_6, i_7, i_8, i_9, i_10, i_11, i_12, i_13, i_14, i_15, i_16, i_17, i_18, i_19, i_20, i_21, i_22, i_23, i_24, i_25, i_26, i_27, i_31, i_32, i_40, i_42, i_45, i_48, i_51, i_52, i_56, i_58, i_59, i_60, i_61, i_62, i_63, i_64, i_85, i_90, i_100, i_112, i_120, i_121, i_127, i_128, i_130, i_144, i_171, i_192, i_193, i_197, i_200, i_207, i_235, i_240, i_248, i_252, i_254, i_255, i_256, i_512, i_544, i_768, i_769, i_793, i_1000, i_1023, i_1024, i_1200, i_1538, i_1541, i_1545, i_2046, i_2047, i_2049, i_2060, i_2736, i_2737, i_2817, i_2818, i_2819, i_2820, i_2821, i_2831, i_2832, i_3077, i_3085, i_3843, i_3849, i_3851, i_3852, i_4129, i_4353, i_4865, i_5121, i_5122, i_5123, i_6156, i_8192, i_12288, i_16383, i_32000, i_33280, i_49152, i_53247, i_60304, i_64000, i_64512, i_65521, i_65535, i_449838109, nI_add, pk_mul, pk_sub, nI_mm, nI_leI, nI_ltI, nI_eq, pk_div, jrem_N, jshl_N, jshr_N, jushr_N, jmin_N, jmax_N, an_1, an_3, an_7, an_15, an_31, an_63, an_127, an_255, an_1023, an_2047, an_16383, an_65535, nm, pfI, rdI, rdW, rdL, rdI2, rdW2, ldA_N, stA_N, stB_N, stZ_N, pfZ_0, pfZ_1, rtZ_0, rtZ_1, acp_N, Option.bind_some, wp_some_iff, true_and, and_true, false_and, and_false, or_true, true_or, or_false, false_or, not_true_eq_false, not_false_eq_true, if_true, if_false, if_pos, if_neg]
        exact hk2
      simp (disch := omega) only [i_0, i_1, i_2, i_3, i_4, i_5, i_6, i_7, i_8, i_9, i_10, i_11, i_12, i_13, i_14, i_15, i_16, i_17, i_18, i_19, i_20, i_21, i_22, i_23, i_24, i_25, i_26, i_27, i_31, i_32, i_40, i_42, i_45, i_48, i_51, i_52, i_56, i_58, i_59, i_60, i_61, i_62, i_63, i_64, i_85, i_90, i_100, i_112, i_120, i_121, i_127, i_128, i_130, i_144, i_171, i_192, i_193, i_197, i_200, i_207, i_235, i_240, i_248, i_252, i_254, i_255, i_256, i_512, i_544, i_768, i_769, i_793, i_1000, i_1023, i_1024, i_1200, i_1538, i_1541, i_1545, i_2046, i_2047, i_2049, i_2060, i_2736, i_2737, i_2817, i_2818, i_2819, i_2820, i_2821, i_2831, i_2832, i_3077, i_3085, i_3843, i_3849, i_3851, i_3852, i_4129, i_4353, i_4865, i_5121, i_5122, i_5123, i_6156, i_8192, i_12288, i_16383, i_32000, i_33280, i_49152, i_53247, i_60304, i_64000, i_64512, i_65521, i_65535, i_449838109, nI_add, pk_mul, pk_sub, nI_mm, nI_leI, nI_ltI, nI_eq, pk_div, jrem_N, jshl_N, jshr_N, jushr_N, jmin_N, jmax_N, an_1, an_3, an_7, an_15, an_31, an_63, an_127, an_255, an_1023, an_2047, an_16383, an_65535, nm, pfI, rdI, rdW, rdL, rdI2, rdW2, ldA_N, stA_N, stB_N, stZ_N, pfZ_0, pfZ_1, rtZ_0, rtZ_1, acp_N, Option.bind_some, wp_some_iff, true_and, and_true, false_and, and_false, or_true, true_or, or_false, false_or, not_true_eq_false, not_false_eq_true, if_true, if_false, if_pos, if_neg, hd.1]
      refine wp_if (fun q => ?_) (fun q => ?_)
      · exact fin 85 (by rw [gB, if_neg (by omega)])
      · rw [at_ok hd (by omega), Option.bind_some]
        exact fin _ (by rw [gB, if_pos (by omega)])
    · subst hm'
      have hlen : ([235, 144] ++ bksL bs i).length = 2 + 8 * i := by rw [List.length_append, bksL_len]; rfl
      unfold b3_25
      simp (disch := omega) only [i_0, i_1, i_2, i_3, i_4, i_5, i_6, i_7, i_8, i_9, i_10, i_11, i_12, i_13, i_14, i_15, i_16, i_17, i_18, i_19, i_20, i_21, i_22, i_23, i_24, i_25, i_26, i_27, i_31, i_32, i_40, i_42, i_45, i_48, i_51, i_52, i_56, i_58, i_59, i_60, i_61, i_62, i_63, i_64, i_85, i_90, i_100, i_112, i_120, i_121, i_127, i_128, i_130, i_144, i_171, i_192, i_193, i_197, i_200, i_207, i_235, i_240, i_248, i_252, i_254, i_255, i_256, i_512, i_544, i_768, i_769, i_793, i_1000, i_1023, i_1024, i_1200, i_1538, i_1541, i_1545, i_2046, i_2047, i_2049, i_2060, i_2736, i_2737, i_2817, i_2818, i_2819, i_2820, i_2821, i_2831, i_2832, i_3077, i_3085, i_3843, i_3849, i_3851, i_3852, i_4129, i_4353, i_4865, i_5121, i_5122, i_5123, i_6156, i_8192, i_12288, i_16383, i_32000, i_33280, i_49152, i_53247, i_60304, i_64000, i_64512, i_65521, i_65535, i_449838109, nI_add, pk_mul, pk_sub, nI_mm, nI_leI, nI_ltI, nI_eq, pk_div, jrem_N, jshl_N, jshr_N, jushr_N, jmin_N, jmax_N, an_1, an_3, an_7, an_15, an_31, an_63, an_127, an_255, an_1023, an_2047, an_16383, an_65535, nm, pfI, rdI, rdW, rdL, rdI2, rdW2, ldA_N, stA_N, stB_N, stZ_N, pfZ_0, pfZ_1, rtZ_0, rtZ_1, acp_N, Option.bind_some, wp_some_iff, true_and, and_true, false_and, and_false, or_true, true_or, or_false, false_or, not_true_eq_false, not_false_eq_true, if_true, if_false, if_pos, if_neg]
      rw [show jlshl (lN (pre (gB bs i) 7)) (nI 8) = lN (nB bs i) from wb_shl _ (by decide)]
      refine wp_bind (putSeven_ok hm (by rw [hlen]; omega) (nB_lt hb i)) (fun m3 ⟨g1, g2⟩ => ?_)
      rw [f1_ok (nB_lt hb i), Option.bind_some]
      dsimp only
      rw [eB_C (remF_lt (fun k => Nat.mod_lt _ (by decide)) 63), sev_nB hb i] at *
      refine wp_bind (pu_ok _ g1 (by rw [List.length_append, hlen, List.length_map, List.length_range]; omega)) (fun m4 ⟨g3, g4⟩ => ?_)
      have hv : byv (nI ((remF (fun k => nB bs i / 2 ^ (63 - k) % 2) 63 ^^^ 127) * 2)) = eB bs i := byv_nI (eB_lt bs i)
      rw [hv, List.append_assoc, List.append_assoc] at g3
      refine hk m4 ⟨?_, (hf.tr' g2).tr' g4⟩
      rw [bksL, blkL]
      exact g3
  · have hd : Byt m d bs := h.fr hf (by omega) (fun k => by omega)
    have hlen : ([235, 144] ++ bksL bs ((bs.length + 6) / 7)).length = 2 + 8 * ((bs.length + 6) / 7) := by rw [List.length_append, bksL_len]; rfl
    unfold b3_12
    simp (disch := omega) only [i_0, i_1, i_2, i_3, i_4, i_5, i_6, i_7, i_8, i_9, i_10, i_11, i_12, i_13, i_14, i_15, i_16, i_17, i_18, i_19, i_20, i_21, i_22, i_23, i_24, i_25, i_26, i_27, i_31, i_32, i_40, i_42, i_45, i_48, i_51, i_52, i_56, i_58, i_59, i_60, i_61, i_62, i_63, i_64, i_85, i_90, i_100, i_112, i_120, i_121, i_127, i_128, i_130, i_144, i_171, i_192, i_193, i_197, i_200, i_207, i_235, i_240, i_248, i_252, i_254, i_255, i_256, i_512, i_544, i_768, i_769, i_793, i_1000, i_1023, i_1024, i_1200, i_1538, i_1541, i_1545, i_2046, i_2047, i_2049, i_2060, i_2736, i_2737, i_2817, i_2818, i_2819, i_2820, i_2821, i_2831, i_2832, i_3077, i_3085, i_3843, i_3849, i_3851, i_3852, i_4129, i_4353, i_4865, i_5121, i_5122, i_5123, i_6156, i_8192, i_12288, i_16383, i_32000, i_33280, i_49152, i_53247, i_60304, i_64000, i_64512, i_65521, i_65535, i_449838109, nI_add, pk_mul, pk_sub, nI_mm, nI_leI, nI_ltI, nI_eq, pk_div, jrem_N, jshl_N, jshr_N, jushr_N, jmin_N, jmax_N, an_1, an_3, an_7, an_15, an_31, an_63, an_127, an_255, an_1023, an_2047, an_16383, an_65535, nm, pfI, rdI, rdW, rdL, rdI2, rdW2, ldA_N, stA_N, stB_N, stZ_N, pfZ_0, pfZ_1, rtZ_0, rtZ_1, acp_N, Option.bind_some, wp_some_iff, true_and, and_true, false_and, and_false, or_true, true_or, or_false, false_or, not_true_eq_false, not_false_eq_true, if_true, if_false, if_pos, if_neg, hd.1]
    refine wp_bind (pm_ok _ 7 hm (by rw [hlen]; omega) (by decide)) (fun m3 ⟨g1, g2⟩ => ?_)
    refine wp_bind (pu_ok _ g1 (by rw [List.length_append, hlen, List.length_replicate]; omega)) (fun m4 ⟨g3, g4⟩ => wp_some ⟨?_, (hf.tr' g2).tr' g4⟩)
    exact g3
