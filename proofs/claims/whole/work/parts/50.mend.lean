/-! ===== mending a block ===== -/
def pw : Nat → Nat
  | 0 => 1
  | i + 1 => rstep (pw i) 0
theorem pw_tab : (List.range 63).all (fun i => decide (pw i < 128) && decide (pw i ≠ 0) && (List.range 63).all (fun j => decide (pw i = pw j → i = j))) = true := by decide +kernel
theorem pw_lt {i : Nat} (h : i < 63) : pw i < 128 := by
  have := List.all_eq_true.mp pw_tab i (List.mem_range.mpr h)
  simp only [Bool.and_eq_true, decide_eq_true_eq] at this
  exact this.1.1
theorem pw_inj {i j : Nat} (h : i < 63) (h2 : j < 63) (e : pw i = pw j) : i = j := by
  have := List.all_eq_true.mp pw_tab i (List.mem_range.mpr h)
  simp only [Bool.and_eq_true, decide_eq_true_eq] at this
  exact of_decide_eq_true (List.all_eq_true.mp this.2 j (List.mem_range.mpr h2)) e
theorem rstep_lin : ∀ a, a < 128 → ∀ b, b < 128 → ∀ c, c < 2 → ∀ d, d < 2 → rstep (a ^^^ b) (c ^^^ d) = rstep a c ^^^ rstep b d := by
  have h : (List.range 128).all (fun a => (List.range 128).all (fun b => (List.range 2).all (fun c => (List.range 2).all (fun d => rstep (a ^^^ b) (c ^^^ d) == (rstep a c ^^^ rstep b d))))) = true := by decide +kernel
  intro a ha b hb c hc d hd
  exact eq_of_beq (List.all_eq_true.mp (List.all_eq_true.mp (List.all_eq_true.mp (List.all_eq_true.mp h a (List.mem_range.mpr ha)) b (List.mem_range.mpr hb)) c (List.mem_range.mpr hc)) d (List.mem_range.mpr hd))
theorem rem_flip {g : Nat → Nat} (hg : ∀ k, g k < 2) (k0 : Nat) : ∀ n, n ≤ 63 → remF (fun k => g k ^^^ (if k = k0 then 1 else 0)) n = remF g n ^^^ (if k0 < n then pw (n - 1 - k0) else 0)
  | 0, _ => by rw [if_neg (by omega), Nat.xor_zero]; rfl
  | n + 1, h => by
    have hp : (if k0 < n then pw (n - 1 - k0) else 0) < 128 := by
      split
      · exact pw_lt (by omega)
      · decide
    have hd : (if n = k0 then 1 else 0) < 2 := by split <;> decide
    rw [remF, rem_flip hg k0 n (by omega), rstep_lin _ (remF_lt hg n) _ hp _ (hg n) _ hd, remF]
    congr 1
    by_cases e : k0 < n
    · rw [if_pos e, if_neg (by omega), if_pos (by omega), show n + 1 - 1 - k0 = (n - 1 - k0) + 1 by omega]
      rfl
    · rw [if_neg e]
      by_cases e2 : n = k0
      · rw [if_pos e2, if_pos (by omega), show n + 1 - 1 - k0 = 0 by omega]
        rfl
      · rw [if_neg e2, if_neg (by omega)]
        rfl
/-- the remainder of a block whose seven check bits are turned -/
def syn (n : Nat) : Nat := remF (bB 63 0 1 n) 63
def fnd (r : Nat) : Option Nat := (List.range 63).find? (fun i => pw i == r)
/-- the mended block and how many bits were turned -/
def mnd (n : Nat) : Option (Nat × Nat) := if syn n = 0 then some (n, 0) else (fnd (syn n)).map (fun i => (n ^^^ 2 ^ (i + 1), 1))
theorem fnd_some {r i : Nat} (hi : i < 63) (h : pw i = r) : fnd r = some i := by
  unfold fnd
  rw [List.find?_range_eq_some]
  refine ⟨by simp [h], List.mem_range.mpr hi, fun j hj => ?_⟩
  simp only [Bool.not_eq_true', beq_eq_false_iff_ne]
  intro q
  have := pw_inj (by omega) hi (q.trans h.symm)
  omega
theorem fnd_none {r : Nat} (h : ∀ i, i < 63 → pw i ≠ r) : fnd r = none := by
  unfold fnd
  rw [List.find?_eq_none]
  intro i hi
  simp only [beq_iff_eq]
  exact h i (List.mem_range.mp hi)
theorem syn_lt (n : Nat) : syn n < 128 := remF_lt (bB_lt 63 0 1 n) 63
theorem xor_bit (a b j : Nat) : (a ^^^ b) / 2 ^ j % 2 = (a / 2 ^ j % 2) ^^^ (b / 2 ^ j % 2) := by
  have h := Nat.testBit_xor a b j
  rw [Nat.testBit_eq_decide_div_mod_eq, Nat.testBit_eq_decide_div_mod_eq, Nat.testBit_eq_decide_div_mod_eq] at h
  have h1 : (a ^^^ b) / 2 ^ j % 2 < 2 := Nat.mod_lt _ (by decide)
  have h2 : a / 2 ^ j % 2 < 2 := Nat.mod_lt _ (by decide)
  have h3 : b / 2 ^ j % 2 < 2 := Nat.mod_lt _ (by decide)
  generalize (a ^^^ b) / 2 ^ j % 2 = x at *
  generalize a / 2 ^ j % 2 = y at *
  generalize b / 2 ^ j % 2 = z at *
  have key : ∀ x, x < 2 → ∀ y, y < 2 → ∀ z, z < 2 → decide (x = 1) = ((decide (y = 1)) ^^ (decide (z = 1))) → x = y ^^^ z := by decide
  exact key x h1 y h2 z h3 h
theorem syn_C {n : Nat} : remF (fun k => (n ^^^ 254) / 2 ^ (63 - k) % 2) 63 = syn n := by
  unfold syn
  apply remF_cg
  intro k hk
  rw [xor_bit, bB, if_pos hk]
  congr 1
  have h : ∀ k, k < 63 → 254 / 2 ^ (63 - k) % 2 = if 1 = 1 ∧ 56 ≤ k then 1 else 0 := by decide +kernel
  exact h k hk
theorem nxor_lt {a b : Nat} (ha : a < 2 ^ 64) (hb : b < 2 ^ 64) : a ^^^ b < 2 ^ 64 := Nat.xor_lt_two_pow ha hb
/-- the bit that the class turns, as a long -/
def wrg (n : Nat) : Nat := if syn n = 0 then 0 else match fnd (syn n) with
  | some i => 2 ^ (i + 1)
  | none => 1
theorem wrong_C {n : Nat} {μ : Mem} (hn : n < 2 ^ 64) : f2 (lN n) μ = some (μ, lN (wrg n)) := by
  apply wp_eq
  have hs := syn_lt n
  unfold f2
  rw [show (254 : Int64) = lN 254 from rfl, lN_xor, f1_ok (nxor_lt hn (by decide)), Option.bind_some, syn_C]
  dsimp only
  rw [i_0]
  simp (disch := omega) only [i_0, i_1, i_2, i_3, i_4, i_5, i_6, i_7, i_8, i_9, i_10, i_11, i_12, i_13, i_14, i_15, i_16, i_17, i_18, i_19, i_20, i_21, i_22, i_23, i_24, i_25, i_26, i_27, i_31, i_32, i_40, i_42, i_45, i_48, i_51, i_52, i_56, i_58, i_59, i_60, i_61, i_62, i_63, i_64, i_85, i_90, i_100, i_112, i_120, i_121, i_127, i_128, i_130, i_144, i_171, i_192, i_193, i_197, i_200, i_207, i_235, i_240, i_248, i_252, i_254, i_255, i_256, i_512, i_544, i_768, i_769, i_793, i_1000, i_1023, i_1024, i_1200, i_1538, i_1541, i_1545, i_2046, i_2047, i_2049, i_2060, i_2736, i_2737, i_2817, i_2818, i_2819, i_2820, i_2821, i_2831, i_2832, i_3077, i_3085, i_3843, i_3849, i_3851, i_3852, i_4129, i_4353, i_4865, i_5121, i_5122, i_5123, i_6156, i_8192, i_12288, i_16383, i_32000, i_33280, i_49152, i_53247, i_60304, i_64000, i_64512, i_65521, i_65535, i_449838109, nI_add, pk_mul, pk_sub, nI_mm, nI_leI, nI_ltI, nI_eq, pk_div, jrem_N, jshl_N, jshr_N, jushr_N, jmin_N, jmax_N, an_1, an_3, an_7, an_15, an_31, an_63, an_127, an_255, an_1023, an_2047, an_16383, an_65535]
  refine wp_if (fun q => ?_) (fun q => ?_)
  · rw [wrg, if_pos q]
    exact wp_some rfl
  · unfold l2_20
    refine wp_for (fun i m => (nI (syn n), nI (pw i), nI (1 + i), m)) (fun i m => m = μ ∧ ∀ j, j < i → pw j ≠ syn n) 63 (by omega) μ _ rfl ⟨rfl, fun j hj => absurd hj (Nat.not_lt_zero _)⟩ (fun self i m hi ⟨hm, hj⟩ hk => ?_) (fun self m ⟨hm, hj⟩ => ?_)
    · subst hm
      have hp := pw_lt hi
      have hps : pw (i + 1) = rstep (pw i) 0 := rfl
      unfold b2_20
      simp (disch := omega) only [i_0, i_1, i_2, i_3, i_4, i_5, i_6, i_7, i_8, i_9, i_10, i_11, i_12, i_13, i_14, i_15, i_16, i_17, i_18, i_19, i_20, i_21, i_22, i_23, i_24, i_25, i_26, i_27, i_31, i_32, i_40, i_42, i_45, i_48, i_51, i_52, i_56, i_58, i_59, i_60, i_61, i_62, i_63, i_64, i_85, i_90, i_100, i_112, i_120, i_121, i_127, i_128, i_130, i_144, i_171, i_192, i_193, i_197, i_200, i_207, i_235, i_240, i_248, i_252, i_254, i_255, i_256, i_512, i_544, i_768, i_769, i_793, i_1000, i_1023, i_1024, i_1200, i_1538, i_1541, i_1545, i_2046, i_2047, i_2049, i_2060, i_2736, i_2737, i_2817, i_2818, i_2819, i_2820, i_2821, i_2831, i_2832, i_3077, i_3085, i_3843, i_3849, i_3851, i_3852, i_4129, i_4353, i_4865, i_5121, i_5122, i_5123, i_6156, i_8192, i_12288, i_16383, i_32000, i_33280, i_49152, i_53247, i_60304, i_64000, i_64512, i_65521, i_65535, i_449838109, nI_add, pk_mul, pk_sub, nI_mm, nI_leI, nI_ltI, nI_eq, pk_div, jrem_N, jshl_N, jshr_N, jushr_N, jmin_N, jmax_N, an_1, an_3, an_7, an_15, an_31, an_63, an_127, an_255, an_1023, an_2047, an_16383, an_65535, nm, pfI, rdI, rdW, rdL, rdI2, rdW2, ldA_N, stA_N, stB_N, stZ_N, pfZ_0, pfZ_1, rtZ_0, rtZ_1, acp_N, Option.bind_some, wp_some_iff, true_and, and_true, false_and, and_false, or_true, true_or, or_false, false_or, not_true_eq_false, not_false_eq_true, if_true, if_false, if_pos, if_neg]
      refine wp_if (fun e => ?_) (fun e => ?_)
      · rw [wrg, if_neg q, fnd_some hi e]
        refine wp_some ?_
        dsimp only
        rw [show jlshl (1 : Int64) (nI (1 + i)) = lN (1 * 2 ^ (1 + i)) from wb_shl 1 (by omega), Nat.one_mul, Nat.add_comm]
      · have hk2 := hk m ⟨rfl, fun j hj2 => by
          by_cases z : j = i
          · rw [z]; exact e
          · exact hj j (by omega)⟩
        rw [hps, rstep, Nat.add_zero, ← Nat.add_assoc] at hk2
        rw [Nat.mul_comm 2] at hk2
        simp (disch := omega) only [i_0, i_1, i_2, i_3, i_4, i_5, i_6, i_7, i_8, i_9, i_10, i_11, i_12, i_13, i_14, i_15, i_16, i_17, i_18, i_19, i_20, i_21, i_22, i_23, i_24, i_25, i_26, i_27, i_31, i_32, i_40, i_42, i_45, i_48, i_51, i_52, i_56, i_58, i_59, i_60, i_61, i_62, i_63, i_64, i_85, i_90, i_100, i_112, i_120, i_121, i_127, i_128, i_130, i_144, i_171, i_192, i_193, i_197, i_200, i_207, i_235, i_240, i_248, i_252, i_254, i_255, i_256, i_512, i_544, i_768, i_769, i_793, i_1000, i_1023, i_1024, i_1200, i_1538, i_1541, i_1545, i_2046, i_2047, i_2049, i_2060, i_2736, i_2737, i_2817, i_2818, i_2819, i_2820, i_2821, i_2831, i_2832, i_3077, i_3085, i_3843, i_3849, i_3851, i_3852, i_4129, i_4353, i_4865, i_5121, i_5122, i_5123, i_6156, i_8192, i_12288, i_16383, i_32000, i_33280, i_49152, i_53247, i_60304, i_64000, i_64512, i_65521, i_65535, i_449838109, nI_add, pk_mul, pk_sub, nI_mm, nI_leI, nI_ltI, nI_eq, pk_div, jrem_N, jshl_N, jshr_N, jushr_N, jmin_N, jmax_N, an_1, an_3, an_7, an_15, an_31, an_63, an_127, an_255, an_1023, an_2047, an_16383, an_65535, nm, pfI, rdI, rdW, rdL, rdI2, rdW2, ldA_N, stA_N, stB_N, stZ_N, pfZ_0, pfZ_1, rtZ_0, rtZ_1, acp_N, Option.bind_some, wp_some_iff, true_and, and_true, false_and, and_false, or_true, true_or, or_false, false_or, not_true_eq_false, not_false_eq_true, if_true, if_false, if_pos, if_neg, c2_55, t128, nx_xor]
        refine wp_if (fun q => ?_) (fun q => ?_)
        · rw [if_neg (by omega)] at hk2; exact hk2
        · rw [if_pos (by omega)] at hk2; exact hk2
    · subst hm
      unfold b2_20
      simp (disch := omega) only [i_0, i_1, i_2, i_3, i_4, i_5, i_6, i_7, i_8, i_9, i_10, i_11, i_12, i_13, i_14, i_15, i_16, i_17, i_18, i_19, i_20, i_21, i_22, i_23, i_24, i_25, i_26, i_27, i_31, i_32, i_40, i_42, i_45, i_48, i_51, i_52, i_56, i_58, i_59, i_60, i_61, i_62, i_63, i_64, i_85, i_90, i_100, i_112, i_120, i_121, i_127, i_128, i_130, i_144, i_171, i_192, i_193, i_197, i_200, i_207, i_235, i_240, i_248, i_252, i_254, i_255, i_256, i_512, i_544, i_768, i_769, i_793, i_1000, i_1023, i_1024, i_1200, i_1538, i_1541, i_1545, i_2046, i_2047, i_2049, i_2060, i_2736, i_2737, i_2817, i_2818, i_2819, i_2820, i_2821, i_2831, i_2832, i_3077, i_3085, i_3843, i_3849, i_3851, i_3852, i_4129, i_4353, i_4865, i_5121, i_5122, i_5123, i_6156, i_8192, i_12288, i_16383, i_32000, i_33280, i_49152, i_53247, i_60304, i_64000, i_64512, i_65521, i_65535, i_449838109, nI_add, pk_mul, pk_sub, nI_mm, nI_leI, nI_ltI, nI_eq, pk_div, jrem_N, jshl_N, jshr_N, jushr_N, jmin_N, jmax_N, an_1, an_3, an_7, an_15, an_31, an_63, an_127, an_255, an_1023, an_2047, an_16383, an_65535, nm, pfI, rdI, rdW, rdL, rdI2, rdW2, ldA_N, stA_N, stB_N, stZ_N, pfZ_0, pfZ_1, rtZ_0, rtZ_1, acp_N, Option.bind_some, wp_some_iff, true_and, and_true, false_and, and_false, or_true, true_or, or_false, false_or, not_true_eq_false, not_false_eq_true, if_true, if_false, if_pos, if_neg]
      rw [wrg, if_neg q, fnd_none hj]
      rfl
/-- eight bytes of a row make a block -/
def Num (μ : Mem) (p fr n : Nat) : Prop := ∀ j, j < 8 → μ.1 p (fr + j) = nI (n / 2 ^ (56 - 8 * j) % 256)
theorem byte_xor (n k j : Nat) (hk : k < 63) (hj : j < 8) : (n ^^^ 2 ^ (63 - k)) / 2 ^ (56 - 8 * j) % 256 = if j = k / 8 then (n / 2 ^ (56 - 8 * j) % 256) ^^^ 2 ^ (7 - k % 8) else n / 2 ^ (56 - 8 * j) % 256 := by
  have h : ∀ k, k < 63 → ∀ j, j < 8 → 2 ^ (63 - k) / 2 ^ (56 - 8 * j) % 256 = if j = k / 8 then 2 ^ (7 - k % 8) else 0 := by decide +kernel
  have e : (n ^^^ 2 ^ (63 - k)) / 2 ^ (56 - 8 * j) % 256 = (n / 2 ^ (56 - 8 * j) % 256) ^^^ (2 ^ (63 - k) / 2 ^ (56 - 8 * j) % 256) := by
    rw [← Nat.shiftRight_eq_div_pow, ← Nat.shiftRight_eq_div_pow, ← Nat.shiftRight_eq_div_pow, Nat.shiftRight_xor_distrib]
    exact Nat.xor_mod_two_pow (n := 8)
  rw [e, h k hk j hj]
  split
  · rfl
  · exact Nat.xor_zero _
theorem turn_M {p fr n k : Nat} {μ : Mem} (h : Num μ p fr n) (hk : k < 63) (hl : fr + 8 ≤ gln p) : wp (f248 p (nI fr) (nI k) μ) (fun m => Num m p fr (n ^^^ 2 ^ (63 - k)) ∧ Fr (fun c i => c = p ∧ fr ≤ i ∧ i < fr + 8) μ m) := by
  have hg := gln_le p
  have e := h (k / 8) (by omega)
  have hv : 1 * 2 ^ (7 - k % 8) < 2 ^ 32 := by
    have : 2 ^ (7 - k % 8) ≤ 2 ^ 7 := Nat.pow_le_pow_right (by decide) (by omega)
    omega
  unfold f248
  simp (disch := omega) only [i_0, i_1, i_2, i_3, i_4, i_5, i_6, i_7, i_8, i_9, i_10, i_11, i_12, i_13, i_14, i_15, i_16, i_17, i_18, i_19, i_20, i_21, i_22, i_23, i_24, i_25, i_26, i_27, i_31, i_32, i_40, i_42, i_45, i_48, i_51, i_52, i_56, i_58, i_59, i_60, i_61, i_62, i_63, i_64, i_85, i_90, i_100, i_112, i_120, i_121, i_127, i_128, i_130, i_144, i_171, i_192, i_193, i_197, i_200, i_207, i_235, i_240, i_248, i_252, i_254, i_255, i_256, i_512, i_544, i_768, i_769, i_793, i_1000, i_1023, i_1024, i_1200, i_1538, i_1541, i_1545, i_2046, i_2047, i_2049, i_2060, i_2736, i_2737, i_2817, i_2818, i_2819, i_2820, i_2821, i_2831, i_2832, i_3077, i_3085, i_3843, i_3849, i_3851, i_3852, i_4129, i_4353, i_4865, i_5121, i_5122, i_5123, i_6156, i_8192, i_12288, i_16383, i_32000, i_33280, i_49152, i_53247, i_60304, i_64000, i_64512, i_65521, i_65535, i_449838109, nI_add, pk_mul, pk_sub, nI_mm, nI_leI, nI_ltI, nI_eq, pk_div, jrem_N, jshl_N, jshr_N, jushr_N, jmin_N, jmax_N, an_1, an_3, an_7, an_15, an_31, an_63, an_127, an_255, an_1023, an_2047, an_16383, an_65535, nm, pfI, rdI, rdW, rdL, rdI2, rdW2, ldA_N, stA_N, stB_N, stZ_N, pfZ_0, pfZ_1, rtZ_0, rtZ_1, acp_N, Option.bind_some, wp_some_iff, true_and, and_true, false_and, and_false, or_true, true_or, or_false, false_or, not_true_eq_false, not_false_eq_true, if_true, if_false, if_pos, if_neg, e, nx_xor]
  refine ⟨fun j hj => ?_, Fr.sI ⟨rfl, by omega, by omega⟩⟩
  rw [rdI, byte_xor n k j hk hj, Nat.one_mul]
  by_cases z : j = k / 8
  · rw [if_pos (by omega), if_pos z, z]
  · rw [if_neg (by omega), if_neg z]
    exact h j hj
theorem syn_M {p fr n : Nat} {μ : Mem} (h : Num μ p fr n) (hl : fr + 8 ≤ gln p) : f246 p (nI fr) (nI 63) (nI 0) (nI 1) μ = some (μ, nI (syn n)) :=
  rem_M (bits := 63) (z := 0) (t := 1) (by omega) (by omega) (by omega) (fun j hj => h j (by omega)) (by omega)
theorem syn_flip {n k : Nat} (hk : k < 63) : syn (n ^^^ 2 ^ (63 - k)) = syn n ^^^ pw (62 - k) := by
  have h := rem_flip (bB_lt 63 0 1 n) k 63 (by omega)
  rw [if_pos hk] at h
  unfold syn
  rw [← show 63 - 1 - k = 62 - k from rfl, ← h]
  apply remF_cg
  intro j hj
  unfold bB
  rw [if_pos hj, if_pos hj, xor_bit, Nat.xor_assoc, Nat.xor_assoc]
  congr 1
  rw [Nat.xor_comm]
  congr 1
  have q : ∀ k, k < 63 → ∀ j, j < 63 → 2 ^ (63 - k) / 2 ^ (63 - j) % 2 = if j = k then 1 else 0 := by decide +kernel
  exact q k hk j hj
theorem xor_z {a b : Nat} : a ^^^ b = 0 ↔ a = b := by
  constructor
  · intro h
    have : (a ^^^ b) ^^^ b = 0 ^^^ b := by rw [h]
    rwa [Nat.xor_assoc, Nat.xor_self, Nat.xor_zero, Nat.zero_xor] at this
  · intro h
    rw [h, Nat.xor_self]
theorem mend_M {p fr n : Nat} {μ : Mem} (h : Num μ p fr n) (hl : fr + 8 ≤ gln p) : wp (f249 p (nI fr) μ) (fun r => (match mnd n with
    | some q => r.2 = nI q.2 ∧ Num r.1 p fr q.1
    | none => r.2 = -nI 2) ∧ Fr (fun c i => c = p ∧ fr ≤ i ∧ i < fr + 8) μ r.1) := by
  have hs := syn_lt n
  unfold f249
  rw [i_63, i_0, i_1, syn_M h hl, Option.bind_some]
  dsimp only
  simp (disch := omega) only [i_0, i_1, i_2, i_3, i_4, i_5, i_6, i_7, i_8, i_9, i_10, i_11, i_12, i_13, i_14, i_15, i_16, i_17, i_18, i_19, i_20, i_21, i_22, i_23, i_24, i_25, i_26, i_27, i_31, i_32, i_40, i_42, i_45, i_48, i_51, i_52, i_56, i_58, i_59, i_60, i_61, i_62, i_63, i_64, i_85, i_90, i_100, i_112, i_120, i_121, i_127, i_128, i_130, i_144, i_171, i_192, i_193, i_197, i_200, i_207, i_235, i_240, i_248, i_252, i_254, i_255, i_256, i_512, i_544, i_768, i_769, i_793, i_1000, i_1023, i_1024, i_1200, i_1538, i_1541, i_1545, i_2046, i_2047, i_2049, i_2060, i_2736, i_2737, i_2817, i_2818, i_2819, i_2820, i_2821, i_2831, i_2832, i_3077, i_3085, i_3843, i_3849, i_3851, i_3852, i_4129, i_4353, i_4865, i_5121, i_5122, i_5123, i_6156, i_8192, i_12288, i_16383, i_32000, i_33280, i_49152, i_53247, i_60304, i_64000, i_64512, i_65521, i_65535, i_449838109, nI_add, pk_mul, pk_sub, nI_mm, nI_leI, nI_ltI, nI_eq, pk_div, jrem_N, jshl_N, jshr_N, jushr_N, jmin_N, jmax_N, an_1, an_3, an_7, an_15, an_31, an_63, an_127, an_255, an_1023, an_2047, an_16383, an_65535]
  refine wp_if (fun q => ?_) (fun q => ?_)
  · rw [mnd, if_pos q]
    exact wp_some ⟨⟨rfl, h⟩, Fr.rf⟩
  · unfold l249_16
    refine wp_for (fun i m => (nI fr, nI i, m)) (fun i m => (∀ j, j < i → pw (62 - j) ≠ syn n) ∧ Num m p fr n ∧ Fr (fun c i => c = p ∧ fr ≤ i ∧ i < fr + 8) μ m) 63 (by omega) μ _ rfl ⟨fun j hj => absurd hj (Nat.not_lt_zero _), h, Fr.rf⟩ (fun self i m hi ⟨hj, hm, hf⟩ hk => ?_) (fun self m ⟨hj, hm, hf⟩ => ?_)
    · unfold b249_16
      simp (disch := omega) only [i_0, i_1, i_2, i_3, i_4, i_5, i_6, i_7, i_8, i_9, i_10, i_11, i_12, i_13, i_14, i_15, i_16, i_17, i_18, i_19, i_20, i_21, i_22, i_23, i_24, i_25, i_26, i_27, i_31, i_32, i_40, i_42, i_45, i_48, i_51, i_52, i_56, i_58, i_59, i_60, i_61, i_62, i_63, i_64, i_85, i_90, i_100, i_112, i_120, i_121, i_127, i_128, i_130, i_144, i_171, i_192, i_193, i_197, i_200, i_207, i_235, i_240, i_248, i_252, i_254, i_255, i_256, i_512, i_544, i_768, i_769, i_793, i_1000, i_1023, i_1024, i_1200, i_1538, i_1541, i_1545, i_2046, i_2047, i_2049, i_2060, i_2736, i_2737, i_2817, i_2818, i_2819, i_2820, i_2821, i_2831, i_2832, i_3077, i_3085, i_3843, i_3849, i_3851, i_3852, i_4129, i_4353, i_4865, i_5121, i_5122, i_5123, i_6156, i_8192, i_12288, i_16383, i_32000, i_33280, i_49152, i_53247, i_60304, i_64000, i_64512, i_65521, i_65535, i_449838109, nI_add, pk_mul, pk_sub, nI_mm, nI_leI, nI_ltI, nI_eq, pk_div, jrem_N, jshl_N, jshr_N, jushr_N, jmin_N, jmax_N, an_1, an_3, an_7, an_15, an_31, an_63, an_127, an_255, an_1023, an_2047, an_16383, an_65535, nm, pfI, rdI, rdW, rdL, rdI2, rdW2, ldA_N, stA_N, stB_N, stZ_N, pfZ_0, pfZ_1, rtZ_0, rtZ_1, acp_N, Option.bind_some, wp_some_iff, true_and, and_true, false_and, and_false, or_true, true_or, or_false, false_or, not_true_eq_false, not_false_eq_true, if_true, if_false, if_pos, if_neg]
      refine wp_bind (turn_M hm hi hl) (fun m1 ⟨h1, h2⟩ => ?_)
      have hs2 := syn_lt (n ^^^ 2 ^ (63 - i))
      rw [syn_M h1 hl, Option.bind_some]
      simp (disch := omega) only [i_0, i_1, i_2, i_3, i_4, i_5, i_6, i_7, i_8, i_9, i_10, i_11, i_12, i_13, i_14, i_15, i_16, i_17, i_18, i_19, i_20, i_21, i_22, i_23, i_24, i_25, i_26, i_27, i_31, i_32, i_40, i_42, i_45, i_48, i_51, i_52, i_56, i_58, i_59, i_60, i_61, i_62, i_63, i_64, i_85, i_90, i_100, i_112, i_120, i_121, i_127, i_128, i_130, i_144, i_171, i_192, i_193, i_197, i_200, i_207, i_235, i_240, i_248, i_252, i_254, i_255, i_256, i_512, i_544, i_768, i_769, i_793, i_1000, i_1023, i_1024, i_1200, i_1538, i_1541, i_1545, i_2046, i_2047, i_2049, i_2060, i_2736, i_2737, i_2817, i_2818, i_2819, i_2820, i_2821, i_2831, i_2832, i_3077, i_3085, i_3843, i_3849, i_3851, i_3852, i_4129, i_4353, i_4865, i_5121, i_5122, i_5123, i_6156, i_8192, i_12288, i_16383, i_32000, i_33280, i_49152, i_53247, i_60304, i_64000, i_64512, i_65521, i_65535, i_449838109, nI_add, pk_mul, pk_sub, nI_mm, nI_leI, nI_ltI, nI_eq, pk_div, jrem_N, jshl_N, jshr_N, jushr_N, jmin_N, jmax_N, an_1, an_3, an_7, an_15, an_31, an_63, an_127, an_255, an_1023, an_2047, an_16383, an_65535, nm, pfI, rdI, rdW, rdL, rdI2, rdW2, ldA_N, stA_N, stB_N, stZ_N, pfZ_0, pfZ_1, rtZ_0, rtZ_1, acp_N, Option.bind_some, wp_some_iff, true_and, and_true, false_and, and_false, or_true, true_or, or_false, false_or, not_true_eq_false, not_false_eq_true, if_true, if_false, if_pos, if_neg]
      refine wp_if (fun e => ?_) (fun e => ?_)
      · rw [syn_flip hi, xor_z] at e
        rw [mnd, if_neg q, fnd_some (i := 62 - i) (by omega) e.symm]
        refine wp_some ⟨⟨rfl, ?_⟩, hf.tr' h2⟩
        show Num m1 p fr (n ^^^ 2 ^ (62 - i + 1))
        rw [show 62 - i + 1 = 63 - i by omega]
        exact h1
      · refine wp_bind (turn_M h1 hi hl) (fun m2 ⟨h3, h4⟩ => ?_)
        rw [Nat.xor_assoc, Nat.xor_self, Nat.xor_zero] at h3
        refine hk m2 ⟨fun j hj2 => ?_, h3, (hf.tr' h2).tr' h4⟩
        by_cases z : j = i
        · subst z
          rw [syn_flip hi, xor_z] at e
          exact fun w => e w.symm
        · exact hj j (by omega)
    · unfold b249_16
      simp (disch := omega) only [i_0, i_1, i_2, i_3, i_4, i_5, i_6, i_7, i_8, i_9, i_10, i_11, i_12, i_13, i_14, i_15, i_16, i_17, i_18, i_19, i_20, i_21, i_22, i_23, i_24, i_25, i_26, i_27, i_31, i_32, i_40, i_42, i_45, i_48, i_51, i_52, i_56, i_58, i_59, i_60, i_61, i_62, i_63, i_64, i_85, i_90, i_100, i_112, i_120, i_121, i_127, i_128, i_130, i_144, i_171, i_192, i_193, i_197, i_200, i_207, i_235, i_240, i_248, i_252, i_254, i_255, i_256, i_512, i_544, i_768, i_769, i_793, i_1000, i_1023, i_1024, i_1200, i_1538, i_1541, i_1545, i_2046, i_2047, i_2049, i_2060, i_2736, i_2737, i_2817, i_2818, i_2819, i_2820, i_2821, i_2831, i_2832, i_3077, i_3085, i_3843, i_3849, i_3851, i_3852, i_4129, i_4353, i_4865, i_5121, i_5122, i_5123, i_6156, i_8192, i_12288, i_16383, i_32000, i_33280, i_49152, i_53247, i_60304, i_64000, i_64512, i_65521, i_65535, i_449838109, nI_add, pk_mul, pk_sub, nI_mm, nI_leI, nI_ltI, nI_eq, pk_div, jrem_N, jshl_N, jshr_N, jushr_N, jmin_N, jmax_N, an_1, an_3, an_7, an_15, an_31, an_63, an_127, an_255, an_1023, an_2047, an_16383, an_65535, nm, pfI, rdI, rdW, rdL, rdI2, rdW2, ldA_N, stA_N, stB_N, stZ_N, pfZ_0, pfZ_1, rtZ_0, rtZ_1, acp_N, Option.bind_some, wp_some_iff, true_and, and_true, false_and, and_false, or_true, true_or, or_false, false_or, not_true_eq_false, not_false_eq_true, if_true, if_false, if_pos, if_neg]
      refine ⟨?_, hf⟩
      rw [mnd, if_neg q, fnd_none (fun i hi => by
        have := hj (62 - i) (by omega)
        rwa [show 62 - (62 - i) = i by omega] at this)]
      trivial
