/-! ===== structures ===== -/
theorem zz1 : nI (1 % 2) = nI 1 := rfl
theorem zz0 : nI (0 % 2) = nI 0 := rfl
def up2 (st : Nat → Nat → Int32) (s k : Nat) (v : Int32) : Nat → Nat → Int32 := fun a b => if a = s ∧ b = k then v else st a b
theorem up2_s {st : Nat → Nat → Int32} {s k : Nat} {v : Int32} : up2 st s k v s k = v := if_pos ⟨rfl, rfl⟩
theorem up2_o {st : Nat → Nat → Int32} {s k a b : Nat} {v : Int32} (h : ¬ (a = s ∧ b = k)) : up2 st s k v a b = st a b := if_neg h
def StrC (μ : Mem) (st : Nat → Nat → Int32) : Prop := ∀ s, s < 6 → ∀ k, k < 13 → μ.1 125 (13 * s + k) = st s k
def StrM (μ : Mem) (st : Nat → Nat → Int32) : Prop := ∀ s, s < 6 → (∀ k, k < 5 → μ.1 (183 + k) s = st s k) ∧ ∀ i, i < 8 → μ.1 188 (8 * s + i) = st s (5 + i)
def StrI (st : Nat → Nat → Int32) : Prop := ∀ s, s < 6 → (st s 0 = nI 0 ∨ st s 0 = nI 1) ∧ (st s 1 = nI 0 ∨ st s 1 = nI 1) ∧ (nt (st s 4) ≤ 8 ∧ st s 4 = nI (nt (st s 4))) ∧ ∀ i, i < 8 → nt (st s (5 + i)) < 24 ∧ st s (5 + i) = nI (nt (st s (5 + i)))
theorem StrC.fr {μ m : Mem} {st : Nat → Nat → Int32} {P : Nat → Nat → Prop} (h : StrC μ st) (ho : Fr P μ m) (h1 : ∀ k, ¬ P 125 k) : StrC m st := fun s hs k hk => by rw [ho.1 _ _ (h1 _)]; exact h s hs k hk
theorem StrM.fr {μ m : Mem} {st : Nat → Nat → Int32} {P : Nat → Nat → Prop} (h : StrM μ st) (ho : Fr P μ m) (h1 : ∀ c k, 183 ≤ c → c ≤ 188 → ¬ P c k) : StrM m st := fun s hs => ⟨fun k hk => by rw [ho.1 _ _ (h1 _ _ (by omega) (by omega))]; exact (h s hs).1 k hk, fun i hi => by rw [ho.1 _ _ (h1 _ _ (by omega) (by omega))]; exact (h s hs).2 i hi⟩
theorem StrC.up {μ : Mem} {st : Nat → Nat → Int32} {s k j : Nat} {v : Int32} (h : StrC μ st) (hk : k < 13) (hj : j = 13 * s + k) : StrC (setI μ 125 j v) (up2 st s k v) := by
  intro a ha b hb
  subst hj
  by_cases e : a = s ∧ b = k
  · obtain ⟨rfl, rfl⟩ := e
    rw [rdI, if_pos ⟨rfl, rfl⟩, up2_s]
  · rw [rdI, if_neg (fun z => e (by omega)), up2_o e]
    exact h a ha b hb
theorem StrM.up {μ : Mem} {st : Nat → Nat → Int32} {s k c : Nat} {v : Int32} (h : StrM μ st) (hk : k < 5) (hc : c = 183 + k) : StrM (setI μ c s v) (up2 st s k v) := by
  intro a ha
  subst hc
  refine ⟨fun b hb => ?_, fun i hi => ?_⟩
  · by_cases e : a = s ∧ b = k
    · obtain ⟨rfl, rfl⟩ := e
      rw [rdI, if_pos ⟨rfl, rfl⟩, up2_s]
    · rw [rdI, if_neg (fun z => e (by omega)), up2_o e]
      exact (h a ha).1 b hb
  · rw [rdI, if_neg (by omega), up2_o (by omega)]
    exact (h a ha).2 i hi
theorem StrM.up8 {μ : Mem} {st : Nat → Nat → Int32} {s k j : Nat} {v : Int32} (h : StrM μ st) (hk : k < 8) (hj : j = 8 * s + k) : StrM (setI μ 188 j v) (up2 st s (5 + k) v) := by
  intro a ha
  subst hj
  refine ⟨fun b hb => ?_, fun i hi => ?_⟩
  · rw [rdI, if_neg (by omega), up2_o (by omega)]
    exact (h a ha).1 b hb
  · by_cases e : a = s ∧ i = k
    · obtain ⟨rfl, rfl⟩ := e
      rw [rdI, if_pos ⟨rfl, rfl⟩, up2_s]
    · rw [rdI, if_neg (fun z => e (by omega)), up2_o (fun z => e (by omega))]
      exact (h a ha).2 i hi
def repS (k : Kw) (en : Nat) (st : Nat → Nat → Int32) (s : Nat) : List Nat := [s] ++ [nt (st s 4)] ++ vlN (vOf k en) (fun i => nt (st s (5 + i))) (nt (st s 4))
theorem repS_len {k : Kw} {en : Nat} {st : Nat → Nat → Int32} {s : Nat} (hI : StrI st) (hs : s < 6) : (repS k en st s).length ≤ 42 := by
  have := (hI s hs).2.2.1.1
  unfold repS
  rw [List.length_append, List.length_append, vlN_len]
  show 1 + 1 + _ ≤ 42
  omega
theorem tellS_C {μ : Mem} {k : Kw} {en s : Nat} {st : Nat → Nat → Int32} (h : StrC μ st) (hI : StrI st) (hs : s < 6) (hM : MC μ k.1) (hV : VC μ k en) : wp (f37 (nI s) μ) (fun m => Byt m 87 (bgL k.1.2.1 k.1.1 3 25 ++ repS k en st s) ∧ Fr (FB 87) μ m) := by
  have g : gln (87 + 1) = 82 := gl_88
  have g2 := gl_125
  obtain ⟨i1, i2, ⟨i3, i4⟩, i5⟩ := hI s hs
  have e4 := h s hs 4 (by omega)
  rw [i4] at e4
  unfold f37 repS
  generalize nt (st s 4) = n at *
  try simp (disch := omega) only [i_0, i_1, i_2, i_3, i_4, i_5, i_6, i_7, i_8, i_9, i_10, i_11, i_12, i_13, i_14, i_15, i_16, i_17, i_18, i_19, i_20, i_21, i_22, i_23, i_24, i_25, i_26, i_27, i_31, i_32, i_40, i_42, i_45, i_48, i_51, i_52, i_56, i_58, i_59, i_60, i_61, i_62, i_63, i_64, i_85, i_90, i_100, i_112, i_120, i_121, i_127, i_128, i_130, i_144, i_171, i_192, i_193, i_197, i_200, i_207, i_235, i_240, i_248, i_252, i_254, i_255, i_256, i_512, i_544, i_768, i_769, i_793, i_1000, i_1023, i_1024, i_1200, i_1538, i_1541, i_1545, i_2046, i_2047, i_2049, i_2060, i_2736, i_2737, i_2817, i_2818, i_2819, i_2820, i_2821, i_2831, i_2832, i_3077, i_3085, i_3843, i_3849, i_3851, i_3852, i_4129, i_4353, i_4865, i_5121, i_5122, i_5123, i_6156, i_8192, i_12288, i_16383, i_32000, i_33280, i_49152, i_53247, i_60304, i_64000, i_64512, i_65521, i_65535, i_449838109, nI_add, pk_mul, pk_sub, nI_mm, nI_leI, nI_ltI, nI_eq, pk_div, jrem_N, jshl_N, jshr_N, jushr_N, jmin_N, jmax_N, an_1, an_3, an_7, an_15, an_31, an_63, an_127, an_255, an_1023, an_2047, an_16383, an_65535, nm, pfI, rdI, rdW, rdL, rdI2, rdW2, ldA_N, stA_N, stB_N, stZ_N, pfZ_0, pfZ_1, rtZ_0, rtZ_1, acp_N, Option.bind_some, wp_some_iff, true_and, and_true, false_and, and_false, or_true, true_or, or_false, false_or, not_true_eq_false, not_false_eq_true, if_true, if_false, if_pos, if_neg, lt_sub, le_sub, sub_lt3, sub_le3, Option.bind_assoc]
  refine wp_bind (begin_C hM (by omega) (by omega)) (fun m1 ⟨a1, a2⟩ => ?_)
  refine wp_bind (pu_ok _ a1 (by rw [bgL_len]; omega)) (fun m2 ⟨b1, b2⟩ => ?_)
  rw [byv_nI (by omega)] at b1
  have f2 : Fr (FB 87) μ m2 := a2.tr' b2
  have e4' : m2.1 125 (s * 13 + 4) = nI n := by rw [f2.1 _ _ (by omega), Nat.mul_comm]; exact e4
  simp (disch := omega) only [i_0, i_1, i_2, i_3, i_4, i_5, i_6, i_7, i_8, i_9, i_10, i_11, i_12, i_13, i_14, i_15, i_16, i_17, i_18, i_19, i_20, i_21, i_22, i_23, i_24, i_25, i_26, i_27, i_31, i_32, i_40, i_42, i_45, i_48, i_51, i_52, i_56, i_58, i_59, i_60, i_61, i_62, i_63, i_64, i_85, i_90, i_100, i_112, i_120, i_121, i_127, i_128, i_130, i_144, i_171, i_192, i_193, i_197, i_200, i_207, i_235, i_240, i_248, i_252, i_254, i_255, i_256, i_512, i_544, i_768, i_769, i_793, i_1000, i_1023, i_1024, i_1200, i_1538, i_1541, i_1545, i_2046, i_2047, i_2049, i_2060, i_2736, i_2737, i_2817, i_2818, i_2819, i_2820, i_2821, i_2831, i_2832, i_3077, i_3085, i_3843, i_3849, i_3851, i_3852, i_4129, i_4353, i_4865, i_5121, i_5122, i_5123, i_6156, i_8192, i_12288, i_16383, i_32000, i_33280, i_49152, i_53247, i_60304, i_64000, i_64512, i_65521, i_65535, i_449838109, nI_add, pk_mul, pk_sub, nI_mm, nI_leI, nI_ltI, nI_eq, pk_div, jrem_N, jshl_N, jshr_N, jushr_N, jmin_N, jmax_N, an_1, an_3, an_7, an_15, an_31, an_63, an_127, an_255, an_1023, an_2047, an_16383, an_65535, nm, pfI, rdI, rdW, rdL, rdI2, rdW2, ldA_N, stA_N, stB_N, stZ_N, pfZ_0, pfZ_1, rtZ_0, rtZ_1, acp_N, Option.bind_some, wp_some_iff, true_and, and_true, false_and, and_false, or_true, true_or, or_false, false_or, not_true_eq_false, not_false_eq_true, if_true, if_false, if_pos, if_neg, lt_sub, le_sub, sub_lt3, sub_le3, Option.bind_assoc, e4']
  rw [Nat.min_eq_left i3]
  refine wp_bind (pu_ok _ b1 (by rw [List.length_append, bgL_len]; show 13 + 1 < _; omega)) (fun m3 ⟨c1, c2⟩ => ?_)
  rw [byv_nI (by omega), List.append_assoc] at c1
  have f3 : Fr (FB 87) μ m3 := f2.tr' c2
  unfold l37_65
  refine wp_for (fun i m => (nI (s * 13), nI n, nI i, m)) (fun i m => Byt m 87 (bgL k.1.2.1 k.1.1 3 25 ++ ([s] ++ [n] ++ vlN (vOf k en) (fun i => nt (st s (5 + i))) i)) ∧ Fr (FB 87) μ m) n (by omega) m3 _ rfl ⟨by rw [vlN, List.append_nil]; exact c1, f3⟩ (fun self i m hi ⟨x1, x2⟩ hk => ?_) (fun self m ⟨x1, x2⟩ => ?_)
  · obtain ⟨j1, j2⟩ := i5 i (by omega)
    have e5 : m.1 125 (s * 13 + 5 + i) = nI (nt (st s (5 + i))) := by
      rw [x2.1 _ _ (by omega), show s * 13 + 5 + i = 13 * s + (5 + i) by omega, h s hs (5 + i) (by omega)]
      exact j2
    unfold b37_65
    simp (disch := omega) only [i_0, i_1, i_2, i_3, i_4, i_5, i_6, i_7, i_8, i_9, i_10, i_11, i_12, i_13, i_14, i_15, i_16, i_17, i_18, i_19, i_20, i_21, i_22, i_23, i_24, i_25, i_26, i_27, i_31, i_32, i_40, i_42, i_45, i_48, i_51, i_52, i_56, i_58, i_59, i_60, i_61, i_62, i_63, i_64, i_85, i_90, i_100, i_112, i_120, i_121, i_127, i_128, i_130, i_144, i_171, i_192, i_193, i_197, i_200, i_207, i_235, i_240, i_248, i_252, i_254, i_255, i_256, i_512, i_544, i_768, i_769, i_793, i_1000, i_1023, i_1024, i_1200, i_1538, i_1541, i_1545, i_2046, i_2047, i_2049, i_2060, i_2736, i_2737, i_2817, i_2818, i_2819, i_2820, i_2821, i_2831, i_2832, i_3077, i_3085, i_3843, i_3849, i_3851, i_3852, i_4129, i_4353, i_4865, i_5121, i_5122, i_5123, i_6156, i_8192, i_12288, i_16383, i_32000, i_33280, i_49152, i_53247, i_60304, i_64000, i_64512, i_65521, i_65535, i_449838109, nI_add, pk_mul, pk_sub, nI_mm, nI_leI, nI_ltI, nI_eq, pk_div, jrem_N, jshl_N, jshr_N, jushr_N, jmin_N, jmax_N, an_1, an_3, an_7, an_15, an_31, an_63, an_127, an_255, an_1023, an_2047, an_16383, an_65535, nm, pfI, rdI, rdW, rdL, rdI2, rdW2, ldA_N, stA_N, stB_N, stZ_N, pfZ_0, pfZ_1, rtZ_0, rtZ_1, acp_N, Option.bind_some, wp_some_iff, true_and, and_true, false_and, and_false, or_true, true_or, or_false, false_or, not_true_eq_false, not_false_eq_true, if_true, if_false, if_pos, if_neg, lt_sub, le_sub, sub_lt3, sub_le3, Option.bind_assoc, e5]
    refine wp_bind (putVal_C (hV.fr x2 (fun c k _ => by omega)) j1 x1 ?_) (fun m4 ⟨d1, d2⟩ => ?_)
    · rw [List.length_append, List.length_append, List.length_append, bgL_len, vlN_len]
      show 13 + (1 + 1 + 5 * i) + 5 ≤ 82
      omega
    · try simp (disch := omega) only [i_0, i_1, i_2, i_3, i_4, i_5, i_6, i_7, i_8, i_9, i_10, i_11, i_12, i_13, i_14, i_15, i_16, i_17, i_18, i_19, i_20, i_21, i_22, i_23, i_24, i_25, i_26, i_27, i_31, i_32, i_40, i_42, i_45, i_48, i_51, i_52, i_56, i_58, i_59, i_60, i_61, i_62, i_63, i_64, i_85, i_90, i_100, i_112, i_120, i_121, i_127, i_128, i_130, i_144, i_171, i_192, i_193, i_197, i_200, i_207, i_235, i_240, i_248, i_252, i_254, i_255, i_256, i_512, i_544, i_768, i_769, i_793, i_1000, i_1023, i_1024, i_1200, i_1538, i_1541, i_1545, i_2046, i_2047, i_2049, i_2060, i_2736, i_2737, i_2817, i_2818, i_2819, i_2820, i_2821, i_2831, i_2832, i_3077, i_3085, i_3843, i_3849, i_3851, i_3852, i_4129, i_4353, i_4865, i_5121, i_5122, i_5123, i_6156, i_8192, i_12288, i_16383, i_32000, i_33280, i_49152, i_53247, i_60304, i_64000, i_64512, i_65521, i_65535, i_449838109, nI_add, pk_mul, pk_sub, nI_mm, nI_leI, nI_ltI, nI_eq, pk_div, jrem_N, jshl_N, jshr_N, jushr_N, jmin_N, jmax_N, an_1, an_3, an_7, an_15, an_31, an_63, an_127, an_255, an_1023, an_2047, an_16383, an_65535, nm, pfI, rdI, rdW, rdL, rdI2, rdW2, ldA_N, stA_N, stB_N, stZ_N, pfZ_0, pfZ_1, rtZ_0, rtZ_1, acp_N, Option.bind_some, wp_some_iff, true_and, and_true, false_and, and_false, or_true, true_or, or_false, false_or, not_true_eq_false, not_false_eq_true, if_true, if_false, if_pos, if_neg, lt_sub, le_sub, sub_lt3, sub_le3, Option.bind_assoc]
      refine hk m4 ⟨?_, x2.tr' d2⟩
      rw [List.append_assoc, List.append_assoc] at d1
      exact d1
  · unfold b37_65
    try simp (disch := omega) only [i_0, i_1, i_2, i_3, i_4, i_5, i_6, i_7, i_8, i_9, i_10, i_11, i_12, i_13, i_14, i_15, i_16, i_17, i_18, i_19, i_20, i_21, i_22, i_23, i_24, i_25, i_26, i_27, i_31, i_32, i_40, i_42, i_45, i_48, i_51, i_52, i_56, i_58, i_59, i_60, i_61, i_62, i_63, i_64, i_85, i_90, i_100, i_112, i_120, i_121, i_127, i_128, i_130, i_144, i_171, i_192, i_193, i_197, i_200, i_207, i_235, i_240, i_248, i_252, i_254, i_255, i_256, i_512, i_544, i_768, i_769, i_793, i_1000, i_1023, i_1024, i_1200, i_1538, i_1541, i_1545, i_2046, i_2047, i_2049, i_2060, i_2736, i_2737, i_2817, i_2818, i_2819, i_2820, i_2821, i_2831, i_2832, i_3077, i_3085, i_3843, i_3849, i_3851, i_3852, i_4129, i_4353, i_4865, i_5121, i_5122, i_5123, i_6156, i_8192, i_12288, i_16383, i_32000, i_33280, i_49152, i_53247, i_60304, i_64000, i_64512, i_65521, i_65535, i_449838109, nI_add, pk_mul, pk_sub, nI_mm, nI_leI, nI_ltI, nI_eq, pk_div, jrem_N, jshl_N, jshr_N, jushr_N, jmin_N, jmax_N, an_1, an_3, an_7, an_15, an_31, an_63, an_127, an_255, an_1023, an_2047, an_16383, an_65535, nm, pfI, rdI, rdW, rdL, rdI2, rdW2, ldA_N, stA_N, stB_N, stZ_N, pfZ_0, pfZ_1, rtZ_0, rtZ_1, acp_N, Option.bind_some, wp_some_iff, true_and, and_true, false_and, and_false, or_true, true_or, or_false, false_or, not_true_eq_false, not_false_eq_true, if_true, if_false, if_pos, if_neg, lt_sub, le_sub, sub_lt3, sub_le3, Option.bind_assoc]
    exact ⟨x1, x2⟩
theorem tellS_M {μ : Mem} {k : Kw} {en s : Nat} {st : Nat → Nat → Int32} (h : StrM μ st) (hI : StrI st) (hs : s < 6) (hM : MM μ k.1) (hMI : MI k.1) (hV : VM μ k en) (hO : OutM μ []) : wp (f328 (nI s) μ) (fun m => MM m (makeW k.1 3 25 (repS k en st s)) ∧ OutM m [] ∧ Fr FMo μ m) := by
  have g1 := gl_187
  have g2 := gl_188
  obtain ⟨i1, i2, ⟨i3, i4⟩, i5⟩ := hI s hs
  have hrl := repS_len (k := k) (en := en) hI hs
  have e4 := (h s hs).1 4 (by omega)
  rw [i4, show 183 + 4 = 187 from rfl] at e4
  unfold f328
  unfold repS at *
  generalize nt (st s 4) = n at *
  try simp (disch := omega) only [i_0, i_1, i_2, i_3, i_4, i_5, i_6, i_7, i_8, i_9, i_10, i_11, i_12, i_13, i_14, i_15, i_16, i_17, i_18, i_19, i_20, i_21, i_22, i_23, i_24, i_25, i_26, i_27, i_31, i_32, i_40, i_42, i_45, i_48, i_51, i_52, i_56, i_58, i_59, i_60, i_61, i_62, i_63, i_64, i_85, i_90, i_100, i_112, i_120, i_121, i_127, i_128, i_130, i_144, i_171, i_192, i_193, i_197, i_200, i_207, i_235, i_240, i_248, i_252, i_254, i_255, i_256, i_512, i_544, i_768, i_769, i_793, i_1000, i_1023, i_1024, i_1200, i_1538, i_1541, i_1545, i_2046, i_2047, i_2049, i_2060, i_2736, i_2737, i_2817, i_2818, i_2819, i_2820, i_2821, i_2831, i_2832, i_3077, i_3085, i_3843, i_3849, i_3851, i_3852, i_4129, i_4353, i_4865, i_5121, i_5122, i_5123, i_6156, i_8192, i_12288, i_16383, i_32000, i_33280, i_49152, i_53247, i_60304, i_64000, i_64512, i_65521, i_65535, i_449838109, nI_add, pk_mul, pk_sub, nI_mm, nI_leI, nI_ltI, nI_eq, pk_div, jrem_N, jshl_N, jshr_N, jushr_N, jmin_N, jmax_N, an_1, an_3, an_7, an_15, an_31, an_63, an_127, an_255, an_1023, an_2047, an_16383, an_65535, nm, pfI, rdI, rdW, rdL, rdI2, rdW2, ldA_N, stA_N, stB_N, stZ_N, pfZ_0, pfZ_1, rtZ_0, rtZ_1, acp_N, Option.bind_some, wp_some_iff, true_and, and_true, false_and, and_false, or_true, true_or, or_false, false_or, not_true_eq_false, not_false_eq_true, if_true, if_false, if_pos, if_neg, lt_sub, le_sub, sub_lt3, sub_le3, Option.bind_assoc]
  refine wp_bind (put1_M hO (by omega) (by show 0 + 1 ≤ 100; omega)) (fun m1 ⟨a1, a2⟩ => ?_)
  rw [List.nil_append] at a1
  have e4' : m1.1 187 s = nI n := by rw [a2.1 _ _ (by omega)]; exact e4
  simp (disch := omega) only [i_0, i_1, i_2, i_3, i_4, i_5, i_6, i_7, i_8, i_9, i_10, i_11, i_12, i_13, i_14, i_15, i_16, i_17, i_18, i_19, i_20, i_21, i_22, i_23, i_24, i_25, i_26, i_27, i_31, i_32, i_40, i_42, i_45, i_48, i_51, i_52, i_56, i_58, i_59, i_60, i_61, i_62, i_63, i_64, i_85, i_90, i_100, i_112, i_120, i_121, i_127, i_128, i_130, i_144, i_171, i_192, i_193, i_197, i_200, i_207, i_235, i_240, i_248, i_252, i_254, i_255, i_256, i_512, i_544, i_768, i_769, i_793, i_1000, i_1023, i_1024, i_1200, i_1538, i_1541, i_1545, i_2046, i_2047, i_2049, i_2060, i_2736, i_2737, i_2817, i_2818, i_2819, i_2820, i_2821, i_2831, i_2832, i_3077, i_3085, i_3843, i_3849, i_3851, i_3852, i_4129, i_4353, i_4865, i_5121, i_5122, i_5123, i_6156, i_8192, i_12288, i_16383, i_32000, i_33280, i_49152, i_53247, i_60304, i_64000, i_64512, i_65521, i_65535, i_449838109, nI_add, pk_mul, pk_sub, nI_mm, nI_leI, nI_ltI, nI_eq, pk_div, jrem_N, jshl_N, jshr_N, jushr_N, jmin_N, jmax_N, an_1, an_3, an_7, an_15, an_31, an_63, an_127, an_255, an_1023, an_2047, an_16383, an_65535, nm, pfI, rdI, rdW, rdL, rdI2, rdW2, ldA_N, stA_N, stB_N, stZ_N, pfZ_0, pfZ_1, rtZ_0, rtZ_1, acp_N, Option.bind_some, wp_some_iff, true_and, and_true, false_and, and_false, or_true, true_or, or_false, false_or, not_true_eq_false, not_false_eq_true, if_true, if_false, if_pos, if_neg, lt_sub, le_sub, sub_lt3, sub_le3, Option.bind_assoc, e4']
  refine wp_bind (put1_M a1 (by omega) (by show 1 + 1 ≤ 100; omega)) (fun m2 ⟨b1, b2⟩ => ?_)
  have f2 : Fr FOut μ m2 := a2.tr' b2
  unfold l328_19
  refine wp_for (fun i m => (nI s, nI i, m)) (fun i m => OutM m ([s] ++ [n] ++ vlN (vOf k en) (fun i => nt (st s (5 + i))) i) ∧ Fr FOut μ m) n (by omega) m2 _ rfl ⟨by rw [vlN, List.append_nil]; exact b1, f2⟩ (fun self i m hi ⟨x1, x2⟩ hk => ?_) (fun self m ⟨x1, x2⟩ => ?_)
  · obtain ⟨j1, j2⟩ := i5 i (by omega)
    have e4'' : m.1 187 s = nI n := by rw [x2.1 _ _ (by omega)]; exact e4
    have e5 : m.1 188 (8 * s + i) = nI (nt (st s (5 + i))) := by
      rw [x2.1 _ _ (by omega), ← j2]
      exact (h s hs).2 i (by omega)
    have hle : ([s] ++ [n] ++ vlN (vOf k en) (fun i => nt (st s (5 + i))) i).length = 2 + 5 * i := by
      rw [List.length_append, vlN_len]
      rfl
    unfold b328_19
    simp (disch := omega) only [i_0, i_1, i_2, i_3, i_4, i_5, i_6, i_7, i_8, i_9, i_10, i_11, i_12, i_13, i_14, i_15, i_16, i_17, i_18, i_19, i_20, i_21, i_22, i_23, i_24, i_25, i_26, i_27, i_31, i_32, i_40, i_42, i_45, i_48, i_51, i_52, i_56, i_58, i_59, i_60, i_61, i_62, i_63, i_64, i_85, i_90, i_100, i_112, i_120, i_121, i_127, i_128, i_130, i_144, i_171, i_192, i_193, i_197, i_200, i_207, i_235, i_240, i_248, i_252, i_254, i_255, i_256, i_512, i_544, i_768, i_769, i_793, i_1000, i_1023, i_1024, i_1200, i_1538, i_1541, i_1545, i_2046, i_2047, i_2049, i_2060, i_2736, i_2737, i_2817, i_2818, i_2819, i_2820, i_2821, i_2831, i_2832, i_3077, i_3085, i_3843, i_3849, i_3851, i_3852, i_4129, i_4353, i_4865, i_5121, i_5122, i_5123, i_6156, i_8192, i_12288, i_16383, i_32000, i_33280, i_49152, i_53247, i_60304, i_64000, i_64512, i_65521, i_65535, i_449838109, nI_add, pk_mul, pk_sub, nI_mm, nI_leI, nI_ltI, nI_eq, pk_div, jrem_N, jshl_N, jshr_N, jushr_N, jmin_N, jmax_N, an_1, an_3, an_7, an_15, an_31, an_63, an_127, an_255, an_1023, an_2047, an_16383, an_65535, nm, pfI, rdI, rdW, rdL, rdI2, rdW2, ldA_N, stA_N, stB_N, stZ_N, pfZ_0, pfZ_1, rtZ_0, rtZ_1, acp_N, Option.bind_some, wp_some_iff, true_and, and_true, false_and, and_false, or_true, true_or, or_false, false_or, not_true_eq_false, not_false_eq_true, if_true, if_false, if_pos, if_neg, lt_sub, le_sub, sub_lt3, sub_le3, Option.bind_assoc, e4'', e5]
    refine wp_bind (put1_M x1 (show nt (st s (5 + i)) < 256 by omega) (by omega)) (fun m3 ⟨c1, c2⟩ => ?_)
    have f3 : Fr FOut μ m3 := x2.tr' c2
    have e5' : m3.1 188 (8 * s + i) = nI (nt (st s (5 + i))) := by rw [c2.1 _ _ (by omega)]; exact e5
    have e6 := val_M (hV.fr f3 (fun c k _ => by omega)) j1
    simp (disch := omega) only [i_0, i_1, i_2, i_3, i_4, i_5, i_6, i_7, i_8, i_9, i_10, i_11, i_12, i_13, i_14, i_15, i_16, i_17, i_18, i_19, i_20, i_21, i_22, i_23, i_24, i_25, i_26, i_27, i_31, i_32, i_40, i_42, i_45, i_48, i_51, i_52, i_56, i_58, i_59, i_60, i_61, i_62, i_63, i_64, i_85, i_90, i_100, i_112, i_120, i_121, i_127, i_128, i_130, i_144, i_171, i_192, i_193, i_197, i_200, i_207, i_235, i_240, i_248, i_252, i_254, i_255, i_256, i_512, i_544, i_768, i_769, i_793, i_1000, i_1023, i_1024, i_1200, i_1538, i_1541, i_1545, i_2046, i_2047, i_2049, i_2060, i_2736, i_2737, i_2817, i_2818, i_2819, i_2820, i_2821, i_2831, i_2832, i_3077, i_3085, i_3843, i_3849, i_3851, i_3852, i_4129, i_4353, i_4865, i_5121, i_5122, i_5123, i_6156, i_8192, i_12288, i_16383, i_32000, i_33280, i_49152, i_53247, i_60304, i_64000, i_64512, i_65521, i_65535, i_449838109, nI_add, pk_mul, pk_sub, nI_mm, nI_leI, nI_ltI, nI_eq, pk_div, jrem_N, jshl_N, jshr_N, jushr_N, jmin_N, jmax_N, an_1, an_3, an_7, an_15, an_31, an_63, an_127, an_255, an_1023, an_2047, an_16383, an_65535, nm, pfI, rdI, rdW, rdL, rdI2, rdW2, ldA_N, stA_N, stB_N, stZ_N, pfZ_0, pfZ_1, rtZ_0, rtZ_1, acp_N, Option.bind_some, wp_some_iff, true_and, and_true, false_and, and_false, or_true, true_or, or_false, false_or, not_true_eq_false, not_false_eq_true, if_true, if_false, if_pos, if_neg, lt_sub, le_sub, sub_lt3, sub_le3, Option.bind_assoc, e5', e6]
    refine wp_bind (put_M _ c1 (by omega) (by omega) (by rw [List.length_append, hle]; show 2 + 5 * i + 1 + 4 ≤ 100; omega)) (fun m4 ⟨d1, d2⟩ => ?_)
    try simp (disch := omega) only [i_0, i_1, i_2, i_3, i_4, i_5, i_6, i_7, i_8, i_9, i_10, i_11, i_12, i_13, i_14, i_15, i_16, i_17, i_18, i_19, i_20, i_21, i_22, i_23, i_24, i_25, i_26, i_27, i_31, i_32, i_40, i_42, i_45, i_48, i_51, i_52, i_56, i_58, i_59, i_60, i_61, i_62, i_63, i_64, i_85, i_90, i_100, i_112, i_120, i_121, i_127, i_128, i_130, i_144, i_171, i_192, i_193, i_197, i_200, i_207, i_235, i_240, i_248, i_252, i_254, i_255, i_256, i_512, i_544, i_768, i_769, i_793, i_1000, i_1023, i_1024, i_1200, i_1538, i_1541, i_1545, i_2046, i_2047, i_2049, i_2060, i_2736, i_2737, i_2817, i_2818, i_2819, i_2820, i_2821, i_2831, i_2832, i_3077, i_3085, i_3843, i_3849, i_3851, i_3852, i_4129, i_4353, i_4865, i_5121, i_5122, i_5123, i_6156, i_8192, i_12288, i_16383, i_32000, i_33280, i_49152, i_53247, i_60304, i_64000, i_64512, i_65521, i_65535, i_449838109, nI_add, pk_mul, pk_sub, nI_mm, nI_leI, nI_ltI, nI_eq, pk_div, jrem_N, jshl_N, jshr_N, jushr_N, jmin_N, jmax_N, an_1, an_3, an_7, an_15, an_31, an_63, an_127, an_255, an_1023, an_2047, an_16383, an_65535, nm, pfI, rdI, rdW, rdL, rdI2, rdW2, ldA_N, stA_N, stB_N, stZ_N, pfZ_0, pfZ_1, rtZ_0, rtZ_1, acp_N, Option.bind_some, wp_some_iff, true_and, and_true, false_and, and_false, or_true, true_or, or_false, false_or, not_true_eq_false, not_false_eq_true, if_true, if_false, if_pos, if_neg, lt_sub, le_sub, sub_lt3, sub_le3, Option.bind_assoc]
    refine hk m4 ⟨?_, f3.tr' d2⟩
    rw [List.append_assoc, List.append_assoc] at d1
    exact d1
  · have e4'' : m.1 187 s = nI n := by rw [x2.1 _ _ (by omega)]; exact e4
    unfold b328_19
    simp (disch := omega) only [i_0, i_1, i_2, i_3, i_4, i_5, i_6, i_7, i_8, i_9, i_10, i_11, i_12, i_13, i_14, i_15, i_16, i_17, i_18, i_19, i_20, i_21, i_22, i_23, i_24, i_25, i_26, i_27, i_31, i_32, i_40, i_42, i_45, i_48, i_51, i_52, i_56, i_58, i_59, i_60, i_61, i_62, i_63, i_64, i_85, i_90, i_100, i_112, i_120, i_121, i_127, i_128, i_130, i_144, i_171, i_192, i_193, i_197, i_200, i_207, i_235, i_240, i_248, i_252, i_254, i_255, i_256, i_512, i_544, i_768, i_769, i_793, i_1000, i_1023, i_1024, i_1200, i_1538, i_1541, i_1545, i_2046, i_2047, i_2049, i_2060, i_2736, i_2737, i_2817, i_2818, i_2819, i_2820, i_2821, i_2831, i_2832, i_3077, i_3085, i_3843, i_3849, i_3851, i_3852, i_4129, i_4353, i_4865, i_5121, i_5122, i_5123, i_6156, i_8192, i_12288, i_16383, i_32000, i_33280, i_49152, i_53247, i_60304, i_64000, i_64512, i_65521, i_65535, i_449838109, nI_add, pk_mul, pk_sub, nI_mm, nI_leI, nI_ltI, nI_eq, pk_div, jrem_N, jshl_N, jshr_N, jushr_N, jmin_N, jmax_N, an_1, an_3, an_7, an_15, an_31, an_63, an_127, an_255, an_1023, an_2047, an_16383, an_65535, nm, pfI, rdI, rdW, rdL, rdI2, rdW2, ldA_N, stA_N, stB_N, stZ_N, pfZ_0, pfZ_1, rtZ_0, rtZ_1, acp_N, Option.bind_some, wp_some_iff, true_and, and_true, false_and, and_false, or_true, true_or, or_false, false_or, not_true_eq_false, not_false_eq_true, if_true, if_false, if_pos, if_neg, lt_sub, le_sub, sub_lt3, sub_le3, Option.bind_assoc, e4'']
    refine wp_bind (make_M (sv := 3) (sb := 25) (hM.fr hMI x2 (fun c k _ => by omega)) hMI x1 (by omega) (by omega) (by omega)) (fun m3 ⟨c1, c2, c3⟩ => wp_some ⟨c1, c2, x2.tr c3 (by intro c k h; omega) (by intro c k h; omega)⟩)
/-! every tick -/
def strT (z : Nat → Int32) (en s : Nat) (y : Mw × (Nat → Nat → Int32)) : Mw × (Nat → Nat → Int32) :=
  if y.2 s 0 = nI 0 ∨ y.2 s 1 = nI 0 then y
  else if y.2 s 3 - nI 1 = nI 0 then (makeW y.1 3 25 (repS (y.1, z, []) en y.2 s), up2 y.2 s 3 (y.2 s 2))
  else (y.1, up2 y.2 s 3 (y.2 s 3 - nI 1))
def strsT (z : Nat → Int32) (en : Nat) (y : Mw × (Nat → Nat → Int32)) : Nat → Mw × (Nat → Nat → Int32)
  | 0 => y
  | s + 1 => strT z en s (strsT z en y s)
theorem repS_cg {k k2 : Kw} {en s : Nat} {st st2 : Nat → Nat → Int32} (h1 : k.1.1 = k2.1.1) (h2 : k.2.1 = k2.2.1) (h3 : ∀ j, j ≠ 3 → st s j = st2 s j) : repS k en st s = repS k2 en st2 s := by
  unfold repS
  have e : vOf k en = vOf k2 en := by
    funext p
    unfold vOf
    rw [h1, h2]
  rw [e, h3 4 (by decide), vlN_cg _ (fun i _ => by rw [h3 (5 + i) (by omega)])]
theorem StrI.up3 {st : Nat → Nat → Int32} {s : Nat} {v : Int32} (h : StrI st) : StrI (up2 st s 3 v) := by
  intro a ha
  rw [up2_o (by omega), up2_o (by omega), up2_o (by omega)]
  refine ⟨(h a ha).1, (h a ha).2.1, (h a ha).2.2.1, fun i hi => ?_⟩
  rw [up2_o (by omega)]
  exact (h a ha).2.2.2 i hi
theorem strT_I {z : Nat → Int32} {en s : Nat} {y : Mw × (Nat → Nat → Int32)} (h : MI y.1) (h2 : StrI y.2) (hs : s < 6) : MI (strT z en s y).1 ∧ StrI (strT z en s y).2 ∧ (strT z en s y).1.1 = y.1.1 := by
  unfold strT
  split
  · exact ⟨h, h2, rfl⟩
  · split
    · have := repS_len (k := (y.1, z, [])) (en := en) h2 hs
      exact ⟨makeW_I h (by omega), h2.up3, rfl⟩
    · exact ⟨h, h2.up3, rfl⟩
theorem strsT_I {z : Nat → Int32} {en : Nat} {y : Mw × (Nat → Nat → Int32)} (h : MI y.1) (h2 : StrI y.2) : ∀ s, s ≤ 6 → MI (strsT z en y s).1 ∧ StrI (strsT z en y s).2 ∧ (strsT z en y s).1.1 = y.1.1
  | 0, _ => ⟨h, h2, rfl⟩
  | s + 1, hs => by
    obtain ⟨a, b, c⟩ := strsT_I h h2 s (by omega)
    obtain ⟨a1, b1, c1⟩ := strT_I (z := z) (en := en) (s := s) a b (by omega)
    exact ⟨a1, b1, c1.trans c⟩
