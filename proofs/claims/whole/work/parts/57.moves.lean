/-! ===== rows of packets of the reference; moves ===== -/
theorem move_M {p q s d n : Nat} {xs : List Nat} {μ : Mem} (h : Seg μ p s xs) (hn : n = xs.length) (hs : s + xs.length ≤ gln p) (hd : d + xs.length ≤ gln q) (h7 : xs.length < 60000) (hne : p ≠ q ∨ d + xs.length ≤ s ∨ s + xs.length ≤ d) : wp (f273 p (nI s) q (nI d) (nI n) μ) (fun m => Seg m q d xs ∧ Fr (fun c k => c = q ∧ d ≤ k ∧ k < d + xs.length) μ m) := by
  have g1 := gln_le p
  have g2 := gln_le q
  subst hn
  unfold f273 l273_3
  simp (disch := omega) only [i_0, i_1, i_2, i_3, i_4, i_5, i_6, i_7, i_8, i_9, i_10, i_11, i_12, i_13, i_14, i_15, i_16, i_17, i_18, i_19, i_20, i_21, i_22, i_23, i_24, i_25, i_26, i_27, i_31, i_32, i_40, i_42, i_45, i_48, i_51, i_52, i_56, i_58, i_59, i_60, i_61, i_62, i_63, i_64, i_85, i_90, i_100, i_112, i_120, i_121, i_127, i_128, i_130, i_144, i_171, i_192, i_193, i_197, i_200, i_207, i_235, i_240, i_248, i_252, i_254, i_255, i_256, i_512, i_544, i_768, i_769, i_793, i_1000, i_1023, i_1024, i_1200, i_1538, i_1541, i_1545, i_2046, i_2047, i_2049, i_2060, i_2736, i_2737, i_2817, i_2818, i_2819, i_2820, i_2821, i_2831, i_2832, i_3077, i_3085, i_3843, i_3849, i_3851, i_3852, i_4129, i_4353, i_4865, i_5121, i_5122, i_5123, i_6156, i_8192, i_12288, i_16383, i_32000, i_33280, i_49152, i_53247, i_60304, i_64000, i_64512, i_65521, i_65535, i_449838109, nI_add, pk_mul, pk_sub, nI_mm, nI_leI, nI_ltI, nI_eq, pk_div, jrem_N, jshl_N, jshr_N, jushr_N, jmin_N, jmax_N, an_1, an_3, an_7, an_15, an_31, an_63, an_127, an_255, an_1023, an_2047, an_16383, an_65535, nm, pfI, rdI, rdW, rdL, rdI2, rdW2, ldA_N, stA_N, stB_N, stZ_N, pfZ_0, pfZ_1, rtZ_0, rtZ_1, acp_N, Option.bind_some, wp_some_iff, true_and, and_true, false_and, and_false, or_true, true_or, or_false, false_or, not_true_eq_false, not_false_eq_true, if_true, if_false, if_pos, if_neg, lt_sub, le_sub, sub_lt3, sub_le3]
  refine wp_for (fun i m => (nI s, nI d, nI xs.length, nI i, m)) (fun i m => Seg m q d (xs.take i) ∧ Fr (fun c k => c = q ∧ d ≤ k ∧ k < d + xs.length) μ m) xs.length (by omega) μ _ rfl ⟨Seg.nil, Fr.rf⟩ (fun self i m hi ⟨y1, y2⟩ hk => ?_) (fun self m ⟨y1, y2⟩ => ?_)
  · unfold b273_3
    have e := h.1 i hi
    rw [← y2.1 p (s + i) (by omega)] at e
    simp (disch := omega) only [i_0, i_1, i_2, i_3, i_4, i_5, i_6, i_7, i_8, i_9, i_10, i_11, i_12, i_13, i_14, i_15, i_16, i_17, i_18, i_19, i_20, i_21, i_22, i_23, i_24, i_25, i_26, i_27, i_31, i_32, i_40, i_42, i_45, i_48, i_51, i_52, i_56, i_58, i_59, i_60, i_61, i_62, i_63, i_64, i_85, i_90, i_100, i_112, i_120, i_121, i_127, i_128, i_130, i_144, i_171, i_192, i_193, i_197, i_200, i_207, i_235, i_240, i_248, i_252, i_254, i_255, i_256, i_512, i_544, i_768, i_769, i_793, i_1000, i_1023, i_1024, i_1200, i_1538, i_1541, i_1545, i_2046, i_2047, i_2049, i_2060, i_2736, i_2737, i_2817, i_2818, i_2819, i_2820, i_2821, i_2831, i_2832, i_3077, i_3085, i_3843, i_3849, i_3851, i_3852, i_4129, i_4353, i_4865, i_5121, i_5122, i_5123, i_6156, i_8192, i_12288, i_16383, i_32000, i_33280, i_49152, i_53247, i_60304, i_64000, i_64512, i_65521, i_65535, i_449838109, nI_add, pk_mul, pk_sub, nI_mm, nI_leI, nI_ltI, nI_eq, pk_div, jrem_N, jshl_N, jshr_N, jushr_N, jmin_N, jmax_N, an_1, an_3, an_7, an_15, an_31, an_63, an_127, an_255, an_1023, an_2047, an_16383, an_65535, nm, pfI, rdI, rdW, rdL, rdI2, rdW2, ldA_N, stA_N, stB_N, stZ_N, pfZ_0, pfZ_1, rtZ_0, rtZ_1, acp_N, Option.bind_some, wp_some_iff, true_and, and_true, false_and, and_false, or_true, true_or, or_false, false_or, not_true_eq_false, not_false_eq_true, if_true, if_false, if_pos, if_neg, lt_sub, le_sub, sub_lt3, sub_le3, e]
    refine hk _ ⟨?_, y2.pI ⟨rfl, by omega, by omega⟩⟩
    rw [take_sn hi]
    exact y1.sn (by rw [List.length_take]; omega) (getD_lt h.2 i)
  · unfold b273_3
    rw [List.take_of_length_le (Nat.le_refl _)] at y1
    simp (disch := omega) only [i_0, i_1, i_2, i_3, i_4, i_5, i_6, i_7, i_8, i_9, i_10, i_11, i_12, i_13, i_14, i_15, i_16, i_17, i_18, i_19, i_20, i_21, i_22, i_23, i_24, i_25, i_26, i_27, i_31, i_32, i_40, i_42, i_45, i_48, i_51, i_52, i_56, i_58, i_59, i_60, i_61, i_62, i_63, i_64, i_85, i_90, i_100, i_112, i_120, i_121, i_127, i_128, i_130, i_144, i_171, i_192, i_193, i_197, i_200, i_207, i_235, i_240, i_248, i_252, i_254, i_255, i_256, i_512, i_544, i_768, i_769, i_793, i_1000, i_1023, i_1024, i_1200, i_1538, i_1541, i_1545, i_2046, i_2047, i_2049, i_2060, i_2736, i_2737, i_2817, i_2818, i_2819, i_2820, i_2821, i_2831, i_2832, i_3077, i_3085, i_3843, i_3849, i_3851, i_3852, i_4129, i_4353, i_4865, i_5121, i_5122, i_5123, i_6156, i_8192, i_12288, i_16383, i_32000, i_33280, i_49152, i_53247, i_60304, i_64000, i_64512, i_65521, i_65535, i_449838109, nI_add, pk_mul, pk_sub, nI_mm, nI_leI, nI_ltI, nI_eq, pk_div, jrem_N, jshl_N, jshr_N, jushr_N, jmin_N, jmax_N, an_1, an_3, an_7, an_15, an_31, an_63, an_127, an_255, an_1023, an_2047, an_16383, an_65535, nm, pfI, rdI, rdW, rdL, rdI2, rdW2, ldA_N, stA_N, stB_N, stZ_N, pfZ_0, pfZ_1, rtZ_0, rtZ_1, acp_N, Option.bind_some, wp_some_iff, true_and, and_true, false_and, and_false, or_true, true_or, or_false, false_or, not_true_eq_false, not_false_eq_true, if_true, if_false, if_pos, if_neg, lt_sub, le_sub, sub_lt3, sub_le3]
    exact ⟨y1, y2⟩
def QF (μ : Mem) (rw_ sz w lo hi : Nat) (f : Nat → List Nat) : Prop := ∀ i, lo ≤ i → i < hi → μ.1 sz i = nI (f i).length ∧ (f i).length ≤ w ∧ Seg μ rw_ (w * i) (f i)
def TF (μ : Mem) (c lo hi : Nat) (g : Nat → Int32) : Prop := ∀ i, lo ≤ i → i < hi → μ.1 c i = g i
theorem QF.fr {μ m : Mem} {r z w lo hi : Nat} {f : Nat → List Nat} {P : Nat → Nat → Prop} (h : QF μ r z w lo hi f) (ho : Fr P μ m) (h1 : ∀ k, ¬ P r k) (h2 : ∀ k, ¬ P z k) : QF m r z w lo hi f :=
  fun i a b => ⟨by rw [ho.1 _ _ (h2 i)]; exact (h i a b).1, (h i a b).2.1, (h i a b).2.2.fr ho h1⟩
theorem TF.fr {μ m : Mem} {c lo hi : Nat} {g : Nat → Int32} {P : Nat → Nat → Prop} (h : TF μ c lo hi g) (ho : Fr P μ m) (h1 : ∀ k, ¬ P c k) : TF m c lo hi g := fun i a b => by rw [ho.1 _ _ (h1 i)]; exact h i a b
theorem QF.cg {μ : Mem} {r z w lo hi hi2 : Nat} {f f2 : Nat → List Nat} (h : QF μ r z w lo hi f) (hh : hi2 ≤ hi) (e : ∀ i, lo ≤ i → i < hi2 → f2 i = f i) : QF μ r z w lo hi2 f2 := fun i a b => by rw [e i a b]; exact h i a (by omega)
theorem TF.cg {μ : Mem} {c lo hi hi2 : Nat} {g g2 : Nat → Int32} (h : TF μ c lo hi g) (hh : hi2 ≤ hi) (e : ∀ i, lo ≤ i → i < hi2 → g2 i = g i) : TF μ c lo hi2 g2 := fun i a b => by rw [e i a b]; exact h i a (by omega)
theorem QF.set_o {μ : Mem} {r z w lo hi a k : Nat} {f : Nat → List Nat} {x : Int32} (h : QF μ r z w lo hi f) (h1 : a ≠ r) (h2 : a ≠ z) : QF (setI μ a k x) r z w lo hi f := h.fr (P := fun c _ => c = a) (Fr.sI rfl) (fun _ q => h1 q.symm) (fun _ q => h2 q.symm)
theorem TF.set_o {μ : Mem} {c lo hi a k : Nat} {g : Nat → Int32} {x : Int32} (h : TF μ c lo hi g) (h1 : a ≠ c) : TF (setI μ a k x) c lo hi g := h.fr (P := fun c _ => c = a) (Fr.sI rfl) (fun _ q => h1 q.symm)
theorem TF.put {μ : Mem} {c lo hi hi2 i : Nat} {g : Nat → Int32} {x : Int32} (h : TF μ c lo hi g) (hh : hi2 ≤ hi ∨ hi2 = hi + 1 ∧ i = hi) : TF (setI μ c i x) c lo hi2 (upL g i x) := by
  intro j a b
  by_cases e : j = i
  · subst e
    simp (disch := omega) only [i_0, i_1, i_2, i_3, i_4, i_5, i_6, i_7, i_8, i_9, i_10, i_11, i_12, i_13, i_14, i_15, i_16, i_17, i_18, i_19, i_20, i_21, i_22, i_23, i_24, i_25, i_26, i_27, i_31, i_32, i_40, i_42, i_45, i_48, i_51, i_52, i_56, i_58, i_59, i_60, i_61, i_62, i_63, i_64, i_85, i_90, i_100, i_112, i_120, i_121, i_127, i_128, i_130, i_144, i_171, i_192, i_193, i_197, i_200, i_207, i_235, i_240, i_248, i_252, i_254, i_255, i_256, i_512, i_544, i_768, i_769, i_793, i_1000, i_1023, i_1024, i_1200, i_1538, i_1541, i_1545, i_2046, i_2047, i_2049, i_2060, i_2736, i_2737, i_2817, i_2818, i_2819, i_2820, i_2821, i_2831, i_2832, i_3077, i_3085, i_3843, i_3849, i_3851, i_3852, i_4129, i_4353, i_4865, i_5121, i_5122, i_5123, i_6156, i_8192, i_12288, i_16383, i_32000, i_33280, i_49152, i_53247, i_60304, i_64000, i_64512, i_65521, i_65535, i_449838109, nI_add, pk_mul, pk_sub, nI_mm, nI_leI, nI_ltI, nI_eq, pk_div, jrem_N, jshl_N, jshr_N, jushr_N, jmin_N, jmax_N, an_1, an_3, an_7, an_15, an_31, an_63, an_127, an_255, an_1023, an_2047, an_16383, an_65535, nm, pfI, rdI, rdW, rdL, rdI2, rdW2, ldA_N, stA_N, stB_N, stZ_N, pfZ_0, pfZ_1, rtZ_0, rtZ_1, acp_N, Option.bind_some, wp_some_iff, true_and, and_true, false_and, and_false, or_true, true_or, or_false, false_or, not_true_eq_false, not_false_eq_true, if_true, if_false, if_pos, if_neg, lt_sub, le_sub, sub_lt3, sub_le3, upL_s]
  · rw [upL_o e]
    simp (disch := omega) only [i_0, i_1, i_2, i_3, i_4, i_5, i_6, i_7, i_8, i_9, i_10, i_11, i_12, i_13, i_14, i_15, i_16, i_17, i_18, i_19, i_20, i_21, i_22, i_23, i_24, i_25, i_26, i_27, i_31, i_32, i_40, i_42, i_45, i_48, i_51, i_52, i_56, i_58, i_59, i_60, i_61, i_62, i_63, i_64, i_85, i_90, i_100, i_112, i_120, i_121, i_127, i_128, i_130, i_144, i_171, i_192, i_193, i_197, i_200, i_207, i_235, i_240, i_248, i_252, i_254, i_255, i_256, i_512, i_544, i_768, i_769, i_793, i_1000, i_1023, i_1024, i_1200, i_1538, i_1541, i_1545, i_2046, i_2047, i_2049, i_2060, i_2736, i_2737, i_2817, i_2818, i_2819, i_2820, i_2821, i_2831, i_2832, i_3077, i_3085, i_3843, i_3849, i_3851, i_3852, i_4129, i_4353, i_4865, i_5121, i_5122, i_5123, i_6156, i_8192, i_12288, i_16383, i_32000, i_33280, i_49152, i_53247, i_60304, i_64000, i_64512, i_65521, i_65535, i_449838109, nI_add, pk_mul, pk_sub, nI_mm, nI_leI, nI_ltI, nI_eq, pk_div, jrem_N, jshl_N, jshr_N, jushr_N, jmin_N, jmax_N, an_1, an_3, an_7, an_15, an_31, an_63, an_127, an_255, an_1023, an_2047, an_16383, an_65535, nm, pfI, rdI, rdW, rdL, rdI2, rdW2, ldA_N, stA_N, stB_N, stZ_N, pfZ_0, pfZ_1, rtZ_0, rtZ_1, acp_N, Option.bind_some, wp_some_iff, true_and, and_true, false_and, and_false, or_true, true_or, or_false, false_or, not_true_eq_false, not_false_eq_true, if_true, if_false, if_pos, if_neg, lt_sub, le_sub, sub_lt3, sub_le3]
    exact h j a (by omega)
theorem mul_gap {w i j : Nat} (h : i < j) : w * i + w ≤ w * j := by
  have := Nat.mul_le_mul_left w (show i + 1 ≤ j from h)
  rwa [Nat.mul_add, Nat.mul_one] at this
theorem QF.put {μ m : Mem} {r z w lo hi hi2 i : Nat} {f : Nat → List Nat} {x : List Nat} (h : QF μ r z w lo hi f) (hx : x.length ≤ w) (hs : Seg m r (w * i) x) (hf : Fr (fun c k => c = r ∧ w * i ≤ k ∧ k < w * i + x.length) (setI μ z i (nI x.length)) m) (hrz : r ≠ z) (hh : hi2 ≤ hi ∨ hi2 = hi + 1 ∧ i = hi) : QF m r z w lo hi2 (upL f i x) := by
  intro j a b
  by_cases e : j = i
  · subst e
    rw [upL_s]
    refine ⟨?_, hx, hs⟩
    rw [hf.1 z j (by omega)]
    simp (disch := omega) only [i_0, i_1, i_2, i_3, i_4, i_5, i_6, i_7, i_8, i_9, i_10, i_11, i_12, i_13, i_14, i_15, i_16, i_17, i_18, i_19, i_20, i_21, i_22, i_23, i_24, i_25, i_26, i_27, i_31, i_32, i_40, i_42, i_45, i_48, i_51, i_52, i_56, i_58, i_59, i_60, i_61, i_62, i_63, i_64, i_85, i_90, i_100, i_112, i_120, i_121, i_127, i_128, i_130, i_144, i_171, i_192, i_193, i_197, i_200, i_207, i_235, i_240, i_248, i_252, i_254, i_255, i_256, i_512, i_544, i_768, i_769, i_793, i_1000, i_1023, i_1024, i_1200, i_1538, i_1541, i_1545, i_2046, i_2047, i_2049, i_2060, i_2736, i_2737, i_2817, i_2818, i_2819, i_2820, i_2821, i_2831, i_2832, i_3077, i_3085, i_3843, i_3849, i_3851, i_3852, i_4129, i_4353, i_4865, i_5121, i_5122, i_5123, i_6156, i_8192, i_12288, i_16383, i_32000, i_33280, i_49152, i_53247, i_60304, i_64000, i_64512, i_65521, i_65535, i_449838109, nI_add, pk_mul, pk_sub, nI_mm, nI_leI, nI_ltI, nI_eq, pk_div, jrem_N, jshl_N, jshr_N, jushr_N, jmin_N, jmax_N, an_1, an_3, an_7, an_15, an_31, an_63, an_127, an_255, an_1023, an_2047, an_16383, an_65535, nm, pfI, rdI, rdW, rdL, rdI2, rdW2, ldA_N, stA_N, stB_N, stZ_N, pfZ_0, pfZ_1, rtZ_0, rtZ_1, acp_N, Option.bind_some, wp_some_iff, true_and, and_true, false_and, and_false, or_true, true_or, or_false, false_or, not_true_eq_false, not_false_eq_true, if_true, if_false, if_pos, if_neg, lt_sub, le_sub, sub_lt3, sub_le3]
  · rw [upL_o e]
    obtain ⟨q1, q2, q3⟩ := h j a (by omega)
    refine ⟨?_, q2, q3.cg (fun k hk => ?_)⟩
    · rw [hf.1 z j (by omega)]
      simp (disch := omega) only [i_0, i_1, i_2, i_3, i_4, i_5, i_6, i_7, i_8, i_9, i_10, i_11, i_12, i_13, i_14, i_15, i_16, i_17, i_18, i_19, i_20, i_21, i_22, i_23, i_24, i_25, i_26, i_27, i_31, i_32, i_40, i_42, i_45, i_48, i_51, i_52, i_56, i_58, i_59, i_60, i_61, i_62, i_63, i_64, i_85, i_90, i_100, i_112, i_120, i_121, i_127, i_128, i_130, i_144, i_171, i_192, i_193, i_197, i_200, i_207, i_235, i_240, i_248, i_252, i_254, i_255, i_256, i_512, i_544, i_768, i_769, i_793, i_1000, i_1023, i_1024, i_1200, i_1538, i_1541, i_1545, i_2046, i_2047, i_2049, i_2060, i_2736, i_2737, i_2817, i_2818, i_2819, i_2820, i_2821, i_2831, i_2832, i_3077, i_3085, i_3843, i_3849, i_3851, i_3852, i_4129, i_4353, i_4865, i_5121, i_5122, i_5123, i_6156, i_8192, i_12288, i_16383, i_32000, i_33280, i_49152, i_53247, i_60304, i_64000, i_64512, i_65521, i_65535, i_449838109, nI_add, pk_mul, pk_sub, nI_mm, nI_leI, nI_ltI, nI_eq, pk_div, jrem_N, jshl_N, jshr_N, jushr_N, jmin_N, jmax_N, an_1, an_3, an_7, an_15, an_31, an_63, an_127, an_255, an_1023, an_2047, an_16383, an_65535, nm, pfI, rdI, rdW, rdL, rdI2, rdW2, ldA_N, stA_N, stB_N, stZ_N, pfZ_0, pfZ_1, rtZ_0, rtZ_1, acp_N, Option.bind_some, wp_some_iff, true_and, and_true, false_and, and_false, or_true, true_or, or_false, false_or, not_true_eq_false, not_false_eq_true, if_true, if_false, if_pos, if_neg, lt_sub, le_sub, sub_lt3, sub_le3]
      exact q1
    · have g1 : j < i → w * j + w ≤ w * i := mul_gap
      have g2 : i < j → w * i + w ≤ w * j := mul_gap
      rw [hf.1 r _ (by omega)]
      simp (disch := omega) only [i_0, i_1, i_2, i_3, i_4, i_5, i_6, i_7, i_8, i_9, i_10, i_11, i_12, i_13, i_14, i_15, i_16, i_17, i_18, i_19, i_20, i_21, i_22, i_23, i_24, i_25, i_26, i_27, i_31, i_32, i_40, i_42, i_45, i_48, i_51, i_52, i_56, i_58, i_59, i_60, i_61, i_62, i_63, i_64, i_85, i_90, i_100, i_112, i_120, i_121, i_127, i_128, i_130, i_144, i_171, i_192, i_193, i_197, i_200, i_207, i_235, i_240, i_248, i_252, i_254, i_255, i_256, i_512, i_544, i_768, i_769, i_793, i_1000, i_1023, i_1024, i_1200, i_1538, i_1541, i_1545, i_2046, i_2047, i_2049, i_2060, i_2736, i_2737, i_2817, i_2818, i_2819, i_2820, i_2821, i_2831, i_2832, i_3077, i_3085, i_3843, i_3849, i_3851, i_3852, i_4129, i_4353, i_4865, i_5121, i_5122, i_5123, i_6156, i_8192, i_12288, i_16383, i_32000, i_33280, i_49152, i_53247, i_60304, i_64000, i_64512, i_65521, i_65535, i_449838109, nI_add, pk_mul, pk_sub, nI_mm, nI_leI, nI_ltI, nI_eq, pk_div, jrem_N, jshl_N, jshr_N, jushr_N, jmin_N, jmax_N, an_1, an_3, an_7, an_15, an_31, an_63, an_127, an_255, an_1023, an_2047, an_16383, an_65535, nm, pfI, rdI, rdW, rdL, rdI2, rdW2, ldA_N, stA_N, stB_N, stZ_N, pfZ_0, pfZ_1, rtZ_0, rtZ_1, acp_N, Option.bind_some, wp_some_iff, true_and, and_true, false_and, and_false, or_true, true_or, or_false, false_or, not_true_eq_false, not_false_eq_true, if_true, if_false, if_pos, if_neg, lt_sub, le_sub, sub_lt3, sub_le3]
def shf {α : Type} (n : Nat) (f : Nat → α) (i j : Nat) : α := if j < i then f (j + n) else f j
theorem shf_up {α : Type} {n : Nat} {f : Nat → α} {i : Nat} : upL (shf n f i) i (f (i + n)) = shf n f (i + 1) := by
  funext j
  unfold upL shf
  by_cases e : j = i
  · rw [if_pos e, if_pos (by omega), e]
  · rw [if_neg e]
    by_cases e2 : j < i
    · rw [if_pos e2, if_pos (by omega)]
    · rw [if_neg e2, if_neg (by omega)]
theorem shf_ge {α : Type} {n : Nat} {f : Nat → α} {i j : Nat} (h : i ≤ j) : shf n f i j = f j := if_neg (by omega)
theorem shf_lt {α : Type} {n : Nat} {f : Nat → α} {i j : Nat} (h : j < i) : shf n f i j = f (j + n) := if_pos h
theorem shf_0 {α : Type} {n : Nat} {f : Nat → α} : shf n f 0 = f := by funext j; exact if_neg (by omega)
theorem pk_drop {ps : List Pk} {n i : Nat} : pk (ps.drop n) i = pk ps (i + n) := by
  unfold pk
  rw [List.getD_eq_getElem?_getD, List.getD_eq_getElem?_getD, List.getElem?_drop, Nat.add_comm]
theorem drop_era {ps : List Pk} {n : Nat} : (ps.drop n).eraseIdx 0 = ps.drop (n + 1) := by
  rw [List.eraseIdx_zero, List.tail_drop]
theorem pk_mem {ps : List Pk} {i : Nat} (h : i < ps.length) : pk ps i ∈ ps := by
  unfold pk
  rw [List.getD_eq_getElem?_getD, List.getElem?_eq_getElem h, Option.getD_some]
  exact List.getElem_mem h
/-! what is sent up -/
abbrev Ls : Type := (Nat → Nat) × (Nat → Nat → Bool)
def txL (L : Ls) (l : Nat) (bs : List Nat) : Ls := if L.1 l + 8 * bs.length ≤ 32000 * (l + 1) then (upL L.1 l (L.1 l + 8 * bs.length), upL L.2 l (apB (L.1 l) (L.2 l) bs)) else L
abbrev LnC (μ : Mem) (L : Ls) : Prop := LC μ L.1 L.2
abbrev LnM (μ : Mem) (L : Ls) : Prop := LM μ L.1 L.2
def frmL (fl num : Nat) (bs : List Nat) : List Nat := wck ([fl, 171, (bs.length + 6) / 256 % 256, (bs.length + 6) % 256, num % 256] ++ bs)
theorem frmL_len (fl num : Nat) (bs : List Nat) : (frmL fl num bs).length = bs.length + 7 := by
  rw [frmL, wck_len, List.length_append]
  show 5 + bs.length + 2 = _
  omega
theorem Tb.fr {μ m : Mem} {P : Nat → Nat → Prop} (h : Tb μ) (ho : Fr P μ m) (h1 : ∀ k, ¬ P 100000 k) : Tb m := fun i => by rw [ho.1 100000 i (h1 i)]; exact h i
theorem tx_C {μ : Mem} {L : Ls} {fl num p : Nat} {bs : List Nat} (hT : Tb μ) (hC : LnC μ L) (hb : Byt μ p bs) (hp : p < 44 ∧ 8 < p) (hl : bs.length ≤ 60) (hfl : fl = 0 ∨ fl = 32 ∨ fl = 48) (hnum : num < 2 ^ 31) : wp (f134 (nI (fl * 256)) (nI num) p μ) (fun m => LnC m (txL L 0 (unitL (frmL fl num bs))) ∧ Fr (fun c _ => 45 ≤ c ∧ c ≤ 48 ∨ 5 ≤ c ∧ c ≤ 6) μ m) := by
  have hq : gln (45 + 1) = 67 := gl_46
  have hq2 : gln (47 + 1) = 138 := gl_48
  unfold f134
  refine wp_bind (cl_ok 45 μ) (fun m1 ⟨h1, e1⟩ => ?_)
  refine wp_bind (p2_ok _ h1 (by rw [hq]; exact Nat.le_of_ble_eq_true rfl)) (fun m2 ⟨h2, e2⟩ => ?_)
  have b2 : Byt m2 p bs := (hb.fr e1 (by omega) (fun k => by omega)).fr e2 (by omega) (fun k => by omega)
  have w1 : lowB (nI (fl * 256) ||| 171) 2 = [fl, 171] := by
    rw [i_171, nx_or, show fl * 256 ||| 171 = fl * 256 + 171 from or_add (x := fl) 8 (by decide), lowB_N2 (by omega), show (fl * 256 + 171) / 256 % 256 = fl by omega, show (fl * 256 + 171) % 256 = 171 by omega]
  rw [w1] at h2
  simp (disch := omega) only [i_0, i_1, i_2, i_3, i_4, i_5, i_6, i_7, i_8, i_9, i_10, i_11, i_12, i_13, i_14, i_15, i_16, i_17, i_18, i_19, i_20, i_21, i_22, i_23, i_24, i_25, i_26, i_27, i_31, i_32, i_40, i_42, i_45, i_48, i_51, i_52, i_56, i_58, i_59, i_60, i_61, i_62, i_63, i_64, i_85, i_90, i_100, i_112, i_120, i_121, i_127, i_128, i_130, i_144, i_171, i_192, i_193, i_197, i_200, i_207, i_235, i_240, i_248, i_252, i_254, i_255, i_256, i_512, i_544, i_768, i_769, i_793, i_1000, i_1023, i_1024, i_1200, i_1538, i_1541, i_1545, i_2046, i_2047, i_2049, i_2060, i_2736, i_2737, i_2817, i_2818, i_2819, i_2820, i_2821, i_2831, i_2832, i_3077, i_3085, i_3843, i_3849, i_3851, i_3852, i_4129, i_4353, i_4865, i_5121, i_5122, i_5123, i_6156, i_8192, i_12288, i_16383, i_32000, i_33280, i_49152, i_53247, i_60304, i_64000, i_64512, i_65521, i_65535, i_449838109, nI_add, pk_mul, pk_sub, nI_mm, nI_leI, nI_ltI, nI_eq, pk_div, jrem_N, jshl_N, jshr_N, jushr_N, jmin_N, jmax_N, an_1, an_3, an_7, an_15, an_31, an_63, an_127, an_255, an_1023, an_2047, an_16383, an_65535, nm, pfI, rdI, rdW, rdL, rdI2, rdW2, ldA_N, stA_N, stB_N, stZ_N, pfZ_0, pfZ_1, rtZ_0, rtZ_1, acp_N, Option.bind_some, wp_some_iff, true_and, and_true, false_and, and_false, or_true, true_or, or_false, false_or, not_true_eq_false, not_false_eq_true, if_true, if_false, if_pos, if_neg, lt_sub, le_sub, sub_lt3, sub_le3, b2.1]
  refine wp_bind (p2_ok _ h2 (by rw [hq]; exact Nat.le_of_ble_eq_true rfl)) (fun m3 ⟨h3, e3⟩ => ?_)
  rw [lowB_N2 (by omega)] at h3
  refine wp_bind (pu_ok _ h3 (by rw [hq]; exact Nat.le_of_ble_eq_true rfl)) (fun m4 ⟨h4, e4⟩ => ?_)
  rw [byv_nat] at h4
  have e14 : Fr (FB 45) m2 m4 := e3.tr' e4
  have b4 : Byt m4 p bs := b2.fr e14 (by omega) (fun k => by omega)
  refine wp_bind (putAll_ok h4 b4 (by rw [hq]; show 5 + _ ≤ _; omega)) (fun m5 ⟨h5, e5⟩ => ?_)
  have e05 : Fr (FB 45) μ m5 := ((e1.tr' e2).tr' e14).tr' e5
  have hlen : ([] ++ [fl, 171] ++ [(bs.length + 6) / 256 % 256, (bs.length + 6) % 256] ++ [num % 256] ++ bs).length = 5 + bs.length := by simp; omega
  refine wp_bind (putCheck_ok (hT.fr e05 (fun k => by omega)) h5 (by rw [hq, hlen]; omega) (by rw [hlen]; omega)) (fun m6 ⟨h6, e6⟩ => ?_)
  rw [wck_C] at h6
  have h6' : Byt m6 45 (frmL fl num bs) := h6
  have e06 := e05.tr' e6
  refine wp_bind (wrap_C (us := []) h6' (by omega) (by rw [hq2, frmL_len]; omega) (by rw [frmL_len]; omega)) (fun m7 ⟨h7, e7⟩ => ?_)
  have c7 : LnC m7 L := (hC.fr e06 (fun c k q1 q2 => by omega)).fr e7 (fun c k q1 q2 => by omega)
  have hul := unitL_len (frmL fl num bs)
  rw [frmL_len] at hul
  refine wp_bind (lput_C (c7 0 (by decide)) h7 (by omega) (by rw [hul]; omega)) (fun r ⟨h8, e8⟩ => ?_)
  obtain ⟨m8, a8⟩ := r
  dsimp only at h8 e8 ⊢
  refine wp_some ⟨?_, ?_⟩
  · unfold txL
    by_cases q : L.1 0 + 8 * (unitL (frmL fl num bs)).length ≤ 32000 * (0 + 1)
    · rw [if_pos q] at h8 ⊢
      exact c7.up (by decide) h8.2 e8
    · rw [if_neg q] at h8 ⊢
      rw [h8.2]
      exact c7
  · exact (e06.tr e7 (by intro c k h; omega) (by intro c k h; omega)).tr e8 (fun _ _ q => q) (by intro c k h; omega)
theorem room_M {μ : Mem} {L : Ls} {l : Nat} (h : LnM μ L) (hl : l < 2) : f254 (nI l) μ = some (μ, nI (32000 * (l + 1) - L.1 l)) := by
  have g2 := gl_136
  have hn := (h l hl).2.1
  have : l = 0 ∨ l = 1 := by omega
  unfold f254 c254_12
  rcases this with rfl | rfl
  · simp (disch := omega) only [i_0, i_1, i_2, i_3, i_4, i_5, i_6, i_7, i_8, i_9, i_10, i_11, i_12, i_13, i_14, i_15, i_16, i_17, i_18, i_19, i_20, i_21, i_22, i_23, i_24, i_25, i_26, i_27, i_31, i_32, i_40, i_42, i_45, i_48, i_51, i_52, i_56, i_58, i_59, i_60, i_61, i_62, i_63, i_64, i_85, i_90, i_100, i_112, i_120, i_121, i_127, i_128, i_130, i_144, i_171, i_192, i_193, i_197, i_200, i_207, i_235, i_240, i_248, i_252, i_254, i_255, i_256, i_512, i_544, i_768, i_769, i_793, i_1000, i_1023, i_1024, i_1200, i_1538, i_1541, i_1545, i_2046, i_2047, i_2049, i_2060, i_2736, i_2737, i_2817, i_2818, i_2819, i_2820, i_2821, i_2831, i_2832, i_3077, i_3085, i_3843, i_3849, i_3851, i_3852, i_4129, i_4353, i_4865, i_5121, i_5122, i_5123, i_6156, i_8192, i_12288, i_16383, i_32000, i_33280, i_49152, i_53247, i_60304, i_64000, i_64512, i_65521, i_65535, i_449838109, nI_add, pk_mul, pk_sub, nI_mm, nI_leI, nI_ltI, nI_eq, pk_div, jrem_N, jshl_N, jshr_N, jushr_N, jmin_N, jmax_N, an_1, an_3, an_7, an_15, an_31, an_63, an_127, an_255, an_1023, an_2047, an_16383, an_65535, nm, pfI, rdI, rdW, rdL, rdI2, rdW2, ldA_N, stA_N, stB_N, stZ_N, pfZ_0, pfZ_1, rtZ_0, rtZ_1, acp_N, Option.bind_some, wp_some_iff, true_and, and_true, false_and, and_false, or_true, true_or, or_false, false_or, not_true_eq_false, not_false_eq_true, if_true, if_false, if_pos, if_neg, lt_sub, le_sub, sub_lt3, sub_le3, (h 0 hl).1]
  · simp (disch := omega) only [i_0, i_1, i_2, i_3, i_4, i_5, i_6, i_7, i_8, i_9, i_10, i_11, i_12, i_13, i_14, i_15, i_16, i_17, i_18, i_19, i_20, i_21, i_22, i_23, i_24, i_25, i_26, i_27, i_31, i_32, i_40, i_42, i_45, i_48, i_51, i_52, i_56, i_58, i_59, i_60, i_61, i_62, i_63, i_64, i_85, i_90, i_100, i_112, i_120, i_121, i_127, i_128, i_130, i_144, i_171, i_192, i_193, i_197, i_200, i_207, i_235, i_240, i_248, i_252, i_254, i_255, i_256, i_512, i_544, i_768, i_769, i_793, i_1000, i_1023, i_1024, i_1200, i_1538, i_1541, i_1545, i_2046, i_2047, i_2049, i_2060, i_2736, i_2737, i_2817, i_2818, i_2819, i_2820, i_2821, i_2831, i_2832, i_3077, i_3085, i_3843, i_3849, i_3851, i_3852, i_4129, i_4353, i_4865, i_5121, i_5122, i_5123, i_6156, i_8192, i_12288, i_16383, i_32000, i_33280, i_49152, i_53247, i_60304, i_64000, i_64512, i_65521, i_65535, i_449838109, nI_add, pk_mul, pk_sub, nI_mm, nI_leI, nI_ltI, nI_eq, pk_div, jrem_N, jshl_N, jshr_N, jushr_N, jmin_N, jmax_N, an_1, an_3, an_7, an_15, an_31, an_63, an_127, an_255, an_1023, an_2047, an_16383, an_65535, nm, pfI, rdI, rdW, rdL, rdI2, rdW2, ldA_N, stA_N, stB_N, stZ_N, pfZ_0, pfZ_1, rtZ_0, rtZ_1, acp_N, Option.bind_some, wp_some_iff, true_and, and_true, false_and, and_false, or_true, true_or, or_false, false_or, not_true_eq_false, not_false_eq_true, if_true, if_false, if_pos, if_neg, lt_sub, le_sub, sub_lt3, sub_le3, (h 1 hl).1]
theorem txU_M {m : Mem} {L : Ls} {FF : List Nat} (hM : LnM m L) (sW : Seg m 148 0 FF) (hl : FF.length ≤ 67) : wp ((f252 148 (nI FF.length) m).bind fun r8 => (f254 (nI 0) r8.1).bind fun r10 => if r10.2 < nI 8 * r8.2 then some r10.1 else (f256 (nI 0) 133 r8.2 r10.1).bind fun r13 => some r13) (fun m' => LnM m' (txL L 0 (unitL FF)) ∧ Fr (fun c _ => 131 ≤ c ∧ c ≤ 134 ∨ c = 136) m m') := by
  have g1 := gl_148
  have g3 := gl_133
  have hul := unitL_len FF
  refine wp_bind (unit_M sW (by omega) (by omega) (by omega)) (fun r ⟨h1, h2, h3⟩ => ?_)
  obtain ⟨m3, a3⟩ := r
  dsimp only at h1 h2 h3 ⊢
  subst h1
  have M3 : LnM m3 L := hM.fr h3 (fun c k q1 q2 => by omega)
  have hn0 := (M3 0 (by decide)).2.1
  have hrm := room_M M3 (show 0 < 2 by decide)
  rw [hrm, Option.bind_some]
  dsimp only
  generalize unitL FF = UU at *
  unfold txL
  have fE : Fr (fun c _ => 131 ≤ c ∧ c ≤ 134 ∨ c = 136) m m3 := h3.mono (by intro c k h; omega)
  have hlt : nI (32000 * (0 + 1) - L.1 0) < nI 8 * nI UU.length ↔ 32000 * (0 + 1) - L.1 0 < 8 * UU.length := by rw [pk_mul, nI_ltI (by omega) (by omega)]
  by_cases q : L.1 0 + 8 * UU.length ≤ 32000 * (0 + 1)
  · rw [if_pos q, if_neg (fun z => by have := hlt.mp z; omega)]
    refine wp_bind (addBits_M (by decide) (M3 0 (by decide)) h2 (by omega) (by omega) q) (fun m4 ⟨h4, h5⟩ => wp_some ⟨M3.up (by decide) h4 h5, ?_⟩)
    exact fE.tr h5 (fun _ _ q => q) (by intro c k h; omega)
  · rw [if_neg q, if_pos (hlt.mpr (by omega))]
    exact wp_some ⟨M3, fE⟩
theorem txB_M {m : Mem} {L : Ls} {PH : List Nat} {p n : Nat} {v4 : Int32} {kl : Int32 → Int32 → Int32 → Int32 → Mem → Option (Mem)} (hM : LnM m L) (y1 : Seg m 148 0 PH) (hl : PH.length = 5 + n) (h60 : n ≤ 60) : wp (b271_64 p kl v4 (nI n) (nI (n + 7)) (nI n) m) (fun m' => LnM m' (txL L 0 (unitL (wck PH))) ∧ Fr (fun c _ => 131 ≤ c ∧ c ≤ 134 ∨ c = 136 ∨ c = 148) m m') := by
  have g1 := gl_148
  have hck := mcheck_ok y1 (by omega) (by omega)
  rw [hl] at hck
  have hcl := crc_lt PH
  unfold b271_64
  simp only [i_0, i_5, i_6, i_8, i_255, nI_add]
  rw [if_pos (nI_le (Nat.le_refl _) (by omega)), hck, Option.bind_some]
  dsimp only
  rw [jshr_N (by omega) (by decide), an_255, stA_N (by omega), Option.bind_some, stA_N (by omega), Option.bind_some]
  rw [show crc PH / 2 ^ 8 = crc PH / 256 from rfl]
  have sW := y1.wck (5 + n) (6 + n) (by omega) (by omega)
  have hwl := wck_len PH
  generalize hmW : setI (setI m 148 (5 + n) (nI (crc PH / 256))) 148 (6 + n) (nI (crc PH % 256)) = mW at sW ⊢
  have fW : Fr (fun c _ => c = 148) m mW := by
    subst hmW
    exact (Fr.sI (by omega)).pI (by omega)
  generalize wck PH = FF at *
  rw [show n + 7 = FF.length by omega]
  exact wp_mono (txU_M (hM.fr fW (fun c k q1 q2 => by omega)) sW (by omega)) (fun m' h => ⟨h.1, fW.tr h.2 (by intro c k h; omega) (by intro c k h; omega)⟩)
theorem tx_M {μ : Mem} {L : Ls} {fl num p s n : Nat} {bs : List Nat} (hM : LnM μ L) (hb : Seg μ p s bs) (hn : n = bs.length) (hs : s + bs.length ≤ gln p) (hp : p < 131 ∨ 137 ≤ p ∧ p ≠ 148) (hl : bs.length ≤ 60) (hfl : fl < 256) : wp (f271 (nI fl) (nI num) p (nI s) (nI n) μ) (fun m => LnM m (txL L 0 (unitL (frmL fl num bs))) ∧ Fr (fun c k => 131 ≤ c ∧ c ≤ 134 ∨ c = 136 ∨ c = 148) μ m) := by
  have g1 := gl_148
  have g2 := gln_le p
  subst hn
  unfold f271
  refine wp_nm (fun v hv => ?_)
  rw [i_7, nI_add] at hv
  subst hv
  rw [i_0, i_1, i_2, i_3, i_4, i_8, i_171, i_255]
  rw [pk_sub (by omega), jshr_N (by omega) (by decide), an_255, an_255]
  rw [stA_N (by omega), Option.bind_some, stA_N (by omega), Option.bind_some, stA_N (by omega), Option.bind_some, stA_N (by omega), Option.bind_some, stA_N (by omega), Option.bind_some]
  rw [show bs.length + 7 - 1 = bs.length + 6 by omega, show (bs.length + 6) / 2 ^ 8 = (bs.length + 6) / 256 % 256 by omega]
  have s1 := Seg.sn (μ := μ) (c := 148) (k := 0) (p := 0) (b := fl) (bs := []) Seg.nil rfl hfl
  have s2 := s1.sn (p := 1) (b := 171) rfl (by decide)
  have s3 := s2.sn (p := 2) (b := (bs.length + 6) / 256 % 256) rfl (by omega)
  have s4 := s3.sn (p := 3) (b := (bs.length + 6) % 256) rfl (by omega)
  have s5 := s4.sn (p := 4) (b := num % 256) rfl (by omega)
  have s6 : Seg (setI (setI (setI (setI (setI μ 148 0 (nI fl)) 148 1 (nI 171)) 148 2 (nI ((bs.length + 6) / 256 % 256))) 148 3 (nI ((bs.length + 6) % 256))) 148 4 (nI (num % 256))) 148 0 [fl, 171, (bs.length + 6) / 256 % 256, (bs.length + 6) % 256, num % 256] := s5
  have hHDl : ([fl, 171, (bs.length + 6) / 256 % 256, (bs.length + 6) % 256, num % 256] : List Nat).length = 5 := rfl
  have f0 : Fr (fun c _ => c = 148) μ (setI (setI (setI (setI (setI μ 148 0 (nI fl)) 148 1 (nI 171)) 148 2 (nI ((bs.length + 6) / 256 % 256))) 148 3 (nI ((bs.length + 6) % 256))) 148 4 (nI (num % 256))) := ((((Fr.sI (by omega)).pI (by omega)).pI (by omega)).pI (by omega)).pI (by omega)
  have hfr : frmL fl num bs = wck ([fl, 171, (bs.length + 6) / 256 % 256, (bs.length + 6) % 256, num % 256] ++ bs) := rfl
  rw [hfr]
  clear s1 s2 s3 s4 s5 hfr
  generalize setI (setI (setI (setI (setI μ 148 0 (nI fl)) 148 1 (nI 171)) 148 2 (nI ((bs.length + 6) / 256 % 256))) 148 3 (nI ((bs.length + 6) % 256))) 148 4 (nI (num % 256)) = m0 at *
  generalize ([fl, 171, (bs.length + 6) / 256 % 256, (bs.length + 6) % 256, num % 256] : List Nat) = HD at *
  unfold l271_64
  refine wp_for (fun i m => (nI s, nI bs.length, nI (bs.length + 7), nI i, m)) (fun i m => Seg m 148 0 (HD ++ bs.take i) ∧ Fr (fun c _ => c = 148) μ m) bs.length (by omega) m0 _ rfl ⟨by rw [List.take_zero, List.append_nil]; exact s6, f0⟩ (fun self i m hi ⟨y1, y2⟩ hk => ?_) (fun self m ⟨y1, y2⟩ => ?_)
  · unfold b271_64
    have e := (hb.fr y2 (fun k => by omega)).1 i hi
    simp (disch := omega) only [i_0, i_1, i_2, i_3, i_4, i_5, i_6, i_7, i_8, i_9, i_10, i_11, i_12, i_13, i_14, i_15, i_16, i_17, i_18, i_19, i_20, i_21, i_22, i_23, i_24, i_25, i_26, i_27, i_31, i_32, i_40, i_42, i_45, i_48, i_51, i_52, i_56, i_58, i_59, i_60, i_61, i_62, i_63, i_64, i_85, i_90, i_100, i_112, i_120, i_121, i_127, i_128, i_130, i_144, i_171, i_192, i_193, i_197, i_200, i_207, i_235, i_240, i_248, i_252, i_254, i_255, i_256, i_512, i_544, i_768, i_769, i_793, i_1000, i_1023, i_1024, i_1200, i_1538, i_1541, i_1545, i_2046, i_2047, i_2049, i_2060, i_2736, i_2737, i_2817, i_2818, i_2819, i_2820, i_2821, i_2831, i_2832, i_3077, i_3085, i_3843, i_3849, i_3851, i_3852, i_4129, i_4353, i_4865, i_5121, i_5122, i_5123, i_6156, i_8192, i_12288, i_16383, i_32000, i_33280, i_49152, i_53247, i_60304, i_64000, i_64512, i_65521, i_65535, i_449838109, nI_add, pk_mul, pk_sub, nI_mm, nI_leI, nI_ltI, nI_eq, pk_div, jrem_N, jshl_N, jshr_N, jushr_N, jmin_N, jmax_N, an_1, an_3, an_7, an_15, an_31, an_63, an_127, an_255, an_1023, an_2047, an_16383, an_65535, nm, pfI, rdI, rdW, rdL, rdI2, rdW2, ldA_N, stA_N, stB_N, stZ_N, pfZ_0, pfZ_1, rtZ_0, rtZ_1, acp_N, Option.bind_some, wp_some_iff, true_and, and_true, false_and, and_false, or_true, true_or, or_false, false_or, not_true_eq_false, not_false_eq_true, if_true, if_false, if_pos, if_neg, lt_sub, le_sub, sub_lt3, sub_le3, e]
    refine hk _ ⟨?_, y2.pI rfl⟩
    rw [take_sn hi, ← List.append_assoc]
    exact y1.sn (by rw [List.length_append, List.length_take, hHDl]; omega) (getD_lt hb.2 i)
  · rw [List.take_of_length_le (Nat.le_refl _)] at y1
    exact wp_mono (txB_M (hM.fr y2 (fun c k q1 q2 => by omega)) y1 (by rw [List.length_append, hHDl]) hl) (fun m' h => ⟨h.1, y2.tr h.2 (by intro c k h; omega) (by intro c k h; omega)⟩)
