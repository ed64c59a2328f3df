/-! ===== the ground's machine: its state, GO, in the class ===== -/
def nt (x : Int32) : Nat := x.toNatClampNeg
theorem nt_nI {n : Nat} (h : n < 2 ^ 31) : nt (nI n) = n := nI_clamp h
def SC (μ : Mem) (z : Nat → Int32) : Prop := ∀ i, i < 11 → μ.1 28 (8 + i) = z i
def SM (μ : Mem) (z : Nat → Int32) : Prop := ∀ i, i < 11 → μ.1 129 (28 + i) = z i
theorem SC.a {μ : Mem} {z : Nat → Int32} (h : SC μ z) : μ.1 28 8 = z 0 ∧ μ.1 28 9 = z 1 ∧ μ.1 28 10 = z 2 ∧ μ.1 28 11 = z 3 ∧ μ.1 28 12 = z 4 ∧ μ.1 28 13 = z 5 ∧ μ.1 28 14 = z 6 ∧ μ.1 28 15 = z 7 ∧ μ.1 28 16 = z 8 ∧ μ.1 28 17 = z 9 ∧ μ.1 28 18 = z 10 :=
  ⟨h 0 (by decide), h 1 (by decide), h 2 (by decide), h 3 (by decide), h 4 (by decide), h 5 (by decide), h 6 (by decide), h 7 (by decide), h 8 (by decide), h 9 (by decide), h 10 (by decide)⟩
theorem SM.a {μ : Mem} {z : Nat → Int32} (h : SM μ z) : μ.1 129 28 = z 0 ∧ μ.1 129 29 = z 1 ∧ μ.1 129 30 = z 2 ∧ μ.1 129 31 = z 3 ∧ μ.1 129 32 = z 4 ∧ μ.1 129 33 = z 5 ∧ μ.1 129 34 = z 6 ∧ μ.1 129 35 = z 7 ∧ μ.1 129 36 = z 8 ∧ μ.1 129 37 = z 9 ∧ μ.1 129 38 = z 10 :=
  ⟨h 0 (by decide), h 1 (by decide), h 2 (by decide), h 3 (by decide), h 4 (by decide), h 5 (by decide), h 6 (by decide), h 7 (by decide), h 8 (by decide), h 9 (by decide), h 10 (by decide)⟩
theorem SC.up {μ : Mem} {z : Nat → Int32} {k i : Nat} {x : Int32} (h : SC μ z) (hk : k = 8 + i) : SC (setI μ 28 k x) (upL z i x) := by
  intro j hj
  subst hk
  by_cases e : j = i
  · subst e
    simp (disch := omega) only [i_0, i_1, i_2, i_3, i_4, i_5, i_6, i_7, i_8, i_9, i_10, i_11, i_12, i_13, i_14, i_15, i_16, i_17, i_18, i_19, i_20, i_21, i_22, i_23, i_24, i_25, i_26, i_27, i_31, i_32, i_40, i_42, i_45, i_48, i_51, i_52, i_56, i_58, i_59, i_60, i_61, i_62, i_63, i_64, i_85, i_90, i_100, i_112, i_120, i_121, i_127, i_128, i_130, i_144, i_171, i_192, i_193, i_197, i_200, i_207, i_235, i_240, i_248, i_252, i_254, i_255, i_256, i_512, i_544, i_768, i_769, i_793, i_1000, i_1023, i_1024, i_1200, i_1538, i_1541, i_1545, i_2046, i_2047, i_2049, i_2060, i_2736, i_2737, i_2817, i_2818, i_2819, i_2820, i_2821, i_2831, i_2832, i_3077, i_3085, i_3843, i_3849, i_3851, i_3852, i_4129, i_4353, i_4865, i_5121, i_5122, i_5123, i_6156, i_8192, i_12288, i_16383, i_32000, i_33280, i_49152, i_53247, i_60304, i_64000, i_64512, i_65521, i_65535, i_449838109, nI_add, pk_mul, pk_sub, nI_mm, nI_leI, nI_ltI, nI_eq, pk_div, jrem_N, jshl_N, jshr_N, jushr_N, jmin_N, jmax_N, an_1, an_3, an_7, an_15, an_31, an_63, an_127, an_255, an_1023, an_2047, an_16383, an_65535, nm, pfI, rdI, rdW, rdL, rdI2, rdW2, ldA_N, stA_N, stB_N, stZ_N, pfZ_0, pfZ_1, rtZ_0, rtZ_1, acp_N, Option.bind_some, wp_some_iff, true_and, and_true, false_and, and_false, or_true, true_or, or_false, false_or, not_true_eq_false, not_false_eq_true, if_true, if_false, if_pos, if_neg, lt_sub, le_sub, sub_lt3, sub_le3, upL_s]
  · rw [upL_o e]
    simp (disch := omega) only [i_0, i_1, i_2, i_3, i_4, i_5, i_6, i_7, i_8, i_9, i_10, i_11, i_12, i_13, i_14, i_15, i_16, i_17, i_18, i_19, i_20, i_21, i_22, i_23, i_24, i_25, i_26, i_27, i_31, i_32, i_40, i_42, i_45, i_48, i_51, i_52, i_56, i_58, i_59, i_60, i_61, i_62, i_63, i_64, i_85, i_90, i_100, i_112, i_120, i_121, i_127, i_128, i_130, i_144, i_171, i_192, i_193, i_197, i_200, i_207, i_235, i_240, i_248, i_252, i_254, i_255, i_256, i_512, i_544, i_768, i_769, i_793, i_1000, i_1023, i_1024, i_1200, i_1538, i_1541, i_1545, i_2046, i_2047, i_2049, i_2060, i_2736, i_2737, i_2817, i_2818, i_2819, i_2820, i_2821, i_2831, i_2832, i_3077, i_3085, i_3843, i_3849, i_3851, i_3852, i_4129, i_4353, i_4865, i_5121, i_5122, i_5123, i_6156, i_8192, i_12288, i_16383, i_32000, i_33280, i_49152, i_53247, i_60304, i_64000, i_64512, i_65521, i_65535, i_449838109, nI_add, pk_mul, pk_sub, nI_mm, nI_leI, nI_ltI, nI_eq, pk_div, jrem_N, jshl_N, jshr_N, jushr_N, jmin_N, jmax_N, an_1, an_3, an_7, an_15, an_31, an_63, an_127, an_255, an_1023, an_2047, an_16383, an_65535, nm, pfI, rdI, rdW, rdL, rdI2, rdW2, ldA_N, stA_N, stB_N, stZ_N, pfZ_0, pfZ_1, rtZ_0, rtZ_1, acp_N, Option.bind_some, wp_some_iff, true_and, and_true, false_and, and_false, or_true, true_or, or_false, false_or, not_true_eq_false, not_false_eq_true, if_true, if_false, if_pos, if_neg, lt_sub, le_sub, sub_lt3, sub_le3]
    exact h j hj
theorem SM.up {μ : Mem} {z : Nat → Int32} {k i : Nat} {x : Int32} (h : SM μ z) (hk : k = 28 + i) : SM (setI μ 129 k x) (upL z i x) := by
  intro j hj
  subst hk
  by_cases e : j = i
  · subst e
    simp (disch := omega) only [i_0, i_1, i_2, i_3, i_4, i_5, i_6, i_7, i_8, i_9, i_10, i_11, i_12, i_13, i_14, i_15, i_16, i_17, i_18, i_19, i_20, i_21, i_22, i_23, i_24, i_25, i_26, i_27, i_31, i_32, i_40, i_42, i_45, i_48, i_51, i_52, i_56, i_58, i_59, i_60, i_61, i_62, i_63, i_64, i_85, i_90, i_100, i_112, i_120, i_121, i_127, i_128, i_130, i_144, i_171, i_192, i_193, i_197, i_200, i_207, i_235, i_240, i_248, i_252, i_254, i_255, i_256, i_512, i_544, i_768, i_769, i_793, i_1000, i_1023, i_1024, i_1200, i_1538, i_1541, i_1545, i_2046, i_2047, i_2049, i_2060, i_2736, i_2737, i_2817, i_2818, i_2819, i_2820, i_2821, i_2831, i_2832, i_3077, i_3085, i_3843, i_3849, i_3851, i_3852, i_4129, i_4353, i_4865, i_5121, i_5122, i_5123, i_6156, i_8192, i_12288, i_16383, i_32000, i_33280, i_49152, i_53247, i_60304, i_64000, i_64512, i_65521, i_65535, i_449838109, nI_add, pk_mul, pk_sub, nI_mm, nI_leI, nI_ltI, nI_eq, pk_div, jrem_N, jshl_N, jshr_N, jushr_N, jmin_N, jmax_N, an_1, an_3, an_7, an_15, an_31, an_63, an_127, an_255, an_1023, an_2047, an_16383, an_65535, nm, pfI, rdI, rdW, rdL, rdI2, rdW2, ldA_N, stA_N, stB_N, stZ_N, pfZ_0, pfZ_1, rtZ_0, rtZ_1, acp_N, Option.bind_some, wp_some_iff, true_and, and_true, false_and, and_false, or_true, true_or, or_false, false_or, not_true_eq_false, not_false_eq_true, if_true, if_false, if_pos, if_neg, lt_sub, le_sub, sub_lt3, sub_le3, upL_s]
  · rw [upL_o e]
    simp (disch := omega) only [i_0, i_1, i_2, i_3, i_4, i_5, i_6, i_7, i_8, i_9, i_10, i_11, i_12, i_13, i_14, i_15, i_16, i_17, i_18, i_19, i_20, i_21, i_22, i_23, i_24, i_25, i_26, i_27, i_31, i_32, i_40, i_42, i_45, i_48, i_51, i_52, i_56, i_58, i_59, i_60, i_61, i_62, i_63, i_64, i_85, i_90, i_100, i_112, i_120, i_121, i_127, i_128, i_130, i_144, i_171, i_192, i_193, i_197, i_200, i_207, i_235, i_240, i_248, i_252, i_254, i_255, i_256, i_512, i_544, i_768, i_769, i_793, i_1000, i_1023, i_1024, i_1200, i_1538, i_1541, i_1545, i_2046, i_2047, i_2049, i_2060, i_2736, i_2737, i_2817, i_2818, i_2819, i_2820, i_2821, i_2831, i_2832, i_3077, i_3085, i_3843, i_3849, i_3851, i_3852, i_4129, i_4353, i_4865, i_5121, i_5122, i_5123, i_6156, i_8192, i_12288, i_16383, i_32000, i_33280, i_49152, i_53247, i_60304, i_64000, i_64512, i_65521, i_65535, i_449838109, nI_add, pk_mul, pk_sub, nI_mm, nI_leI, nI_ltI, nI_eq, pk_div, jrem_N, jshl_N, jshr_N, jushr_N, jmin_N, jmax_N, an_1, an_3, an_7, an_15, an_31, an_63, an_127, an_255, an_1023, an_2047, an_16383, an_65535, nm, pfI, rdI, rdW, rdL, rdI2, rdW2, ldA_N, stA_N, stB_N, stZ_N, pfZ_0, pfZ_1, rtZ_0, rtZ_1, acp_N, Option.bind_some, wp_some_iff, true_and, and_true, false_and, and_false, or_true, true_or, or_false, false_or, not_true_eq_false, not_false_eq_true, if_true, if_false, if_pos, if_neg, lt_sub, le_sub, sub_lt3, sub_le3]
    exact h j hj
theorem SC.fr {μ m : Mem} {z : Nat → Int32} {P : Nat → Nat → Prop} (h : SC μ z) (ho : Fr P μ m) (h1 : ∀ k, 8 ≤ k → k ≤ 18 → ¬ P 28 k) : SC m z := fun i hi => by rw [ho.1 _ _ (h1 _ (by omega) (by omega))]; exact h i hi
theorem SM.fr {μ m : Mem} {z : Nat → Int32} {P : Nat → Nat → Prop} (h : SM μ z) (ho : Fr P μ m) (h1 : ∀ k, 28 ≤ k → k ≤ 38 → ¬ P 129 k) : SM m z := fun i hi => by rw [ho.1 _ _ (h1 _ (by omega) (by omega))]; exact h i hi
theorem Shf.set_o {μ : Mem} {a c k : Nat} {ps : List Pk} {x : Int32} (h : Shf μ a ps) (h1 : c < a ∨ a + 5 < c) : Shf (setI μ c k x) a ps := h.fr (P := fun c' _ => c' = c) (Fr.sI rfl) (fun c' k' q1 q2 => by omega)
theorem ReqC.set_o {μ : Mem} {t c k : Nat} {q : Nat → Rq} {x : Int32} (h : ReqC μ t q) (h1 : c ≠ 12 ∧ (c < 24 ∨ 26 < c)) : ReqC (setI μ c k x) t q := h.fr (P := fun c' _ => c' = c) (Fr.sI rfl) (by omega) (fun c' k' q1 q2 => by omega)
theorem LC.set_o {μ : Mem} {n : Nat → Nat} {g : Nat → Nat → Bool} {c k : Nat} {x : Int32} (h : LC μ n g) (h1 : c < 5 ∨ 8 < c) : LC (setI μ c k x) n g := h.fr (P := fun c' _ => c' = c) (Fr.sI rfl) (fun c' k' q1 q2 => by omega)
theorem Tb.set_o {μ : Mem} {c k : Nat} {x : Int32} (h : Tb μ) (h1 : c ≠ 100000) : Tb (setI μ c k x) := h.fr (P := fun c' _ => c' = c) (Fr.sI rfl) (fun k q => by omega)
theorem Byt.set_o {μ : Mem} {a c k : Nat} {bs : List Nat} {x : Int32} (h : Byt μ a bs) (h1 : c ≠ a ∧ c ≠ a + 1) : Byt (setI μ c k x) a bs := h.fr (P := fun c' _ => c' = c) (Fr.sI rfl) (by omega) (fun k => by omega)
def fm : List Pk → Nat
  | [] => 0
  | p :: ps => if p.2.2 = nI 0 then fm ps + 1 else 0
theorem fm_le : ∀ ps : List Pk, fm ps ≤ ps.length
  | [] => Nat.le_refl _
  | p :: ps => by
    have := fm_le ps
    unfold fm
    by_cases e : p.2.2 = nI 0
    · rw [if_pos e, List.length_cons]; omega
    · rw [if_neg e]; omega
theorem fm_eq : ∀ (ps : List Pk) (i : Nat), (∀ j, j < i → (pk ps j).2.2 = nI 0) → (i = ps.length ∨ i < ps.length ∧ (pk ps i).2.2 ≠ nI 0) → fm ps = i
  | [], i, _, h => by
    have h1 : ([] : List Pk).length = 0 := rfl
    show 0 = i
    omega
  | p :: ps, 0, _, h => by
    rcases h with h | h
    · rw [List.length_cons] at h; omega
    · unfold fm
      rw [if_neg (show ¬ p.2.2 = nI 0 from h.2)]
  | p :: ps, i + 1, h0, h => by
    unfold fm
    rw [if_pos (show p.2.2 = nI 0 from h0 0 (by omega)), fm_eq ps i (fun j hj => h0 (j + 1) (by omega)) ?_]
    rcases h with h | h
    · left; rw [List.length_cons] at h; omega
    · right; rw [List.length_cons] at h; exact ⟨by omega, h.2⟩
theorem fm_C {μ : Mem} {ps : List Pk} (h : Shf μ 29 ps) : wp (f136 μ) (fun r => r.1 = μ ∧ (fm ps < ps.length ∧ r.2 = nI (fm ps) ∨ fm ps = ps.length ∧ r.2 = -nI 1)) := by
  have hl := h.len
  have g : gln (29 + 2) = 32 := gl_31
  unfold f136 l136_2
  simp (disch := omega) only [i_0, i_1, i_2, i_3, i_4, i_5, i_6, i_7, i_8, i_9, i_10, i_11, i_12, i_13, i_14, i_15, i_16, i_17, i_18, i_19, i_20, i_21, i_22, i_23, i_24, i_25, i_26, i_27, i_31, i_32, i_40, i_42, i_45, i_48, i_51, i_52, i_56, i_58, i_59, i_60, i_61, i_62, i_63, i_64, i_85, i_90, i_100, i_112, i_120, i_121, i_127, i_128, i_130, i_144, i_171, i_192, i_193, i_197, i_200, i_207, i_235, i_240, i_248, i_252, i_254, i_255, i_256, i_512, i_544, i_768, i_769, i_793, i_1000, i_1023, i_1024, i_1200, i_1538, i_1541, i_1545, i_2046, i_2047, i_2049, i_2060, i_2736, i_2737, i_2817, i_2818, i_2819, i_2820, i_2821, i_2831, i_2832, i_3077, i_3085, i_3843, i_3849, i_3851, i_3852, i_4129, i_4353, i_4865, i_5121, i_5122, i_5123, i_6156, i_8192, i_12288, i_16383, i_32000, i_33280, i_49152, i_53247, i_60304, i_64000, i_64512, i_65521, i_65535, i_449838109, nI_add, pk_mul, pk_sub, nI_mm, nI_leI, nI_ltI, nI_eq, pk_div, jrem_N, jshl_N, jshr_N, jushr_N, jmin_N, jmax_N, an_1, an_3, an_7, an_15, an_31, an_63, an_127, an_255, an_1023, an_2047, an_16383, an_65535, nm, pfI, rdI, rdW, rdL, rdI2, rdW2, ldA_N, stA_N, stB_N, stZ_N, pfZ_0, pfZ_1, rtZ_0, rtZ_1, acp_N, Option.bind_some, wp_some_iff, true_and, and_true, false_and, and_false, or_true, true_or, or_false, false_or, not_true_eq_false, not_false_eq_true, if_true, if_false, if_pos, if_neg, lt_sub, le_sub, sub_lt3, sub_le3]
  refine wp_for (fun i m => (nI i, m)) (fun i m => m = μ ∧ ∀ j, j < i → (pk ps j).2.2 = nI 0) ps.length (by omega) μ _ rfl ⟨rfl, fun j hj => by omega⟩ (fun self i m hi ⟨y1, y2⟩ hk => ?_) (fun self m ⟨y1, y2⟩ => ?_)
  · subst y1
    unfold b136_2
    simp (disch := omega) only [i_0, i_1, i_2, i_3, i_4, i_5, i_6, i_7, i_8, i_9, i_10, i_11, i_12, i_13, i_14, i_15, i_16, i_17, i_18, i_19, i_20, i_21, i_22, i_23, i_24, i_25, i_26, i_27, i_31, i_32, i_40, i_42, i_45, i_48, i_51, i_52, i_56, i_58, i_59, i_60, i_61, i_62, i_63, i_64, i_85, i_90, i_100, i_112, i_120, i_121, i_127, i_128, i_130, i_144, i_171, i_192, i_193, i_197, i_200, i_207, i_235, i_240, i_248, i_252, i_254, i_255, i_256, i_512, i_544, i_768, i_769, i_793, i_1000, i_1023, i_1024, i_1200, i_1538, i_1541, i_1545, i_2046, i_2047, i_2049, i_2060, i_2736, i_2737, i_2817, i_2818, i_2819, i_2820, i_2821, i_2831, i_2832, i_3077, i_3085, i_3843, i_3849, i_3851, i_3852, i_4129, i_4353, i_4865, i_5121, i_5122, i_5123, i_6156, i_8192, i_12288, i_16383, i_32000, i_33280, i_49152, i_53247, i_60304, i_64000, i_64512, i_65521, i_65535, i_449838109, nI_add, pk_mul, pk_sub, nI_mm, nI_leI, nI_ltI, nI_eq, pk_div, jrem_N, jshl_N, jshr_N, jushr_N, jmin_N, jmax_N, an_1, an_3, an_7, an_15, an_31, an_63, an_127, an_255, an_1023, an_2047, an_16383, an_65535, nm, pfI, rdI, rdW, rdL, rdI2, rdW2, ldA_N, stA_N, stB_N, stZ_N, pfZ_0, pfZ_1, rtZ_0, rtZ_1, acp_N, Option.bind_some, wp_some_iff, true_and, and_true, false_and, and_false, or_true, true_or, or_false, false_or, not_true_eq_false, not_false_eq_true, if_true, if_false, if_pos, if_neg, lt_sub, le_sub, sub_lt3, sub_le3, h.1, markOf_y h hi]
    by_cases e : (pk ps i).2.2 = nI 0
    · rw [if_pos e]
      refine hk _ ⟨rfl, fun j hj => ?_⟩
      by_cases e2 : j = i
      · rw [e2]; exact e
      · exact y2 j (by omega)
    · rw [if_neg e]
      have := fm_eq ps i y2 (Or.inr ⟨hi, e⟩)
      exact wp_some ⟨rfl, Or.inl ⟨by omega, by rw [this]⟩⟩
  · subst y1
    unfold b136_2
    simp (disch := omega) only [i_0, i_1, i_2, i_3, i_4, i_5, i_6, i_7, i_8, i_9, i_10, i_11, i_12, i_13, i_14, i_15, i_16, i_17, i_18, i_19, i_20, i_21, i_22, i_23, i_24, i_25, i_26, i_27, i_31, i_32, i_40, i_42, i_45, i_48, i_51, i_52, i_56, i_58, i_59, i_60, i_61, i_62, i_63, i_64, i_85, i_90, i_100, i_112, i_120, i_121, i_127, i_128, i_130, i_144, i_171, i_192, i_193, i_197, i_200, i_207, i_235, i_240, i_248, i_252, i_254, i_255, i_256, i_512, i_544, i_768, i_769, i_793, i_1000, i_1023, i_1024, i_1200, i_1538, i_1541, i_1545, i_2046, i_2047, i_2049, i_2060, i_2736, i_2737, i_2817, i_2818, i_2819, i_2820, i_2821, i_2831, i_2832, i_3077, i_3085, i_3843, i_3849, i_3851, i_3852, i_4129, i_4353, i_4865, i_5121, i_5122, i_5123, i_6156, i_8192, i_12288, i_16383, i_32000, i_33280, i_49152, i_53247, i_60304, i_64000, i_64512, i_65521, i_65535, i_449838109, nI_add, pk_mul, pk_sub, nI_mm, nI_leI, nI_ltI, nI_eq, pk_div, jrem_N, jshl_N, jshr_N, jushr_N, jmin_N, jmax_N, an_1, an_3, an_7, an_15, an_31, an_63, an_127, an_255, an_1023, an_2047, an_16383, an_65535, nm, pfI, rdI, rdW, rdL, rdI2, rdW2, ldA_N, stA_N, stB_N, stZ_N, pfZ_0, pfZ_1, rtZ_0, rtZ_1, acp_N, Option.bind_some, wp_some_iff, true_and, and_true, false_and, and_false, or_true, true_or, or_false, false_or, not_true_eq_false, not_false_eq_true, if_true, if_false, if_pos, if_neg, lt_sub, le_sub, sub_lt3, sub_le3, h.1]
    exact Or.inr (fm_eq ps _ y2 (Or.inl rfl))
abbrev Wd : Type := (Nat → Int32) × List Pk × List Pk × (Nat → Rq) × Ls
def Pok (ps : List Pk) : Prop := ps.length ≤ 32 ∧ ∀ i, i < ps.length → (pk ps i).1.length ≤ 60 ∧ (∃ r, r < 2 ^ 20 ∧ (pk ps i).2.1 = nI r) ∧ ((pk ps i).2.2 = nI 0 ∨ (pk ps i).2.2 = nI 1)
theorem off_60 {ps : List Pk} (h : ∀ i, i < ps.length → (pk ps i).1.length ≤ 60) : ∀ n, n ≤ ps.length → off ps n ≤ 60 * n
  | 0, _ => Nat.le_refl _
  | n + 1, hn => by
    have h1 := off_60 h n (by omega)
    have h2 := h n (by omega)
    show off ps n + (pk ps n).1.length ≤ _
    omega
def WI (w : Wd) : Prop := Pok w.2.1 ∧ Pok w.2.2.1 ∧ ∃ s a k, s < 256 ∧ a < 256 ∧ k ≤ 32 ∧ w.1 1 = nI s ∧ w.1 2 = nI a ∧ w.1 5 = nI k ∧ s = (a + w.2.1.length) % 256
def WC (μ : Mem) (t : Nat) (w : Wd) : Prop := Tb μ ∧ SC μ w.1 ∧ Shf μ 29 w.2.1 ∧ Shf μ 35 w.2.2.1 ∧ ReqC μ t w.2.2.2.1 ∧ LnC μ w.2.2.2.2
def lz (z : Nat → Int32) (n s : Nat) : Nat → Int32 := upL (upL (if n = 0 then upL z 3 (nI 1) else z) 1 (nI ((s + 1) % 256))) 6 (z 7)
theorem launch_C {μ : Mem} {t : Nat} {z : Nat → Int32} {ps ws : List Pk} {q : Nat → Rq} {s k : Nat} (h1 : SC μ z) (h2 : Shf μ 29 ps) (h3 : Shf μ 35 ws) (h4 : ReqC μ t q) (hz1 : z 1 = nI s) (hs : s < 256) (hz5 : z 5 = nI k) (hk : ps.length < k) (hk2 : k ≤ 32) (hws : 0 < ws.length) (hp : Pok ps) (hw : Pok ws) :
    wp (f137 μ) (fun r => r.2 = nI ps.length ∧ SC r.1 (lz z ps.length s) ∧ Shf r.1 29 (ps ++ [((pk ws 0).1, (pk ws 0).2.1, nI 0)]) ∧ Shf r.1 35 (ws.eraseIdx 0) ∧ ReqC r.1 t (setSt t q (nt (pk ws 0).2.1) (nI 2)) ∧ Fr (fun c _ => 28 ≤ c ∧ c ≤ 40 ∨ c = 43 ∨ c = 44 ∨ c = 24) μ r.1) := by
  obtain ⟨z0, z1, z2, z3, z4, z5, z6, z7, z8, z9, z10⟩ := h1.a
  obtain ⟨hx1, ⟨r0, hr0, hx2⟩, hx3⟩ := hw.2 0 hws
  have ho := off_60 (fun i hi => (hp.2 i hi).1) ps.length (Nat.le_refl _)
  have g1 : gln (29 + 2) = 32 := gl_31
  have g2 : gln (29 + 1) = 1920 := gl_30
  have g3 : gln (43 + 1) = 60 := gl_44
  have hwl := hw.1
  unfold f137
  simp (disch := omega) only [i_0, i_1, i_2, i_3, i_4, i_5, i_6, i_7, i_8, i_9, i_10, i_11, i_12, i_13, i_14, i_15, i_16, i_17, i_18, i_19, i_20, i_21, i_22, i_23, i_24, i_25, i_26, i_27, i_31, i_32, i_40, i_42, i_45, i_48, i_51, i_52, i_56, i_58, i_59, i_60, i_61, i_62, i_63, i_64, i_85, i_90, i_100, i_112, i_120, i_121, i_127, i_128, i_130, i_144, i_171, i_192, i_193, i_197, i_200, i_207, i_235, i_240, i_248, i_252, i_254, i_255, i_256, i_512, i_544, i_768, i_769, i_793, i_1000, i_1023, i_1024, i_1200, i_1538, i_1541, i_1545, i_2046, i_2047, i_2049, i_2060, i_2736, i_2737, i_2817, i_2818, i_2819, i_2820, i_2821, i_2831, i_2832, i_3077, i_3085, i_3843, i_3849, i_3851, i_3852, i_4129, i_4353, i_4865, i_5121, i_5122, i_5123, i_6156, i_8192, i_12288, i_16383, i_32000, i_33280, i_49152, i_53247, i_60304, i_64000, i_64512, i_65521, i_65535, i_449838109, nI_add, pk_mul, pk_sub, nI_mm, nI_leI, nI_ltI, nI_eq, pk_div, jrem_N, jshl_N, jshr_N, jushr_N, jmin_N, jmax_N, an_1, an_3, an_7, an_15, an_31, an_63, an_127, an_255, an_1023, an_2047, an_16383, an_65535, nm, pfI, rdI, rdW, rdL, rdI2, rdW2, ldA_N, stA_N, stB_N, stZ_N, pfZ_0, pfZ_1, rtZ_0, rtZ_1, acp_N, Option.bind_some, wp_some_iff, true_and, and_true, false_and, and_false, or_true, true_or, or_false, false_or, not_true_eq_false, not_false_eq_true, if_true, if_false, if_pos, if_neg, lt_sub, le_sub, sub_lt3, sub_le3, h3.1, h2.1, z5, hz5, tagOf_y h3 hws]
  refine wp_bind (copyOut_C h3 hws (by omega) (by omega)) (fun m1 ⟨b1, e1⟩ => ?_)
  have h1' := h1.fr e1 (fun k _ _ => by omega)
  have h2' := h2.fr e1 (fun c k _ _ => by omega)
  have h3' := h3.fr e1 (fun c k _ _ => by omega)
  have h4' := h4.fr e1 (by omega) (fun c k _ _ => by omega)
  have key : ∀ m2, SC m2 (if ps.length = 0 then upL z 3 (nI 1) else z) → Byt m2 43 (pk ws 0).1 → Shf m2 29 ps → Shf m2 35 ws → ReqC m2 t q → Fr (fun c _ => 28 ≤ c ∧ c ≤ 40 ∨ c = 43 ∨ c = 44 ∨ c = 24) μ m2 → wp (c137_62 (pk ws 0).2.1 m2) (fun r => r.2 = nI ps.length ∧ SC r.1 (lz z ps.length s) ∧ Shf r.1 29 (ps ++ [((pk ws 0).1, (pk ws 0).2.1, nI 0)]) ∧ Shf r.1 35 (ws.eraseIdx 0) ∧ ReqC r.1 t (setSt t q (nt (pk ws 0).2.1) (nI 2)) ∧ Fr (fun c _ => 28 ≤ c ∧ c ≤ 40 ∨ c = 43 ∨ c = 44 ∨ c = 24) μ r.1) := by
    intro m2 y1 y2 y3 y4 y5 y6
    unfold c137_62
    rw [y2.1]
    simp (disch := omega) only [i_0, i_1, i_2, i_3, i_4, i_5, i_6, i_7, i_8, i_9, i_10, i_11, i_12, i_13, i_14, i_15, i_16, i_17, i_18, i_19, i_20, i_21, i_22, i_23, i_24, i_25, i_26, i_27, i_31, i_32, i_40, i_42, i_45, i_48, i_51, i_52, i_56, i_58, i_59, i_60, i_61, i_62, i_63, i_64, i_85, i_90, i_100, i_112, i_120, i_121, i_127, i_128, i_130, i_144, i_171, i_192, i_193, i_197, i_200, i_207, i_235, i_240, i_248, i_252, i_254, i_255, i_256, i_512, i_544, i_768, i_769, i_793, i_1000, i_1023, i_1024, i_1200, i_1538, i_1541, i_1545, i_2046, i_2047, i_2049, i_2060, i_2736, i_2737, i_2817, i_2818, i_2819, i_2820, i_2821, i_2831, i_2832, i_3077, i_3085, i_3843, i_3849, i_3851, i_3852, i_4129, i_4353, i_4865, i_5121, i_5122, i_5123, i_6156, i_8192, i_12288, i_16383, i_32000, i_33280, i_49152, i_53247, i_60304, i_64000, i_64512, i_65521, i_65535, i_449838109, nI_add, pk_mul, pk_sub, nI_mm, nI_leI, nI_ltI, nI_eq, pk_div, jrem_N, jshl_N, jshr_N, jushr_N, jmin_N, jmax_N, an_1, an_3, an_7, an_15, an_31, an_63, an_127, an_255, an_1023, an_2047, an_16383, an_65535, nm, pfI, rdI, rdW, rdL, rdI2, rdW2, ldA_N, stA_N, stB_N, stZ_N, pfZ_0, pfZ_1, rtZ_0, rtZ_1, acp_N, Option.bind_some, wp_some_iff, true_and, and_true, false_and, and_false, or_true, true_or, or_false, false_or, not_true_eq_false, not_false_eq_true, if_true, if_false, if_pos, if_neg, lt_sub, le_sub, sub_lt3, sub_le3]
    refine wp_bind (shadd_C (xs := (pk ws 0).1) (b := 0) y3 y2 (by omega) (by rw [List.drop_zero, List.take_of_length_le (Nat.le_refl _)]) (by omega)) (fun r ⟨h5, e5⟩ => ?_)
    obtain ⟨m3, a3⟩ := r
    dsimp only at h5 e5 ⊢
    rw [if_pos ⟨by omega, by omega⟩] at h5
    obtain ⟨rfl, h5⟩ := h5
    simp (disch := omega) only [i_0, i_1, i_2, i_3, i_4, i_5, i_6, i_7, i_8, i_9, i_10, i_11, i_12, i_13, i_14, i_15, i_16, i_17, i_18, i_19, i_20, i_21, i_22, i_23, i_24, i_25, i_26, i_27, i_31, i_32, i_40, i_42, i_45, i_48, i_51, i_52, i_56, i_58, i_59, i_60, i_61, i_62, i_63, i_64, i_85, i_90, i_100, i_112, i_120, i_121, i_127, i_128, i_130, i_144, i_171, i_192, i_193, i_197, i_200, i_207, i_235, i_240, i_248, i_252, i_254, i_255, i_256, i_512, i_544, i_768, i_769, i_793, i_1000, i_1023, i_1024, i_1200, i_1538, i_1541, i_1545, i_2046, i_2047, i_2049, i_2060, i_2736, i_2737, i_2817, i_2818, i_2819, i_2820, i_2821, i_2831, i_2832, i_3077, i_3085, i_3843, i_3849, i_3851, i_3852, i_4129, i_4353, i_4865, i_5121, i_5122, i_5123, i_6156, i_8192, i_12288, i_16383, i_32000, i_33280, i_49152, i_53247, i_60304, i_64000, i_64512, i_65521, i_65535, i_449838109, nI_add, pk_mul, pk_sub, nI_mm, nI_leI, nI_ltI, nI_eq, pk_div, jrem_N, jshl_N, jshr_N, jushr_N, jmin_N, jmax_N, an_1, an_3, an_7, an_15, an_31, an_63, an_127, an_255, an_1023, an_2047, an_16383, an_65535, nm, pfI, rdI, rdW, rdL, rdI2, rdW2, ldA_N, stA_N, stB_N, stZ_N, pfZ_0, pfZ_1, rtZ_0, rtZ_1, acp_N, Option.bind_some, wp_some_iff, true_and, and_true, false_and, and_false, or_true, true_or, or_false, false_or, not_true_eq_false, not_false_eq_true, if_true, if_false, if_pos, if_neg, lt_sub, le_sub, sub_lt3, sub_le3]
    refine wp_bind (shrem_C (y4.fr e5 (fun c k _ _ => by omega)) hws) (fun m4 ⟨h6, e6⟩ => ?_)
    have y1' := (y1.fr e5 (fun k _ _ => by omega)).fr e6 (fun k _ _ => by omega)
    obtain ⟨w0, w1, w2, w3, w4, w5, w6, w7, w8, w9, w10⟩ := y1'.a
    have v1 : (if ps.length = 0 then upL z 3 (nI 1) else z) 1 = nI s := by
      by_cases e : ps.length = 0
      · rw [if_pos e, upL_o (by decide)]; exact hz1
      · rw [if_neg e]; exact hz1
    have v7 : (if ps.length = 0 then upL z 3 (nI 1) else z) 7 = z 7 := by
      by_cases e : ps.length = 0
      · rw [if_pos e, upL_o (by decide)]
      · rw [if_neg e]
    simp (disch := omega) only [i_0, i_1, i_2, i_3, i_4, i_5, i_6, i_7, i_8, i_9, i_10, i_11, i_12, i_13, i_14, i_15, i_16, i_17, i_18, i_19, i_20, i_21, i_22, i_23, i_24, i_25, i_26, i_27, i_31, i_32, i_40, i_42, i_45, i_48, i_51, i_52, i_56, i_58, i_59, i_60, i_61, i_62, i_63, i_64, i_85, i_90, i_100, i_112, i_120, i_121, i_127, i_128, i_130, i_144, i_171, i_192, i_193, i_197, i_200, i_207, i_235, i_240, i_248, i_252, i_254, i_255, i_256, i_512, i_544, i_768, i_769, i_793, i_1000, i_1023, i_1024, i_1200, i_1538, i_1541, i_1545, i_2046, i_2047, i_2049, i_2060, i_2736, i_2737, i_2817, i_2818, i_2819, i_2820, i_2821, i_2831, i_2832, i_3077, i_3085, i_3843, i_3849, i_3851, i_3852, i_4129, i_4353, i_4865, i_5121, i_5122, i_5123, i_6156, i_8192, i_12288, i_16383, i_32000, i_33280, i_49152, i_53247, i_60304, i_64000, i_64512, i_65521, i_65535, i_449838109, nI_add, pk_mul, pk_sub, nI_mm, nI_leI, nI_ltI, nI_eq, pk_div, jrem_N, jshl_N, jshr_N, jushr_N, jmin_N, jmax_N, an_1, an_3, an_7, an_15, an_31, an_63, an_127, an_255, an_1023, an_2047, an_16383, an_65535, nm, pfI, rdI, rdW, rdL, rdI2, rdW2, ldA_N, stA_N, stB_N, stZ_N, pfZ_0, pfZ_1, rtZ_0, rtZ_1, acp_N, Option.bind_some, wp_some_iff, true_and, and_true, false_and, and_false, or_true, true_or, or_false, false_or, not_true_eq_false, not_false_eq_true, if_true, if_false, if_pos, if_neg, lt_sub, le_sub, sub_lt3, sub_le3, w1, v1]
    rw [hx2]
    refine wp_bind (setSt_C (((y5.fr e5 (by omega) (fun c k _ _ => by omega)).fr e6 (by omega) (fun c k _ _ => by omega)).set_o (c := 28) (k := 9) (by omega)) (by omega)) (fun m5 ⟨h7, e7⟩ => ?_)
    have u7 : m5.1 28 15 = z 7 := by
      rw [e7.1 _ _ (by omega)]
      simp (disch := omega) only [i_0, i_1, i_2, i_3, i_4, i_5, i_6, i_7, i_8, i_9, i_10, i_11, i_12, i_13, i_14, i_15, i_16, i_17, i_18, i_19, i_20, i_21, i_22, i_23, i_24, i_25, i_26, i_27, i_31, i_32, i_40, i_42, i_45, i_48, i_51, i_52, i_56, i_58, i_59, i_60, i_61, i_62, i_63, i_64, i_85, i_90, i_100, i_112, i_120, i_121, i_127, i_128, i_130, i_144, i_171, i_192, i_193, i_197, i_200, i_207, i_235, i_240, i_248, i_252, i_254, i_255, i_256, i_512, i_544, i_768, i_769, i_793, i_1000, i_1023, i_1024, i_1200, i_1538, i_1541, i_1545, i_2046, i_2047, i_2049, i_2060, i_2736, i_2737, i_2817, i_2818, i_2819, i_2820, i_2821, i_2831, i_2832, i_3077, i_3085, i_3843, i_3849, i_3851, i_3852, i_4129, i_4353, i_4865, i_5121, i_5122, i_5123, i_6156, i_8192, i_12288, i_16383, i_32000, i_33280, i_49152, i_53247, i_60304, i_64000, i_64512, i_65521, i_65535, i_449838109, nI_add, pk_mul, pk_sub, nI_mm, nI_leI, nI_ltI, nI_eq, pk_div, jrem_N, jshl_N, jshr_N, jushr_N, jmin_N, jmax_N, an_1, an_3, an_7, an_15, an_31, an_63, an_127, an_255, an_1023, an_2047, an_16383, an_65535, nm, pfI, rdI, rdW, rdL, rdI2, rdW2, ldA_N, stA_N, stB_N, stZ_N, pfZ_0, pfZ_1, rtZ_0, rtZ_1, acp_N, Option.bind_some, wp_some_iff, true_and, and_true, false_and, and_false, or_true, true_or, or_false, false_or, not_true_eq_false, not_false_eq_true, if_true, if_false, if_pos, if_neg, lt_sub, le_sub, sub_lt3, sub_le3, w7, v7]
    have u5 : m5.1 29 5 = nI (ps.length + 1) := by
      rw [e7.1 _ _ (by omega)]
      simp (disch := omega) only [i_0, i_1, i_2, i_3, i_4, i_5, i_6, i_7, i_8, i_9, i_10, i_11, i_12, i_13, i_14, i_15, i_16, i_17, i_18, i_19, i_20, i_21, i_22, i_23, i_24, i_25, i_26, i_27, i_31, i_32, i_40, i_42, i_45, i_48, i_51, i_52, i_56, i_58, i_59, i_60, i_61, i_62, i_63, i_64, i_85, i_90, i_100, i_112, i_120, i_121, i_127, i_128, i_130, i_144, i_171, i_192, i_193, i_197, i_200, i_207, i_235, i_240, i_248, i_252, i_254, i_255, i_256, i_512, i_544, i_768, i_769, i_793, i_1000, i_1023, i_1024, i_1200, i_1538, i_1541, i_1545, i_2046, i_2047, i_2049, i_2060, i_2736, i_2737, i_2817, i_2818, i_2819, i_2820, i_2821, i_2831, i_2832, i_3077, i_3085, i_3843, i_3849, i_3851, i_3852, i_4129, i_4353, i_4865, i_5121, i_5122, i_5123, i_6156, i_8192, i_12288, i_16383, i_32000, i_33280, i_49152, i_53247, i_60304, i_64000, i_64512, i_65521, i_65535, i_449838109, nI_add, pk_mul, pk_sub, nI_mm, nI_leI, nI_ltI, nI_eq, pk_div, jrem_N, jshl_N, jshr_N, jushr_N, jmin_N, jmax_N, an_1, an_3, an_7, an_15, an_31, an_63, an_127, an_255, an_1023, an_2047, an_16383, an_65535, nm, pfI, rdI, rdW, rdL, rdI2, rdW2, ldA_N, stA_N, stB_N, stZ_N, pfZ_0, pfZ_1, rtZ_0, rtZ_1, acp_N, Option.bind_some, wp_some_iff, true_and, and_true, false_and, and_false, or_true, true_or, or_false, false_or, not_true_eq_false, not_false_eq_true, if_true, if_false, if_pos, if_neg, lt_sub, le_sub, sub_lt3, sub_le3]
      rw [e6.1 _ _ (by omega), h5.1, List.length_append]
      rfl
    simp (disch := omega) only [i_0, i_1, i_2, i_3, i_4, i_5, i_6, i_7, i_8, i_9, i_10, i_11, i_12, i_13, i_14, i_15, i_16, i_17, i_18, i_19, i_20, i_21, i_22, i_23, i_24, i_25, i_26, i_27, i_31, i_32, i_40, i_42, i_45, i_48, i_51, i_52, i_56, i_58, i_59, i_60, i_61, i_62, i_63, i_64, i_85, i_90, i_100, i_112, i_120, i_121, i_127, i_128, i_130, i_144, i_171, i_192, i_193, i_197, i_200, i_207, i_235, i_240, i_248, i_252, i_254, i_255, i_256, i_512, i_544, i_768, i_769, i_793, i_1000, i_1023, i_1024, i_1200, i_1538, i_1541, i_1545, i_2046, i_2047, i_2049, i_2060, i_2736, i_2737, i_2817, i_2818, i_2819, i_2820, i_2821, i_2831, i_2832, i_3077, i_3085, i_3843, i_3849, i_3851, i_3852, i_4129, i_4353, i_4865, i_5121, i_5122, i_5123, i_6156, i_8192, i_12288, i_16383, i_32000, i_33280, i_49152, i_53247, i_60304, i_64000, i_64512, i_65521, i_65535, i_449838109, nI_add, pk_mul, pk_sub, nI_mm, nI_leI, nI_ltI, nI_eq, pk_div, jrem_N, jshl_N, jshr_N, jushr_N, jmin_N, jmax_N, an_1, an_3, an_7, an_15, an_31, an_63, an_127, an_255, an_1023, an_2047, an_16383, an_65535, nm, pfI, rdI, rdW, rdL, rdI2, rdW2, ldA_N, stA_N, stB_N, stZ_N, pfZ_0, pfZ_1, rtZ_0, rtZ_1, acp_N, Option.bind_some, wp_some_iff, true_and, and_true, false_and, and_false, or_true, true_or, or_false, false_or, not_true_eq_false, not_false_eq_true, if_true, if_false, if_pos, if_neg, lt_sub, le_sub, sub_lt3, sub_le3, u7, u5]
    refine ⟨rfl, ?_, ?_, ?_, ?_, ?_⟩
    · exact ((y1'.up (k := 9) rfl).fr e7 (fun k _ _ => by omega)).up rfl
    · rw [← hx2]
      exact (((h5.fr e6 (fun c k _ _ => by omega)).set_o (c := 28) (by omega)).fr e7 (fun c k _ _ => by omega)).set_o (c := 28) (by omega)
    · exact ((h6.set_o (c := 28) (by omega)).fr e7 (fun c k _ _ => by omega)).set_o (c := 28) (by omega)
    · rw [nt_nI (by omega)]
      exact h7.set_o (by omega)
    · exact ((((y6.tr e5 (fun _ _ q => q) (by intro c k h; omega)).tr e6 (fun _ _ q => q) (by intro c k h; omega)).pI (by omega)).tr e7 (fun _ _ q => q) (by intro c k h; omega)).pI (by omega)
  have e1' : Fr (fun c _ => 28 ≤ c ∧ c ≤ 40 ∨ c = 43 ∨ c = 44 ∨ c = 24) μ m1 := e1.mono (by intro c k h; omega)
  simp (disch := omega) only [i_0, i_1, i_2, i_3, i_4, i_5, i_6, i_7, i_8, i_9, i_10, i_11, i_12, i_13, i_14, i_15, i_16, i_17, i_18, i_19, i_20, i_21, i_22, i_23, i_24, i_25, i_26, i_27, i_31, i_32, i_40, i_42, i_45, i_48, i_51, i_52, i_56, i_58, i_59, i_60, i_61, i_62, i_63, i_64, i_85, i_90, i_100, i_112, i_120, i_121, i_127, i_128, i_130, i_144, i_171, i_192, i_193, i_197, i_200, i_207, i_235, i_240, i_248, i_252, i_254, i_255, i_256, i_512, i_544, i_768, i_769, i_793, i_1000, i_1023, i_1024, i_1200, i_1538, i_1541, i_1545, i_2046, i_2047, i_2049, i_2060, i_2736, i_2737, i_2817, i_2818, i_2819, i_2820, i_2821, i_2831, i_2832, i_3077, i_3085, i_3843, i_3849, i_3851, i_3852, i_4129, i_4353, i_4865, i_5121, i_5122, i_5123, i_6156, i_8192, i_12288, i_16383, i_32000, i_33280, i_49152, i_53247, i_60304, i_64000, i_64512, i_65521, i_65535, i_449838109, nI_add, pk_mul, pk_sub, nI_mm, nI_leI, nI_ltI, nI_eq, pk_div, jrem_N, jshl_N, jshr_N, jushr_N, jmin_N, jmax_N, an_1, an_3, an_7, an_15, an_31, an_63, an_127, an_255, an_1023, an_2047, an_16383, an_65535, nm, pfI, rdI, rdW, rdL, rdI2, rdW2, ldA_N, stA_N, stB_N, stZ_N, pfZ_0, pfZ_1, rtZ_0, rtZ_1, acp_N, Option.bind_some, wp_some_iff, true_and, and_true, false_and, and_false, or_true, true_or, or_false, false_or, not_true_eq_false, not_false_eq_true, if_true, if_false, if_pos, if_neg, lt_sub, le_sub, sub_lt3, sub_le3, h2'.1]
  by_cases e : ps.length = 0
  · rw [if_pos (by rw [e])]
    refine key _ ?_ (b1.set_o (by omega)) (h2'.set_o (by omega)) (h3'.set_o (by omega)) (h4'.set_o (by omega)) (e1'.pI (by omega))
    rw [if_pos e]
    exact h1'.up rfl
  · rw [if_neg e]
    refine key _ ?_ b1 h2' h3' h4' e1'
    rw [if_neg e]
    exact h1'
/-! the step of GO -/
def stp (t : Nat) (w : Wd) : Option Wd :=
  if fm w.2.1 < w.2.1.length then
    some (w.1, w.2.1.set (fm w.2.1) ((pk w.2.1 (fm w.2.1)).1, (pk w.2.1 (fm w.2.1)).2.1, nI 0), w.2.2.1, w.2.2.2.1, txL w.2.2.2.2 0 (unitL (frmL 0 (nt (w.1 2) + fm w.2.1) (pk w.2.1 (fm w.2.1)).1)))
  else if 0 < w.2.2.1.length ∧ w.2.1.length < nt (w.1 5) then
    some (lz w.1 w.2.1.length (nt (w.1 1)), w.2.1 ++ [((pk w.2.2.1 0).1, (pk w.2.2.1 0).2.1, nI 0)], w.2.2.1.eraseIdx 0, setSt t w.2.2.2.1 (nt (pk w.2.2.1 0).2.1) (nI 2), txL w.2.2.2.2 0 (unitL (frmL 0 (nt (w.1 1)) (pk w.2.2.1 0).1)))
  else none
def goF (t : Nat) : Nat → Wd → Wd
  | 0, w => w
  | n + 1, w => match stp t w with
    | none => w
    | some w' => goF t n w'
theorem goF_n {t n : Nat} {w : Wd} (h : stp t w = none) : goF t n w = w := by
  cases n with
  | zero => rfl
  | succ n => unfold goF; rw [h]
theorem goF_s {t n : Nat} {w w' : Wd} (h : stp t w = some w') : goF t (n + 1) w = goF t n w' := by
  rw [goF, h]
theorem lz_0 {z : Nat → Int32} {n s : Nat} : lz z n s 0 = z 0 := by
  unfold lz
  rw [upL_o (by decide), upL_o (by decide)]
  by_cases e : n = 0
  · rw [if_pos e, upL_o (by decide)]
  · rw [if_neg e]
theorem lz_1 {z : Nat → Int32} {n s : Nat} : lz z n s 1 = nI ((s + 1) % 256) := by
  unfold lz
  rw [upL_o (by decide), upL_s]
theorem lz_o {z : Nat → Int32} {n s i : Nat} (h : i ≠ 1 ∧ i ≠ 3 ∧ i ≠ 6) : lz z n s i = z i := by
  unfold lz
  rw [upL_o (by omega), upL_o (by omega)]
  by_cases e : n = 0
  · rw [if_pos e, upL_o (by omega)]
  · rw [if_neg e]
theorem Pok.set {ps : List Pk} {i : Nat} {x : Int32} (h : Pok ps) (hi : i < ps.length) (hx : x = nI 0 ∨ x = nI 1) : Pok (ps.set i ((pk ps i).1, (pk ps i).2.1, x)) := by
  refine ⟨by rw [List.length_set]; exact h.1, fun j hj => ?_⟩
  rw [List.length_set] at hj
  rw [pk_set hi]
  by_cases e : j = i
  · rw [if_pos e]
    exact ⟨(h.2 i hi).1, (h.2 i hi).2.1, hx⟩
  · rw [if_neg e]
    exact h.2 j hj
theorem Pok.app {ps : List Pk} {p : Pk} (h : Pok ps) (hl : ps.length < 32) (h1 : p.1.length ≤ 60) (h2 : ∃ r, r < 2 ^ 20 ∧ p.2.1 = nI r) (h3 : p.2.2 = nI 0 ∨ p.2.2 = nI 1) : Pok (ps ++ [p]) := by
  refine ⟨by rw [List.length_append]; exact hl, fun j hj => ?_⟩
  rw [List.length_append] at hj
  have : j < ps.length + 1 := hj
  rw [pk_app]
  by_cases e : j < ps.length
  · rw [if_pos e]; exact h.2 j e
  · rw [if_neg e, if_pos (by omega)]
    exact ⟨h1, h2, h3⟩
theorem era_len {ps : List Pk} (h : 0 < ps.length) : (ps.eraseIdx 0).length = ps.length - 1 := by
  rw [List.length_eraseIdx, if_pos h]
theorem Pok.era {ps : List Pk} (h : Pok ps) (h0 : 0 < ps.length) : Pok (ps.eraseIdx 0) := by
  have hl := era_len h0
  refine ⟨by have := h.1; omega, fun j hj => ?_⟩
  rw [pk_era, if_neg (by omega)]
  exact h.2 (j + 1) (by omega)
theorem stp_0 {t : Nat} {w w' : Wd} (h : stp t w = some w') : w'.1 0 = w.1 0 := by
  unfold stp at h
  by_cases q1 : fm w.2.1 < w.2.1.length
  · rw [if_pos q1] at h
    cases h
    rfl
  · rw [if_neg q1] at h
    by_cases q2 : 0 < w.2.2.1.length ∧ w.2.1.length < nt (w.1 5)
    · rw [if_pos q2] at h
      cases h
      exact lz_0 (s := nt (w.1 1))
    · rw [if_neg q2] at h
      cases h
theorem stp_I {t : Nat} {w w' : Wd} (hi : WI w) (h : stp t w = some w') : WI w' := by
  obtain ⟨i1, i2, s, a, k, hs, ha, hk, hz1, hz2, hz5, hsa⟩ := hi
  unfold stp at h
  by_cases q1 : fm w.2.1 < w.2.1.length
  · rw [if_pos q1] at h
    cases h
    exact ⟨i1.set q1 (Or.inl rfl), i2, s, a, k, hs, ha, hk, hz1, hz2, hz5, by rw [List.length_set]; exact hsa⟩
  · rw [if_neg q1] at h
    by_cases q2 : 0 < w.2.2.1.length ∧ w.2.1.length < nt (w.1 5)
    · rw [if_pos q2] at h
      cases h
      obtain ⟨q2, q3⟩ := q2
      rw [hz5, nt_nI (by omega)] at q3
      have hx := i2.2 0 q2
      refine ⟨i1.app (by omega) hx.1 hx.2.1 (Or.inl rfl), i2.era q2, (s + 1) % 256, a, k, by omega, ha, hk, ?_, ?_, ?_, ?_⟩
      · show lz w.1 w.2.1.length (nt (w.1 1)) 1 = _
        rw [lz_1, hz1, nt_nI (by omega)]
      · show lz w.1 w.2.1.length (nt (w.1 1)) 2 = _
        rw [lz_o (by decide)]; exact hz2
      · show lz w.1 w.2.1.length (nt (w.1 1)) 5 = _
        rw [lz_o (by decide)]; exact hz5
      · show _ = (a + (w.2.1 ++ [_]).length) % 256
        rw [List.length_append, hsa]
        show _ = (a + (w.2.1.length + 1)) % 256
        omega
    · rw [if_neg q2] at h
      cases h
theorem goF_0 {t : Nat} : ∀ {n : Nat} {w : Wd}, (goF t n w).1 0 = w.1 0
  | 0, w => rfl
  | n + 1, w => by
    cases h : stp t w with
    | none => rw [goF_n h]
    | some w' => rw [goF_s h, goF_0, stp_0 h]
theorem goF_I {t : Nat} : ∀ {n : Nat} {w : Wd}, WI w → WI (goF t n w)
  | 0, w, h => h
  | n + 1, w, h => by
    cases e : stp t w with
    | none => rw [goF_n e]; exact h
    | some w' => rw [goF_s e]; exact goF_I (stp_I h e)
def goW (t : Nat) (w : Wd) : Wd := if w.1 0 = nI 1 ∨ w.1 0 = nI 2 then goF t 64 w else w
theorem goW_I {t : Nat} {w : Wd} (h : WI w) : WI (goW t w) := by
  unfold goW
  by_cases e : w.1 0 = nI 1 ∨ w.1 0 = nI 2
  · rw [if_pos e]; exact goF_I h
  · rw [if_neg e]; exact h
theorem goW_0 {t : Nat} {w : Wd} : (goW t w).1 0 = w.1 0 := by
  unfold goW
  by_cases e : w.1 0 = nI 1 ∨ w.1 0 = nI 2
  · rw [if_pos e]; exact goF_0
  · rw [if_neg e]
theorem frm_mod {fl num : Nat} {bs : List Nat} : frmL fl (num % 256) bs = frmL fl num bs := by
  rw [frmL, frmL, Nat.mod_mod]
abbrev FG : Nat → Nat → Prop := fun c _ => 28 ≤ c ∧ c ≤ 40 ∨ 43 ≤ c ∧ c ≤ 48 ∨ 5 ≤ c ∧ c ≤ 6 ∨ c = 24
theorem send_C {μ : Mem} {t i : Nat} {w : Wd} (hw : WC μ t w) (hi : WI w) (hl : i < w.2.1.length) (kl : Int32 → Mem → Option Mem) (v : Nat) (hv : v < 64) (Q : Mem → Prop) (hk : ∀ m, WC m t (w.1, w.2.1.set i ((pk w.2.1 i).1, (pk w.2.1 i).2.1, nI 0), w.2.2.1, w.2.2.2.1, txL w.2.2.2.2 0 (unitL (frmL 0 (nt (w.1 2) + i) (pk w.2.1 i).1))) → Fr FG μ m → wp (kl (nI (v + 1)) m) Q) : wp (c135_38 kl (nI v) (nI i) μ) Q := by
  obtain ⟨i1, i2, s, a, k, hs, ha, hk2, hz1, hz2, hz5, hsa⟩ := hi
  obtain ⟨w1, w2, w3, w4, w5, w6⟩ := hw
  have hil := i1.1
  have g3 : gln (43 + 1) = 60 := gl_44
  have hx := i1.2 i hl
  unfold c135_38
  simp (disch := omega) only [i_0, i_1, i_2, i_3, i_4, i_5, i_6, i_7, i_8, i_9, i_10, i_11, i_12, i_13, i_14, i_15, i_16, i_17, i_18, i_19, i_20, i_21, i_22, i_23, i_24, i_25, i_26, i_27, i_31, i_32, i_40, i_42, i_45, i_48, i_51, i_52, i_56, i_58, i_59, i_60, i_61, i_62, i_63, i_64, i_85, i_90, i_100, i_112, i_120, i_121, i_127, i_128, i_130, i_144, i_171, i_192, i_193, i_197, i_200, i_207, i_235, i_240, i_248, i_252, i_254, i_255, i_256, i_512, i_544, i_768, i_769, i_793, i_1000, i_1023, i_1024, i_1200, i_1538, i_1541, i_1545, i_2046, i_2047, i_2049, i_2060, i_2736, i_2737, i_2817, i_2818, i_2819, i_2820, i_2821, i_2831, i_2832, i_3077, i_3085, i_3843, i_3849, i_3851, i_3852, i_4129, i_4353, i_4865, i_5121, i_5122, i_5123, i_6156, i_8192, i_12288, i_16383, i_32000, i_33280, i_49152, i_53247, i_60304, i_64000, i_64512, i_65521, i_65535, i_449838109, nI_add, pk_mul, pk_sub, nI_mm, nI_leI, nI_ltI, nI_eq, pk_div, jrem_N, jshl_N, jshr_N, jushr_N, jmin_N, jmax_N, an_1, an_3, an_7, an_15, an_31, an_63, an_127, an_255, an_1023, an_2047, an_16383, an_65535, nm, pfI, rdI, rdW, rdL, rdI2, rdW2, ldA_N, stA_N, stB_N, stZ_N, pfZ_0, pfZ_1, rtZ_0, rtZ_1, acp_N, Option.bind_some, wp_some_iff, true_and, and_true, false_and, and_false, or_true, true_or, or_false, false_or, not_true_eq_false, not_false_eq_true, if_true, if_false, if_pos, if_neg, lt_sub, le_sub, sub_lt3, sub_le3]
  refine wp_bind (setMark_C w3 hl) (fun m1 ⟨h1, e1⟩ => ?_)
  have hps : pk (w.2.1.set i ((pk w.2.1 i).1, (pk w.2.1 i).2.1, nI 0)) i = ((pk w.2.1 i).1, (pk w.2.1 i).2.1, nI 0) := by rw [pk_set hl, if_pos rfl]
  have hl' : i < (w.2.1.set i ((pk w.2.1 i).1, (pk w.2.1 i).2.1, nI 0)).length := by rw [List.length_set]; exact hl
  refine wp_bind (copyOut_C h1 hl' (by omega) (by rw [hps]; show (pk w.2.1 i).1.length ≤ _; omega)) (fun m2 ⟨h2, e2⟩ => ?_)
  rw [hps] at h2
  have f2 : Fr FG μ m2 := e1.tr e2 (by intro c k h; omega) (by intro c k h; omega)
  have c2 := (w2.fr e1 (fun k _ _ => by omega)).fr e2 (fun k _ _ => by omega)
  obtain ⟨z0, z1, z2, z3, z4, z5, z6, z7, z8, z9, z10⟩ := c2.a
  simp (disch := omega) only [i_0, i_1, i_2, i_3, i_4, i_5, i_6, i_7, i_8, i_9, i_10, i_11, i_12, i_13, i_14, i_15, i_16, i_17, i_18, i_19, i_20, i_21, i_22, i_23, i_24, i_25, i_26, i_27, i_31, i_32, i_40, i_42, i_45, i_48, i_51, i_52, i_56, i_58, i_59, i_60, i_61, i_62, i_63, i_64, i_85, i_90, i_100, i_112, i_120, i_121, i_127, i_128, i_130, i_144, i_171, i_192, i_193, i_197, i_200, i_207, i_235, i_240, i_248, i_252, i_254, i_255, i_256, i_512, i_544, i_768, i_769, i_793, i_1000, i_1023, i_1024, i_1200, i_1538, i_1541, i_1545, i_2046, i_2047, i_2049, i_2060, i_2736, i_2737, i_2817, i_2818, i_2819, i_2820, i_2821, i_2831, i_2832, i_3077, i_3085, i_3843, i_3849, i_3851, i_3852, i_4129, i_4353, i_4865, i_5121, i_5122, i_5123, i_6156, i_8192, i_12288, i_16383, i_32000, i_33280, i_49152, i_53247, i_60304, i_64000, i_64512, i_65521, i_65535, i_449838109, nI_add, pk_mul, pk_sub, nI_mm, nI_leI, nI_ltI, nI_eq, pk_div, jrem_N, jshl_N, jshr_N, jushr_N, jmin_N, jmax_N, an_1, an_3, an_7, an_15, an_31, an_63, an_127, an_255, an_1023, an_2047, an_16383, an_65535, nm, pfI, rdI, rdW, rdL, rdI2, rdW2, ldA_N, stA_N, stB_N, stZ_N, pfZ_0, pfZ_1, rtZ_0, rtZ_1, acp_N, Option.bind_some, wp_some_iff, true_and, and_true, false_and, and_false, or_true, true_or, or_false, false_or, not_true_eq_false, not_false_eq_true, if_true, if_false, if_pos, if_neg, lt_sub, le_sub, sub_lt3, sub_le3, z2, hz2]
  have l2 := (w6.fr e1 (fun c k _ _ => by omega)).fr e2 (fun c k _ _ => by omega)
  refine wp_bind (tx_C (fl := 0) (num := (a + i) % 256) ((w1.fr e1 (fun k => by omega)).fr e2 (fun k => by omega)) l2 h2 (by omega) hx.1 (Or.inl rfl) (by omega)) (fun m3 ⟨h3, e3⟩ => ?_)
  refine hk m3 ⟨((w1.fr e1 (fun k => by omega)).fr e2 (fun k => by omega)).fr e3 (fun k => by omega), c2.fr e3 (fun k _ _ => by omega), (h1.fr e2 (fun c k _ _ => by omega)).fr e3 (fun c k _ _ => by omega), ((w4.fr e1 (fun c k _ _ => by omega)).fr e2 (fun c k _ _ => by omega)).fr e3 (fun c k _ _ => by omega), ((w5.fr e1 (by omega) (fun c k _ _ => by omega)).fr e2 (by omega) (fun c k _ _ => by omega)).fr e3 (by omega) (fun c k _ _ => by omega), ?_⟩ (f2.tr e3 (fun _ _ q => q) (by intro c k h; omega))
  rw [frm_mod] at h3
  rw [hz2, nt_nI (by omega)]
  exact h3
theorem set_self {ps : List Pk} {p : Pk} (h : p.2.2 = nI 0) : (ps ++ [p]).set ps.length (p.1, p.2.1, nI 0) = ps ++ [p] := by
  rw [List.set_append_right _ _ (Nat.le_refl _), Nat.sub_self]
  congr 1
  rw [← h]
  rfl
theorem go_C {μ : Mem} {t : Nat} {w : Wd} (hw : WC μ t w) (hi : WI w) : wp (f135 μ) (fun m => WC m t (goW t w) ∧ Fr FG μ m) := by
  unfold f135 l135_2
  simp (disch := omega) only [i_0, i_1, i_2, i_3, i_4, i_5, i_6, i_7, i_8, i_9, i_10, i_11, i_12, i_13, i_14, i_15, i_16, i_17, i_18, i_19, i_20, i_21, i_22, i_23, i_24, i_25, i_26, i_27, i_31, i_32, i_40, i_42, i_45, i_48, i_51, i_52, i_56, i_58, i_59, i_60, i_61, i_62, i_63, i_64, i_85, i_90, i_100, i_112, i_120, i_121, i_127, i_128, i_130, i_144, i_171, i_192, i_193, i_197, i_200, i_207, i_235, i_240, i_248, i_252, i_254, i_255, i_256, i_512, i_544, i_768, i_769, i_793, i_1000, i_1023, i_1024, i_1200, i_1538, i_1541, i_1545, i_2046, i_2047, i_2049, i_2060, i_2736, i_2737, i_2817, i_2818, i_2819, i_2820, i_2821, i_2831, i_2832, i_3077, i_3085, i_3843, i_3849, i_3851, i_3852, i_4129, i_4353, i_4865, i_5121, i_5122, i_5123, i_6156, i_8192, i_12288, i_16383, i_32000, i_33280, i_49152, i_53247, i_60304, i_64000, i_64512, i_65521, i_65535, i_449838109, nI_add, pk_mul, pk_sub, nI_mm, nI_leI, nI_ltI, nI_eq, pk_div, jrem_N, jshl_N, jshr_N, jushr_N, jmin_N, jmax_N, an_1, an_3, an_7, an_15, an_31, an_63, an_127, an_255, an_1023, an_2047, an_16383, an_65535, nm, pfI, rdI, rdW, rdL, rdI2, rdW2, ldA_N, stA_N, stB_N, stZ_N, pfZ_0, pfZ_1, rtZ_0, rtZ_1, acp_N, Option.bind_some, wp_some_iff, true_and, and_true, false_and, and_false, or_true, true_or, or_false, false_or, not_true_eq_false, not_false_eq_true, if_true, if_false, if_pos, if_neg, lt_sub, le_sub, sub_lt3, sub_le3]
  by_cases q0 : w.1 0 = nI 1 ∨ w.1 0 = nI 2
  · rw [goW, if_pos q0]
    refine wp_for (fun i m => (nI i, m)) (fun i m => ∃ w', WC m t w' ∧ WI w' ∧ w'.1 0 = w.1 0 ∧ goF t (64 - i) w' = goF t 64 w ∧ Fr FG μ m) 64 (by omega) μ _ rfl ⟨w, hw, hi, rfl, rfl, Fr.rf⟩ (fun self i m hi2 ⟨w', y1, y2, y3, y4, y5⟩ hk => ?_) (fun self m ⟨w', y1, y2, y3, y4, y5⟩ => ?_)
    · unfold b135_2
      obtain ⟨z0, z1, z2, z3, z4, z5, z6, z7, z8, z9, z10⟩ := y1.2.1.a
      have key : wp (c135_24 (fun v1 μ => self (v1, μ)) (nI i) m) (fun m => WC m t (goF t 64 w) ∧ Fr FG μ m) := by
        unfold c135_24
        refine wp_bind (fm_C y1.2.2.1) (fun r ⟨r1, r2⟩ => ?_)
        obtain ⟨m', a'⟩ := r
        dsimp only at r1 r2 ⊢
        subst r1
        obtain ⟨i1, i2, s, a, k, hs, ha, hk2, hz1, hz2, hz5, hsa⟩ := y2
        have hl1 := i1.1
        rcases r2 with ⟨r2, rfl⟩ | ⟨r2, rfl⟩
        · simp (disch := omega) only [i_0, i_1, i_2, i_3, i_4, i_5, i_6, i_7, i_8, i_9, i_10, i_11, i_12, i_13, i_14, i_15, i_16, i_17, i_18, i_19, i_20, i_21, i_22, i_23, i_24, i_25, i_26, i_27, i_31, i_32, i_40, i_42, i_45, i_48, i_51, i_52, i_56, i_58, i_59, i_60, i_61, i_62, i_63, i_64, i_85, i_90, i_100, i_112, i_120, i_121, i_127, i_128, i_130, i_144, i_171, i_192, i_193, i_197, i_200, i_207, i_235, i_240, i_248, i_252, i_254, i_255, i_256, i_512, i_544, i_768, i_769, i_793, i_1000, i_1023, i_1024, i_1200, i_1538, i_1541, i_1545, i_2046, i_2047, i_2049, i_2060, i_2736, i_2737, i_2817, i_2818, i_2819, i_2820, i_2821, i_2831, i_2832, i_3077, i_3085, i_3843, i_3849, i_3851, i_3852, i_4129, i_4353, i_4865, i_5121, i_5122, i_5123, i_6156, i_8192, i_12288, i_16383, i_32000, i_33280, i_49152, i_53247, i_60304, i_64000, i_64512, i_65521, i_65535, i_449838109, nI_add, pk_mul, pk_sub, nI_mm, nI_leI, nI_ltI, nI_eq, pk_div, jrem_N, jshl_N, jshr_N, jushr_N, jmin_N, jmax_N, an_1, an_3, an_7, an_15, an_31, an_63, an_127, an_255, an_1023, an_2047, an_16383, an_65535, nm, pfI, rdI, rdW, rdL, rdI2, rdW2, ldA_N, stA_N, stB_N, stZ_N, pfZ_0, pfZ_1, rtZ_0, rtZ_1, acp_N, Option.bind_some, wp_some_iff, true_and, and_true, false_and, and_false, or_true, true_or, or_false, false_or, not_true_eq_false, not_false_eq_true, if_true, if_false, if_pos, if_neg, lt_sub, le_sub, sub_lt3, sub_le3]
          refine send_C y1 ⟨i1, i2, s, a, k, hs, ha, hk2, hz1, hz2, hz5, hsa⟩ r2 _ i hi2 _ (fun m2 x1 x2 => ?_)
          have hst : stp t w' = some _ := if_pos r2
          refine hk m2 ⟨_, x1, stp_I ⟨i1, i2, s, a, k, hs, ha, hk2, hz1, hz2, hz5, hsa⟩ hst, y3, ?_, y5.tr' x2⟩
          rw [← y4, show 64 - i = (64 - (i + 1)) + 1 by omega, goF_s hst]
        · rw [if_neg (by decide)]
          by_cases q2 : 0 < w'.2.2.1.length ∧ w'.2.1.length < k
          · have hnt1 : nt (w'.1 1) = s := by rw [hz1, nt_nI (by omega)]
            have hnt2 : nt (w'.1 2) = a := by rw [hz2, nt_nI (by omega)]
            have hnt5 : nt (w'.1 5) = k := by rw [hz5, nt_nI (by omega)]
            have hst : stp t w' = some (lz w'.1 w'.2.1.length (nt (w'.1 1)), w'.2.1 ++ [((pk w'.2.2.1 0).1, (pk w'.2.2.1 0).2.1, nI 0)], w'.2.2.1.eraseIdx 0, setSt t w'.2.2.2.1 (nt (pk w'.2.2.1 0).2.1) (nI 2), txL w'.2.2.2.2 0 (unitL (frmL 0 (nt (w'.1 1)) (pk w'.2.2.1 0).1))) := by
              unfold stp
              rw [if_neg (by omega), if_pos (by rw [hnt5]; exact q2)]
            have hI2 := stp_I ⟨i1, i2, s, a, k, hs, ha, hk2, hz1, hz2, hz5, hsa⟩ hst
            refine wp_bind (launch_C y1.2.1 y1.2.2.1 y1.2.2.2.1 y1.2.2.2.2.1 hz1 hs hz5 q2.2 hk2 q2.1 i1 i2) (fun r ⟨h1, h2, h3, h4, h5, e5⟩ => ?_)
            obtain ⟨m2, a2⟩ := r
            dsimp only at h1 h2 h3 h4 h5 e5 ⊢
            subst h1
            have x2 : WC m2 t (lz w'.1 w'.2.1.length (nt (w'.1 1)), w'.2.1 ++ [((pk w'.2.2.1 0).1, (pk w'.2.2.1 0).2.1, nI 0)], w'.2.2.1.eraseIdx 0, setSt t w'.2.2.2.1 (nt (pk w'.2.2.1 0).2.1) (nI 2), w'.2.2.2.2) := ⟨y1.1.fr e5 (fun k => by omega), by rw [hnt1]; exact h2, h3, h4, h5, y1.2.2.2.2.2.fr e5 (fun c k _ _ => by omega)⟩
            refine send_C x2 hI2 (by show _ < (w'.2.1 ++ [_]).length; rw [List.length_append]; exact Nat.lt_succ_self _) _ i hi2 _ (fun m3 x3 x4 => ?_)
            refine hk m3 ⟨_, ?_, hI2, by rw [stp_0 hst]; exact y3, ?_, (y5.tr e5 (fun _ _ q => q) (by intro c k h; omega)).tr' x4⟩
            · have e1 : pk (w'.2.1 ++ [((pk w'.2.2.1 0).1, (pk w'.2.2.1 0).2.1, nI 0)]) w'.2.1.length = ((pk w'.2.2.1 0).1, (pk w'.2.2.1 0).2.1, nI 0) := by rw [pk_app, if_neg (by omega), if_pos rfl]
              dsimp only at x3
              rw [e1, set_self rfl, lz_o (by decide), hnt2, ← frm_mod, ← hsa] at x3
              rw [← hnt1] at x3
              exact x3
            · rw [← y4, show 64 - i = (64 - (i + 1)) + 1 by omega, goF_s hst]
          · have hst : stp t w' = none := by
              unfold stp
              rw [if_neg (by omega), if_neg (by rw [hz5, nt_nI (by omega)]; exact q2)]
            rw [goF_n hst] at y4
            unfold f137
            have hl2 := i2.1
            obtain ⟨u0, u1, u2, u3, u4, u5, u6, u7, u8, u9, u10⟩ := y1.2.1.a
            by_cases q3 : w'.2.2.1.length = 0
            · simp (disch := omega) only [i_0, i_1, i_2, i_3, i_4, i_5, i_6, i_7, i_8, i_9, i_10, i_11, i_12, i_13, i_14, i_15, i_16, i_17, i_18, i_19, i_20, i_21, i_22, i_23, i_24, i_25, i_26, i_27, i_31, i_32, i_40, i_42, i_45, i_48, i_51, i_52, i_56, i_58, i_59, i_60, i_61, i_62, i_63, i_64, i_85, i_90, i_100, i_112, i_120, i_121, i_127, i_128, i_130, i_144, i_171, i_192, i_193, i_197, i_200, i_207, i_235, i_240, i_248, i_252, i_254, i_255, i_256, i_512, i_544, i_768, i_769, i_793, i_1000, i_1023, i_1024, i_1200, i_1538, i_1541, i_1545, i_2046, i_2047, i_2049, i_2060, i_2736, i_2737, i_2817, i_2818, i_2819, i_2820, i_2821, i_2831, i_2832, i_3077, i_3085, i_3843, i_3849, i_3851, i_3852, i_4129, i_4353, i_4865, i_5121, i_5122, i_5123, i_6156, i_8192, i_12288, i_16383, i_32000, i_33280, i_49152, i_53247, i_60304, i_64000, i_64512, i_65521, i_65535, i_449838109, nI_add, pk_mul, pk_sub, nI_mm, nI_leI, nI_ltI, nI_eq, pk_div, jrem_N, jshl_N, jshr_N, jushr_N, jmin_N, jmax_N, an_1, an_3, an_7, an_15, an_31, an_63, an_127, an_255, an_1023, an_2047, an_16383, an_65535, nm, pfI, rdI, rdW, rdL, rdI2, rdW2, ldA_N, stA_N, stB_N, stZ_N, pfZ_0, pfZ_1, rtZ_0, rtZ_1, acp_N, Option.bind_some, wp_some_iff, true_and, and_true, false_and, and_false, or_true, true_or, or_false, false_or, not_true_eq_false, not_false_eq_true, if_true, if_false, if_pos, if_neg, lt_sub, le_sub, sub_lt3, sub_le3, y1.2.2.2.1.1, c135_38]
              rw [if_neg (by decide)]
              exact wp_some ⟨by rw [← y4]; exact y1, y5⟩
            · simp (disch := omega) only [i_0, i_1, i_2, i_3, i_4, i_5, i_6, i_7, i_8, i_9, i_10, i_11, i_12, i_13, i_14, i_15, i_16, i_17, i_18, i_19, i_20, i_21, i_22, i_23, i_24, i_25, i_26, i_27, i_31, i_32, i_40, i_42, i_45, i_48, i_51, i_52, i_56, i_58, i_59, i_60, i_61, i_62, i_63, i_64, i_85, i_90, i_100, i_112, i_120, i_121, i_127, i_128, i_130, i_144, i_171, i_192, i_193, i_197, i_200, i_207, i_235, i_240, i_248, i_252, i_254, i_255, i_256, i_512, i_544, i_768, i_769, i_793, i_1000, i_1023, i_1024, i_1200, i_1538, i_1541, i_1545, i_2046, i_2047, i_2049, i_2060, i_2736, i_2737, i_2817, i_2818, i_2819, i_2820, i_2821, i_2831, i_2832, i_3077, i_3085, i_3843, i_3849, i_3851, i_3852, i_4129, i_4353, i_4865, i_5121, i_5122, i_5123, i_6156, i_8192, i_12288, i_16383, i_32000, i_33280, i_49152, i_53247, i_60304, i_64000, i_64512, i_65521, i_65535, i_449838109, nI_add, pk_mul, pk_sub, nI_mm, nI_leI, nI_ltI, nI_eq, pk_div, jrem_N, jshl_N, jshr_N, jushr_N, jmin_N, jmax_N, an_1, an_3, an_7, an_15, an_31, an_63, an_127, an_255, an_1023, an_2047, an_16383, an_65535, nm, pfI, rdI, rdW, rdL, rdI2, rdW2, ldA_N, stA_N, stB_N, stZ_N, pfZ_0, pfZ_1, rtZ_0, rtZ_1, acp_N, Option.bind_some, wp_some_iff, true_and, and_true, false_and, and_false, or_true, true_or, or_false, false_or, not_true_eq_false, not_false_eq_true, if_true, if_false, if_pos, if_neg, lt_sub, le_sub, sub_lt3, sub_le3, y1.2.2.2.1.1, y1.2.2.1.1, u5, hz5, c135_38]
              rw [if_neg (by decide)]
              exact wp_some ⟨by rw [← y4]; exact y1, y5⟩
      simp (disch := omega) only [i_0, i_1, i_2, i_3, i_4, i_5, i_6, i_7, i_8, i_9, i_10, i_11, i_12, i_13, i_14, i_15, i_16, i_17, i_18, i_19, i_20, i_21, i_22, i_23, i_24, i_25, i_26, i_27, i_31, i_32, i_40, i_42, i_45, i_48, i_51, i_52, i_56, i_58, i_59, i_60, i_61, i_62, i_63, i_64, i_85, i_90, i_100, i_112, i_120, i_121, i_127, i_128, i_130, i_144, i_171, i_192, i_193, i_197, i_200, i_207, i_235, i_240, i_248, i_252, i_254, i_255, i_256, i_512, i_544, i_768, i_769, i_793, i_1000, i_1023, i_1024, i_1200, i_1538, i_1541, i_1545, i_2046, i_2047, i_2049, i_2060, i_2736, i_2737, i_2817, i_2818, i_2819, i_2820, i_2821, i_2831, i_2832, i_3077, i_3085, i_3843, i_3849, i_3851, i_3852, i_4129, i_4353, i_4865, i_5121, i_5122, i_5123, i_6156, i_8192, i_12288, i_16383, i_32000, i_33280, i_49152, i_53247, i_60304, i_64000, i_64512, i_65521, i_65535, i_449838109, nI_add, pk_mul, pk_sub, nI_mm, nI_leI, nI_ltI, nI_eq, pk_div, jrem_N, jshl_N, jshr_N, jushr_N, jmin_N, jmax_N, an_1, an_3, an_7, an_15, an_31, an_63, an_127, an_255, an_1023, an_2047, an_16383, an_65535, nm, pfI, rdI, rdW, rdL, rdI2, rdW2, ldA_N, stA_N, stB_N, stZ_N, pfZ_0, pfZ_1, rtZ_0, rtZ_1, acp_N, Option.bind_some, wp_some_iff, true_and, and_true, false_and, and_false, or_true, true_or, or_false, false_or, not_true_eq_false, not_false_eq_true, if_true, if_false, if_pos, if_neg, lt_sub, le_sub, sub_lt3, sub_le3, z0, y3]
      rcases q0 with q0 | q0
      · rw [if_pos q0]; exact key
      · by_cases q1 : w.1 0 = nI 1
        · rw [if_pos q1]; exact key
        · rw [if_neg q1, if_pos q0]; exact key
    · unfold b135_2
      simp (disch := omega) only [i_0, i_1, i_2, i_3, i_4, i_5, i_6, i_7, i_8, i_9, i_10, i_11, i_12, i_13, i_14, i_15, i_16, i_17, i_18, i_19, i_20, i_21, i_22, i_23, i_24, i_25, i_26, i_27, i_31, i_32, i_40, i_42, i_45, i_48, i_51, i_52, i_56, i_58, i_59, i_60, i_61, i_62, i_63, i_64, i_85, i_90, i_100, i_112, i_120, i_121, i_127, i_128, i_130, i_144, i_171, i_192, i_193, i_197, i_200, i_207, i_235, i_240, i_248, i_252, i_254, i_255, i_256, i_512, i_544, i_768, i_769, i_793, i_1000, i_1023, i_1024, i_1200, i_1538, i_1541, i_1545, i_2046, i_2047, i_2049, i_2060, i_2736, i_2737, i_2817, i_2818, i_2819, i_2820, i_2821, i_2831, i_2832, i_3077, i_3085, i_3843, i_3849, i_3851, i_3852, i_4129, i_4353, i_4865, i_5121, i_5122, i_5123, i_6156, i_8192, i_12288, i_16383, i_32000, i_33280, i_49152, i_53247, i_60304, i_64000, i_64512, i_65521, i_65535, i_449838109, nI_add, pk_mul, pk_sub, nI_mm, nI_leI, nI_ltI, nI_eq, pk_div, jrem_N, jshl_N, jshr_N, jushr_N, jmin_N, jmax_N, an_1, an_3, an_7, an_15, an_31, an_63, an_127, an_255, an_1023, an_2047, an_16383, an_65535, nm, pfI, rdI, rdW, rdL, rdI2, rdW2, ldA_N, stA_N, stB_N, stZ_N, pfZ_0, pfZ_1, rtZ_0, rtZ_1, acp_N, Option.bind_some, wp_some_iff, true_and, and_true, false_and, and_false, or_true, true_or, or_false, false_or, not_true_eq_false, not_false_eq_true, if_true, if_false, if_pos, if_neg, lt_sub, le_sub, sub_lt3, sub_le3]
      have y4' : w' = goF t 64 w := y4
      exact ⟨by rw [← y4']; exact y1, y5⟩
  · rw [goW, if_neg q0]
    refine wp_for (fun i m => (nI i, m)) (fun i m => m = μ) 1 (by omega) μ _ rfl rfl (fun self i m hi2 y1 hk => ?_) (fun self m y1 => ?_)
    · subst y1
      unfold b135_2
      obtain ⟨z0, z1, z2, z3, z4, z5, z6, z7, z8, z9, z10⟩ := hw.2.1.a
      simp (disch := omega) only [i_0, i_1, i_2, i_3, i_4, i_5, i_6, i_7, i_8, i_9, i_10, i_11, i_12, i_13, i_14, i_15, i_16, i_17, i_18, i_19, i_20, i_21, i_22, i_23, i_24, i_25, i_26, i_27, i_31, i_32, i_40, i_42, i_45, i_48, i_51, i_52, i_56, i_58, i_59, i_60, i_61, i_62, i_63, i_64, i_85, i_90, i_100, i_112, i_120, i_121, i_127, i_128, i_130, i_144, i_171, i_192, i_193, i_197, i_200, i_207, i_235, i_240, i_248, i_252, i_254, i_255, i_256, i_512, i_544, i_768, i_769, i_793, i_1000, i_1023, i_1024, i_1200, i_1538, i_1541, i_1545, i_2046, i_2047, i_2049, i_2060, i_2736, i_2737, i_2817, i_2818, i_2819, i_2820, i_2821, i_2831, i_2832, i_3077, i_3085, i_3843, i_3849, i_3851, i_3852, i_4129, i_4353, i_4865, i_5121, i_5122, i_5123, i_6156, i_8192, i_12288, i_16383, i_32000, i_33280, i_49152, i_53247, i_60304, i_64000, i_64512, i_65521, i_65535, i_449838109, nI_add, pk_mul, pk_sub, nI_mm, nI_leI, nI_ltI, nI_eq, pk_div, jrem_N, jshl_N, jshr_N, jushr_N, jmin_N, jmax_N, an_1, an_3, an_7, an_15, an_31, an_63, an_127, an_255, an_1023, an_2047, an_16383, an_65535, nm, pfI, rdI, rdW, rdL, rdI2, rdW2, ldA_N, stA_N, stB_N, stZ_N, pfZ_0, pfZ_1, rtZ_0, rtZ_1, acp_N, Option.bind_some, wp_some_iff, true_and, and_true, false_and, and_false, or_true, true_or, or_false, false_or, not_true_eq_false, not_false_eq_true, if_true, if_false, if_pos, if_neg, lt_sub, le_sub, sub_lt3, sub_le3, z0]
      rw [if_neg (fun e => q0 (Or.inl e)), if_neg (fun e => q0 (Or.inr e))]
      exact wp_some ⟨hw, Fr.rf⟩
    · subst y1
      unfold b135_2
      obtain ⟨z0, z1, z2, z3, z4, z5, z6, z7, z8, z9, z10⟩ := hw.2.1.a
      simp (disch := omega) only [i_0, i_1, i_2, i_3, i_4, i_5, i_6, i_7, i_8, i_9, i_10, i_11, i_12, i_13, i_14, i_15, i_16, i_17, i_18, i_19, i_20, i_21, i_22, i_23, i_24, i_25, i_26, i_27, i_31, i_32, i_40, i_42, i_45, i_48, i_51, i_52, i_56, i_58, i_59, i_60, i_61, i_62, i_63, i_64, i_85, i_90, i_100, i_112, i_120, i_121, i_127, i_128, i_130, i_144, i_171, i_192, i_193, i_197, i_200, i_207, i_235, i_240, i_248, i_252, i_254, i_255, i_256, i_512, i_544, i_768, i_769, i_793, i_1000, i_1023, i_1024, i_1200, i_1538, i_1541, i_1545, i_2046, i_2047, i_2049, i_2060, i_2736, i_2737, i_2817, i_2818, i_2819, i_2820, i_2821, i_2831, i_2832, i_3077, i_3085, i_3843, i_3849, i_3851, i_3852, i_4129, i_4353, i_4865, i_5121, i_5122, i_5123, i_6156, i_8192, i_12288, i_16383, i_32000, i_33280, i_49152, i_53247, i_60304, i_64000, i_64512, i_65521, i_65535, i_449838109, nI_add, pk_mul, pk_sub, nI_mm, nI_leI, nI_ltI, nI_eq, pk_div, jrem_N, jshl_N, jshr_N, jushr_N, jmin_N, jmax_N, an_1, an_3, an_7, an_15, an_31, an_63, an_127, an_255, an_1023, an_2047, an_16383, an_65535, nm, pfI, rdI, rdW, rdL, rdI2, rdW2, ldA_N, stA_N, stB_N, stZ_N, pfZ_0, pfZ_1, rtZ_0, rtZ_1, acp_N, Option.bind_some, wp_some_iff, true_and, and_true, false_and, and_false, or_true, true_or, or_false, false_or, not_true_eq_false, not_false_eq_true, if_true, if_false, if_pos, if_neg, lt_sub, le_sub, sub_lt3, sub_le3, z0]
      rw [if_neg (fun e => q0 (Or.inl e)), if_neg (fun e => q0 (Or.inr e))]
      exact wp_some ⟨hw, Fr.rf⟩
