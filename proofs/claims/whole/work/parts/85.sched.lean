/-! ===== the schedule: the class ===== -/
abbrev Tw : Type := Bool × (Nat → Bool) × List Pk
def EnI (es : List Pk) : Prop := es.length ≤ 16 ∧ ∀ i, i < es.length → (pk es i).1.length ≤ 40 ∧ 13 ≤ (pk es i).1.length ∧ (tm es i < 2 ^ 31 ∧ (pk es i).2.1 = nI (tm es i)) ∧ (nt (pk es i).2.2 < 4 ∧ (pk es i).2.2 = nI (nt (pk es i).2.2))
def ScC (μ : Mem) (s : Tw) : Prop := μ.1 101 13 = nI (b2n s.1) ∧ MkC (μ.1 101 12) 4 s.2.1 ∧ Shf μ 108 s.2.2
theorem ScC.fr {μ m : Mem} {s : Tw} {P : Nat → Nat → Prop} (h : ScC μ s) (ho : Fr P μ m) (h0 : ¬ P 101 12) (h2 : ¬ P 101 13) (h1 : ∀ c k, 108 ≤ c → c ≤ 113 → ¬ P c k) : ScC m s := ⟨by rw [ho.1 _ _ h2]; exact h.1, by rw [ho.1 _ _ h0]; exact h.2.1, h.2.2.fr ho h1⟩
theorem cmp_C {a b : Nat} {μ : Mem} (ha : a < 2 ^ 31) (hb : b < 2 ^ 31) : f363 (nI a) (nI b) μ = some (μ, if a < b then -nI 1 else if a = b then nI 0 else nI 1) := by
  unfold f363
  by_cases q : a < b
  · rw [if_neg (fun z => by have := (nI_leI hb ha).mp z; omega), if_pos q, i_1]
  · rw [if_pos ((nI_leI hb ha).mpr (by omega)), if_neg q]
    by_cases e : a = b
    · rw [if_pos (by rw [e]), if_pos e, i_0]
    · rw [if_neg (fun z => e ((nI_eq (by omega) (by omega)).mp z)), if_neg e, i_1]
theorem fnt_of {es : List Pk} {n i : Nat} (hi : i < es.length) (h : rk es i = n) : fnt es n = some i := by
  cases hf : fnt es n with
  | none =>
    unfold fnt at hf
    have := List.find?_eq_none.mp hf i (List.mem_range.mpr hi)
    exact absurd (decide_eq_true h) this
  | some j =>
    obtain ⟨h1, h2⟩ := fnt_some hf
    rw [rk_inj h1 hi (h2.trans h.symm)]
theorem fnt_none {es : List Pk} {n : Nat} (h : ∀ i, i < es.length → rk es i ≠ n) : fnt es n = none := by
  cases hf : fnt es n with
  | none => rfl
  | some j =>
    obtain ⟨h1, h2⟩ := fnt_some hf
    exact absurd h2 (h j h1)
def nthV (es : List Pk) (n : Nat) : Int32 := match fnt es n with
  | some i => nI i
  | none => -nI 1
theorem nth_C {μ : Mem} {es : List Pk} {n : Nat} (h : Shf μ 108 es) (hI : EnI es) (hn : n < 1000) : f50 (nI n) μ = some (μ, nthV es n) := by
  apply wp_eq
  have hl := hI.1
  have h5 := h.1
  unfold f50 l50_2
  refine wp_for (fun i m => (nI n, nI i, m)) (fun i m => m = μ ∧ ∀ j, j < i → rk es j ≠ n) es.length (by omega) μ _ rfl ⟨rfl, fun j hj => absurd hj (Nat.not_lt_zero _)⟩ (fun self i m hi ⟨x1, x2⟩ hk => ?_) (fun self m ⟨x1, x2⟩ => ?_)
  · subst x1
    unfold b50_2
    rw [h5, if_neg (fun z => by have := (nI_leI (by omega) (by omega)).mp z; omega)]
    unfold l50_18
    refine wp_for (fun k m' => (nI n, nI i, nI (cn (ah es i) k), nI k, m')) (fun k m' => m' = m) es.length (by omega) m _ rfl rfl (fun self2 k m' hk2 x3 hk3 => ?_) (fun self2 m' x3 => ?_)
    · subst x3
      have hk4 := hk3 m' rfl
      have hc := cn_n (ah es i) k
      obtain ⟨_, _, ⟨t1, t2⟩, _⟩ := hI.2 k hk2
      obtain ⟨_, _, ⟨s1, s2⟩, _⟩ := hI.2 i hi
      have e1 := tagOf_y h hk2
      have e2 := tagOf_y h hi
      rw [t2] at e1
      rw [s2] at e2
      have e3 := cmp_C (μ := m') t1 s1
      rw [cn] at hk4
      unfold b50_18
      by_cases q : tm es k < tm es i
      · rw [show ah es i k = true from ah_iff.mpr (Or.inl q), b2n_t] at hk4
        rw [if_pos q] at e3
        unfold c50_68 c50_71
        simp (disch := omega) only [i_0, i_1, i_2, i_3, i_4, i_5, i_6, i_7, i_8, i_9, i_10, i_11, i_12, i_13, i_14, i_15, i_16, i_17, i_18, i_19, i_20, i_21, i_22, i_23, i_24, i_25, i_26, i_27, i_31, i_32, i_40, i_42, i_45, i_48, i_51, i_52, i_56, i_58, i_59, i_60, i_61, i_62, i_63, i_64, i_85, i_90, i_100, i_112, i_120, i_121, i_127, i_128, i_130, i_144, i_171, i_192, i_193, i_197, i_200, i_207, i_235, i_240, i_248, i_252, i_254, i_255, i_256, i_512, i_544, i_768, i_769, i_793, i_1000, i_1023, i_1024, i_1200, i_1538, i_1541, i_1545, i_2046, i_2047, i_2049, i_2060, i_2736, i_2737, i_2817, i_2818, i_2819, i_2820, i_2821, i_2831, i_2832, i_3077, i_3085, i_3843, i_3849, i_3851, i_3852, i_4129, i_4353, i_4865, i_5121, i_5122, i_5123, i_6156, i_8192, i_12288, i_16383, i_32000, i_33280, i_49152, i_53247, i_60304, i_64000, i_64512, i_65521, i_65535, i_449838109, nI_add, pk_mul, pk_sub, nI_mm, nI_leI, nI_ltI, nI_eq, pk_div, jrem_N, jshl_N, jshr_N, jushr_N, jmin_N, jmax_N, an_1, an_3, an_7, an_15, an_31, an_63, an_127, an_255, an_1023, an_2047, an_16383, an_65535, nm, pfI, rdI, rdW, rdL, rdI2, rdW2, ldA_N, stA_N, stB_N, stZ_N, pfZ_0, pfZ_1, rtZ_0, rtZ_1, acp_N, Option.bind_some, wp_some_iff, true_and, and_true, false_and, and_false, or_true, true_or, or_false, false_or, not_true_eq_false, not_false_eq_true, if_true, if_false, if_pos, if_neg, lt_sub, le_sub, sub_lt3, sub_le3, Option.bind_assoc, h5, e1, e2, e3, ng1]
        exact hk4
      · rw [if_neg q] at e3
        by_cases q2 : tm es k = tm es i
        · rw [if_pos q2] at e3
          by_cases q3 : k < i
          · rw [show ah es i k = true from ah_iff.mpr (Or.inr ⟨q2, q3⟩), b2n_t] at hk4
            unfold c50_68 c50_71
            simp (disch := omega) only [i_0, i_1, i_2, i_3, i_4, i_5, i_6, i_7, i_8, i_9, i_10, i_11, i_12, i_13, i_14, i_15, i_16, i_17, i_18, i_19, i_20, i_21, i_22, i_23, i_24, i_25, i_26, i_27, i_31, i_32, i_40, i_42, i_45, i_48, i_51, i_52, i_56, i_58, i_59, i_60, i_61, i_62, i_63, i_64, i_85, i_90, i_100, i_112, i_120, i_121, i_127, i_128, i_130, i_144, i_171, i_192, i_193, i_197, i_200, i_207, i_235, i_240, i_248, i_252, i_254, i_255, i_256, i_512, i_544, i_768, i_769, i_793, i_1000, i_1023, i_1024, i_1200, i_1538, i_1541, i_1545, i_2046, i_2047, i_2049, i_2060, i_2736, i_2737, i_2817, i_2818, i_2819, i_2820, i_2821, i_2831, i_2832, i_3077, i_3085, i_3843, i_3849, i_3851, i_3852, i_4129, i_4353, i_4865, i_5121, i_5122, i_5123, i_6156, i_8192, i_12288, i_16383, i_32000, i_33280, i_49152, i_53247, i_60304, i_64000, i_64512, i_65521, i_65535, i_449838109, nI_add, pk_mul, pk_sub, nI_mm, nI_leI, nI_ltI, nI_eq, pk_div, jrem_N, jshl_N, jshr_N, jushr_N, jmin_N, jmax_N, an_1, an_3, an_7, an_15, an_31, an_63, an_127, an_255, an_1023, an_2047, an_16383, an_65535, nm, pfI, rdI, rdW, rdL, rdI2, rdW2, ldA_N, stA_N, stB_N, stZ_N, pfZ_0, pfZ_1, rtZ_0, rtZ_1, acp_N, Option.bind_some, wp_some_iff, true_and, and_true, false_and, and_false, or_true, true_or, or_false, false_or, not_true_eq_false, not_false_eq_true, if_true, if_false, if_pos, if_neg, lt_sub, le_sub, sub_lt3, sub_le3, Option.bind_assoc, h5, e1, e2, e3]
            exact hk4
          · have hf : ah es i k = false := by
              unfold ah
              rw [decide_eq_false (by omega)]
            rw [hf, b2n_f, Nat.add_zero] at hk4
            unfold c50_68 c50_71
            simp (disch := omega) only [i_0, i_1, i_2, i_3, i_4, i_5, i_6, i_7, i_8, i_9, i_10, i_11, i_12, i_13, i_14, i_15, i_16, i_17, i_18, i_19, i_20, i_21, i_22, i_23, i_24, i_25, i_26, i_27, i_31, i_32, i_40, i_42, i_45, i_48, i_51, i_52, i_56, i_58, i_59, i_60, i_61, i_62, i_63, i_64, i_85, i_90, i_100, i_112, i_120, i_121, i_127, i_128, i_130, i_144, i_171, i_192, i_193, i_197, i_200, i_207, i_235, i_240, i_248, i_252, i_254, i_255, i_256, i_512, i_544, i_768, i_769, i_793, i_1000, i_1023, i_1024, i_1200, i_1538, i_1541, i_1545, i_2046, i_2047, i_2049, i_2060, i_2736, i_2737, i_2817, i_2818, i_2819, i_2820, i_2821, i_2831, i_2832, i_3077, i_3085, i_3843, i_3849, i_3851, i_3852, i_4129, i_4353, i_4865, i_5121, i_5122, i_5123, i_6156, i_8192, i_12288, i_16383, i_32000, i_33280, i_49152, i_53247, i_60304, i_64000, i_64512, i_65521, i_65535, i_449838109, nI_add, pk_mul, pk_sub, nI_mm, nI_leI, nI_ltI, nI_eq, pk_div, jrem_N, jshl_N, jshr_N, jushr_N, jmin_N, jmax_N, an_1, an_3, an_7, an_15, an_31, an_63, an_127, an_255, an_1023, an_2047, an_16383, an_65535, nm, pfI, rdI, rdW, rdL, rdI2, rdW2, ldA_N, stA_N, stB_N, stZ_N, pfZ_0, pfZ_1, rtZ_0, rtZ_1, acp_N, Option.bind_some, wp_some_iff, true_and, and_true, false_and, and_false, or_true, true_or, or_false, false_or, not_true_eq_false, not_false_eq_true, if_true, if_false, if_pos, if_neg, lt_sub, le_sub, sub_lt3, sub_le3, Option.bind_assoc, h5, e1, e2, e3]
            exact hk4
        · rw [if_neg q2] at e3
          have hf : ah es i k = false := by
            unfold ah
            rw [decide_eq_false (by omega)]
          rw [hf, b2n_f, Nat.add_zero] at hk4
          unfold c50_68 c50_71
          simp (disch := omega) only [i_0, i_1, i_2, i_3, i_4, i_5, i_6, i_7, i_8, i_9, i_10, i_11, i_12, i_13, i_14, i_15, i_16, i_17, i_18, i_19, i_20, i_21, i_22, i_23, i_24, i_25, i_26, i_27, i_31, i_32, i_40, i_42, i_45, i_48, i_51, i_52, i_56, i_58, i_59, i_60, i_61, i_62, i_63, i_64, i_85, i_90, i_100, i_112, i_120, i_121, i_127, i_128, i_130, i_144, i_171, i_192, i_193, i_197, i_200, i_207, i_235, i_240, i_248, i_252, i_254, i_255, i_256, i_512, i_544, i_768, i_769, i_793, i_1000, i_1023, i_1024, i_1200, i_1538, i_1541, i_1545, i_2046, i_2047, i_2049, i_2060, i_2736, i_2737, i_2817, i_2818, i_2819, i_2820, i_2821, i_2831, i_2832, i_3077, i_3085, i_3843, i_3849, i_3851, i_3852, i_4129, i_4353, i_4865, i_5121, i_5122, i_5123, i_6156, i_8192, i_12288, i_16383, i_32000, i_33280, i_49152, i_53247, i_60304, i_64000, i_64512, i_65521, i_65535, i_449838109, nI_add, pk_mul, pk_sub, nI_mm, nI_leI, nI_ltI, nI_eq, pk_div, jrem_N, jshl_N, jshr_N, jushr_N, jmin_N, jmax_N, an_1, an_3, an_7, an_15, an_31, an_63, an_127, an_255, an_1023, an_2047, an_16383, an_65535, nm, pfI, rdI, rdW, rdL, rdI2, rdW2, ldA_N, stA_N, stB_N, stZ_N, pfZ_0, pfZ_1, rtZ_0, rtZ_1, acp_N, Option.bind_some, wp_some_iff, true_and, and_true, false_and, and_false, or_true, true_or, or_false, false_or, not_true_eq_false, not_false_eq_true, if_true, if_false, if_pos, if_neg, lt_sub, le_sub, sub_lt3, sub_le3, Option.bind_assoc, h5, e1, e2, e3]
          exact hk4
    · subst x3
      have hc := cn_n (ah es i) es.length
      unfold b50_18
      by_cases q : rk es i = n
      · have hq : cn (ah es i) es.length = n := q
        rw [nthV, fnt_of hi q, hq]
        simp (disch := omega) only [i_0, i_1, i_2, i_3, i_4, i_5, i_6, i_7, i_8, i_9, i_10, i_11, i_12, i_13, i_14, i_15, i_16, i_17, i_18, i_19, i_20, i_21, i_22, i_23, i_24, i_25, i_26, i_27, i_31, i_32, i_40, i_42, i_45, i_48, i_51, i_52, i_56, i_58, i_59, i_60, i_61, i_62, i_63, i_64, i_85, i_90, i_100, i_112, i_120, i_121, i_127, i_128, i_130, i_144, i_171, i_192, i_193, i_197, i_200, i_207, i_235, i_240, i_248, i_252, i_254, i_255, i_256, i_512, i_544, i_768, i_769, i_793, i_1000, i_1023, i_1024, i_1200, i_1538, i_1541, i_1545, i_2046, i_2047, i_2049, i_2060, i_2736, i_2737, i_2817, i_2818, i_2819, i_2820, i_2821, i_2831, i_2832, i_3077, i_3085, i_3843, i_3849, i_3851, i_3852, i_4129, i_4353, i_4865, i_5121, i_5122, i_5123, i_6156, i_8192, i_12288, i_16383, i_32000, i_33280, i_49152, i_53247, i_60304, i_64000, i_64512, i_65521, i_65535, i_449838109, nI_add, pk_mul, pk_sub, nI_mm, nI_leI, nI_ltI, nI_eq, pk_div, jrem_N, jshl_N, jshr_N, jushr_N, jmin_N, jmax_N, an_1, an_3, an_7, an_15, an_31, an_63, an_127, an_255, an_1023, an_2047, an_16383, an_65535, nm, pfI, rdI, rdW, rdL, rdI2, rdW2, ldA_N, stA_N, stB_N, stZ_N, pfZ_0, pfZ_1, rtZ_0, rtZ_1, acp_N, Option.bind_some, wp_some_iff, true_and, and_true, false_and, and_false, or_true, true_or, or_false, false_or, not_true_eq_false, not_false_eq_true, if_true, if_false, if_pos, if_neg, lt_sub, le_sub, sub_lt3, sub_le3, Option.bind_assoc, h5]
      · have hq : ¬ cn (ah es i) es.length = n := q
        simp (disch := omega) only [i_0, i_1, i_2, i_3, i_4, i_5, i_6, i_7, i_8, i_9, i_10, i_11, i_12, i_13, i_14, i_15, i_16, i_17, i_18, i_19, i_20, i_21, i_22, i_23, i_24, i_25, i_26, i_27, i_31, i_32, i_40, i_42, i_45, i_48, i_51, i_52, i_56, i_58, i_59, i_60, i_61, i_62, i_63, i_64, i_85, i_90, i_100, i_112, i_120, i_121, i_127, i_128, i_130, i_144, i_171, i_192, i_193, i_197, i_200, i_207, i_235, i_240, i_248, i_252, i_254, i_255, i_256, i_512, i_544, i_768, i_769, i_793, i_1000, i_1023, i_1024, i_1200, i_1538, i_1541, i_1545, i_2046, i_2047, i_2049, i_2060, i_2736, i_2737, i_2817, i_2818, i_2819, i_2820, i_2821, i_2831, i_2832, i_3077, i_3085, i_3843, i_3849, i_3851, i_3852, i_4129, i_4353, i_4865, i_5121, i_5122, i_5123, i_6156, i_8192, i_12288, i_16383, i_32000, i_33280, i_49152, i_53247, i_60304, i_64000, i_64512, i_65521, i_65535, i_449838109, nI_add, pk_mul, pk_sub, nI_mm, nI_leI, nI_ltI, nI_eq, pk_div, jrem_N, jshl_N, jshr_N, jushr_N, jmin_N, jmax_N, an_1, an_3, an_7, an_15, an_31, an_63, an_127, an_255, an_1023, an_2047, an_16383, an_65535, nm, pfI, rdI, rdW, rdL, rdI2, rdW2, ldA_N, stA_N, stB_N, stZ_N, pfZ_0, pfZ_1, rtZ_0, rtZ_1, acp_N, Option.bind_some, wp_some_iff, true_and, and_true, false_and, and_false, or_true, true_or, or_false, false_or, not_true_eq_false, not_false_eq_true, if_true, if_false, if_pos, if_neg, lt_sub, le_sub, sub_lt3, sub_le3, Option.bind_assoc, h5, hq]
        exact hk m' ⟨rfl, fun j hj => by
          by_cases e : j = i
          · rw [e]; exact q
          · exact x2 j (by omega)⟩
  · subst x1
    unfold b50_2
    rw [nthV, fnt_none x2, h5, if_pos ((nI_leI (by omega) (by omega)).mpr (Nat.le_refl _))]
    exact wp_some rfl
theorem nthV_y {es : List Pk} {n : Nat} (hn : n < es.length) : nthV es n = nI (nthI es n) := by
  obtain ⟨h1, h2⟩ := nth_lt hn
  rw [nthV, fnt_of h1 h2]
theorem nthV_n {es : List Pk} {n : Nat} (hn : es.length ≤ n) : nthV es n = -nI 1 := by
  rw [nthV, fnt_none (fun i hi => by have := rk_lt hi; omega)]
/-! every tick -/
abbrev Yw : Type := Kw × Tw
def goS (s : Tw) : Bool := s.1 && !(s.2.1 (nt (pk s.2.2 (nthI s.2.2 0)).2.2))
def schN : Nat → Yw → Yw
  | 0, y => y
  | n + 1, y => if y.2.2.2.length = 0 ∨ y.1.1.1 < tm y.2.2.2 (nthI y.2.2.2 0) then y else schN n (if goS y.2 = true then lookK y.1 (pk y.2.2.2 (nthI y.2.2.2 0)).1 0 else y.1, (y.2.1, y.2.2.1, y.2.2.2.eraseIdx (nthI y.2.2.2 0)))
theorem EnI.era {es : List Pk} {i : Nat} (h : EnI es) (hi : i < es.length) : EnI (es.eraseIdx i) := by
  have hl : (es.eraseIdx i).length = es.length - 1 := List.length_eraseIdx_of_lt hi
  have h0 := h.1
  refine ⟨by omega, fun j hj => ?_⟩
  rw [hl] at hj
  rw [tm_era, pk_era]
  split
  · exact h.2 j (by omega)
  · exact h.2 (j + 1) (by omega)
theorem lookK_t (k : Kw) (bs : List Nat) (dep : Nat) : (lookK k bs dep).1.1 = k.1.1 := by
  unfold lookK
  repeat' split
  all_goals rfl
theorem schN_I : ∀ (n : Nat) (y : Yw), KI y.1 → EnI y.2.2.2 → KI (schN n y).1 ∧ EnI (schN n y).2.2.2
  | 0, y, h, hE => ⟨h, hE⟩
  | n + 1, y, h, hE => by
    rw [schN]
    split
    · exact ⟨h, hE⟩
    · next q =>
      have hn := nth_lt (es := y.2.2.2) (n := 0) (by omega)
      have := hE.2 _ hn.1
      refine schN_I n _ ?_ (hE.era hn.1)
      show KI (if goS y.2 = true then lookK y.1 (pk y.2.2.2 (nthI y.2.2.2 0)).1 0 else y.1)
      split
      · exact lookK_I h (by omega) (by omega)
      · exact h
theorem schN_stop {y : Yw} (h : y.2.2.2.length = 0 ∨ y.1.1.1 < tm y.2.2.2 (nthI y.2.2.2 0)) : ∀ n, schN n y = y
  | 0 => rfl
  | n + 1 => by rw [schN, if_pos h]
abbrev FYc : Nat → Nat → Prop := fun c k => FLk c k ∨ 108 ≤ c ∧ c ≤ 113 ∨ 120 ≤ c ∧ c ≤ 121
theorem sch_C {μ : Mem} {y : Yw} (h : KC μ y.1) (hI : KI y.1) (hS : ScC μ y.2) (hE : EnI y.2.2.2) : wp (f51 μ) (fun m => KC m (schN 16 y).1 ∧ ScC m (schN 16 y).2 ∧ Fr FYc μ m) := by
  have g2 : gln (120 + 1) = 60 := gl_121
  unfold f51 l51_2
  refine wp_for (γ := Yw × Mem) (fun i x => (nI i, x.2)) (fun i x => KI x.1.1 ∧ EnI x.1.2.2.2 ∧ x.1.2.2.2.length ≤ 16 - i ∧ KC x.2 x.1.1 ∧ ScC x.2 x.1.2 ∧ Fr FYc μ x.2 ∧ schN (16 - i) x.1 = schN 16 y) 16 (by omega) (y, μ) _ rfl ⟨hI, hE, hE.1, h, hS, Fr.rf, rfl⟩ (fun self i x hi hx hk => ?_) (fun self x hx => ?_)
  · obtain ⟨⟨k, s⟩, m⟩ := x
    obtain ⟨x1, x2, x3, x4, x5, x6, x7⟩ := hx
    dsimp only at x1 x2 x3 x4 x5 x6 x7 ⊢
    have en := nth_C x5.2.2 x2 (n := 0) (by omega)
    have ht := x4.1.2.1
    have htk := x1.1.1
    unfold b51_2 c51_63 c51_64 c51_94
    by_cases q0 : s.2.2.length = 0
    · rw [schN_stop (Or.inl q0)] at x7
      rw [nthV_n (by omega)] at en
      simp (disch := omega) only [i_0, i_1, i_2, i_3, i_4, i_5, i_6, i_7, i_8, i_9, i_10, i_11, i_12, i_13, i_14, i_15, i_16, i_17, i_18, i_19, i_20, i_21, i_22, i_23, i_24, i_25, i_26, i_27, i_31, i_32, i_40, i_42, i_45, i_48, i_51, i_52, i_56, i_58, i_59, i_60, i_61, i_62, i_63, i_64, i_85, i_90, i_100, i_112, i_120, i_121, i_127, i_128, i_130, i_144, i_171, i_192, i_193, i_197, i_200, i_207, i_235, i_240, i_248, i_252, i_254, i_255, i_256, i_512, i_544, i_768, i_769, i_793, i_1000, i_1023, i_1024, i_1200, i_1538, i_1541, i_1545, i_2046, i_2047, i_2049, i_2060, i_2736, i_2737, i_2817, i_2818, i_2819, i_2820, i_2821, i_2831, i_2832, i_3077, i_3085, i_3843, i_3849, i_3851, i_3852, i_4129, i_4353, i_4865, i_5121, i_5122, i_5123, i_6156, i_8192, i_12288, i_16383, i_32000, i_33280, i_49152, i_53247, i_60304, i_64000, i_64512, i_65521, i_65535, i_449838109, nI_add, pk_mul, pk_sub, nI_mm, nI_leI, nI_ltI, nI_eq, pk_div, jrem_N, jshl_N, jshr_N, jushr_N, jmin_N, jmax_N, an_1, an_3, an_7, an_15, an_31, an_63, an_127, an_255, an_1023, an_2047, an_16383, an_65535, nm, pfI, rdI, rdW, rdL, rdI2, rdW2, ldA_N, stA_N, stB_N, stZ_N, pfZ_0, pfZ_1, rtZ_0, rtZ_1, acp_N, Option.bind_some, wp_some_iff, true_and, and_true, false_and, and_false, or_true, true_or, or_false, false_or, not_true_eq_false, not_false_eq_true, if_true, if_false, if_pos, if_neg, lt_sub, le_sub, sub_lt3, sub_le3, Option.bind_assoc, en, ng1]
      rw [← x7]
      exact ⟨x4, x5, x6⟩
    · have hn := nth_lt (es := s.2.2) (n := 0) (by omega)
      rw [nthV_y (by omega)] at en
      obtain ⟨e1, e2, ⟨e3, e4⟩, ⟨e5, e6⟩⟩ := x2.2 _ hn.1
      have eT := tagOf_y x5.2.2 hn.1
      have eM := markOf_y x5.2.2 hn.1
      have hl16 := x2.1
      rw [e4] at eT
      rw [e6] at eM
      by_cases q1 : k.1.1 < tm s.2.2 (nthI s.2.2 0)
      · rw [schN_stop (Or.inr q1)] at x7
        simp (disch := omega) only [i_0, i_1, i_2, i_3, i_4, i_5, i_6, i_7, i_8, i_9, i_10, i_11, i_12, i_13, i_14, i_15, i_16, i_17, i_18, i_19, i_20, i_21, i_22, i_23, i_24, i_25, i_26, i_27, i_31, i_32, i_40, i_42, i_45, i_48, i_51, i_52, i_56, i_58, i_59, i_60, i_61, i_62, i_63, i_64, i_85, i_90, i_100, i_112, i_120, i_121, i_127, i_128, i_130, i_144, i_171, i_192, i_193, i_197, i_200, i_207, i_235, i_240, i_248, i_252, i_254, i_255, i_256, i_512, i_544, i_768, i_769, i_793, i_1000, i_1023, i_1024, i_1200, i_1538, i_1541, i_1545, i_2046, i_2047, i_2049, i_2060, i_2736, i_2737, i_2817, i_2818, i_2819, i_2820, i_2821, i_2831, i_2832, i_3077, i_3085, i_3843, i_3849, i_3851, i_3852, i_4129, i_4353, i_4865, i_5121, i_5122, i_5123, i_6156, i_8192, i_12288, i_16383, i_32000, i_33280, i_49152, i_53247, i_60304, i_64000, i_64512, i_65521, i_65535, i_449838109, nI_add, pk_mul, pk_sub, nI_mm, nI_leI, nI_ltI, nI_eq, pk_div, jrem_N, jshl_N, jshr_N, jushr_N, jmin_N, jmax_N, an_1, an_3, an_7, an_15, an_31, an_63, an_127, an_255, an_1023, an_2047, an_16383, an_65535, nm, pfI, rdI, rdW, rdL, rdI2, rdW2, ldA_N, stA_N, stB_N, stZ_N, pfZ_0, pfZ_1, rtZ_0, rtZ_1, acp_N, Option.bind_some, wp_some_iff, true_and, and_true, false_and, and_false, or_true, true_or, or_false, false_or, not_true_eq_false, not_false_eq_true, if_true, if_false, if_pos, if_neg, lt_sub, le_sub, sub_lt3, sub_le3, Option.bind_assoc, en, eT, ht]
        rw [← x7]
        exact ⟨x4, x5, x6⟩
      · rw [show 16 - i = (16 - (i + 1)) + 1 by omega, schN, if_neg (fun z => z.elim q0 q1)] at x7
        dsimp only at x7
        have hle : (s.2.2.eraseIdx (nthI s.2.2 0)).length = s.2.2.length - 1 := List.length_eraseIdx_of_lt hn.1
        have fin : ∀ b : Bool, b = goS s → wp ((f164 108 (nI (nthI s.2.2 0)) 120 m).bind fun r1 => (f162 108 (nI (nthI s.2.2 0)) r1).bind fun r3 => if nI (b2n b) = nI 0 then self (nI (i + 1), r3) else (f10 (nI 0) r3).bind fun r6 => self (nI (i + 1), r6)) (fun m => KC m (schN 16 y).1 ∧ ScC m (schN 16 y).2 ∧ Fr FYc μ m) := by
          intro b hb
          refine wp_bind (copyOut_C (p := 120) x5.2.2 hn.1 (by omega) (by rw [g2]; omega)) (fun m1 ⟨a1, a2⟩ => ?_)
          refine wp_bind (shrem_C (x5.2.2.fr a2 (fun c k _ _ => by omega)) hn.1) (fun m2 ⟨b1, b2⟩ => ?_)
          have f2 : Fr (fun c _ => 108 ≤ c ∧ c ≤ 113 ∨ 120 ≤ c ∧ c ≤ 121) m m2 := a2.tr b2 (by intro c k h; omega) (by intro c k h; omega)
          have k2 := x4.fr f2 (fun c k _ => by omega)
          have s2 : ScC m2 (s.1, s.2.1, s.2.2.eraseIdx (nthI s.2.2 0)) := ⟨by rw [f2.1 _ _ (by omega)]; exact x5.1, by rw [f2.1 _ _ (by omega)]; exact x5.2.1, b1⟩
          have fx : Fr FYc μ m2 := x6.tr f2 (fun _ _ q => q) (by intro c k h; omega)
          rw [← hb] at x7
          cases b
          · rw [if_neg (by decide)] at x7
            rw [b2n_f, if_pos rfl]
            exact hk ((k, (s.1, s.2.1, s.2.2.eraseIdx (nthI s.2.2 0))), m2) ⟨x1, x2.era hn.1, by dsimp only; omega, k2, s2, fx, x7⟩
          · rw [if_pos rfl] at x7
            rw [b2n_t, if_neg (by decide)]
            refine wp_bind (look_C (dep := 0) k2 x1 (a1.fr b2 (by omega) (fun k => by omega)) (by omega)) (fun m3 ⟨c1, c2⟩ => ?_)
            exact hk ((lookK k (pk s.2.2 (nthI s.2.2 0)).1 0, (s.1, s.2.1, s.2.2.eraseIdx (nthI s.2.2 0))), m3) ⟨lookK_I x1 (by omega) (by omega), x2.era hn.1, by dsimp only; omega, c1, s2.fr c2 (by omega) (by omega) (fun c k _ _ => by omega), fx.tr c2 (fun _ _ q => q) (by intro c k h; omega), x7⟩
        have h13 := x5.1
        have h12 := x5.2.1
        unfold f8
        cases hon : s.1
        · have hg : false = goS s := by unfold goS; rw [hon]; rfl
          rw [hon, b2n_f] at h13
          simp (disch := omega) only [i_0, i_1, i_2, i_3, i_4, i_5, i_6, i_7, i_8, i_9, i_10, i_11, i_12, i_13, i_14, i_15, i_16, i_17, i_18, i_19, i_20, i_21, i_22, i_23, i_24, i_25, i_26, i_27, i_31, i_32, i_40, i_42, i_45, i_48, i_51, i_52, i_56, i_58, i_59, i_60, i_61, i_62, i_63, i_64, i_85, i_90, i_100, i_112, i_120, i_121, i_127, i_128, i_130, i_144, i_171, i_192, i_193, i_197, i_200, i_207, i_235, i_240, i_248, i_252, i_254, i_255, i_256, i_512, i_544, i_768, i_769, i_793, i_1000, i_1023, i_1024, i_1200, i_1538, i_1541, i_1545, i_2046, i_2047, i_2049, i_2060, i_2736, i_2737, i_2817, i_2818, i_2819, i_2820, i_2821, i_2831, i_2832, i_3077, i_3085, i_3843, i_3849, i_3851, i_3852, i_4129, i_4353, i_4865, i_5121, i_5122, i_5123, i_6156, i_8192, i_12288, i_16383, i_32000, i_33280, i_49152, i_53247, i_60304, i_64000, i_64512, i_65521, i_65535, i_449838109, nI_add, pk_mul, pk_sub, nI_mm, nI_leI, nI_ltI, nI_eq, pk_div, jrem_N, jshl_N, jshr_N, jushr_N, jmin_N, jmax_N, an_1, an_3, an_7, an_15, an_31, an_63, an_127, an_255, an_1023, an_2047, an_16383, an_65535, nm, pfI, rdI, rdW, rdL, rdI2, rdW2, ldA_N, stA_N, stB_N, stZ_N, pfZ_0, pfZ_1, rtZ_0, rtZ_1, acp_N, Option.bind_some, wp_some_iff, true_and, and_true, false_and, and_false, or_true, true_or, or_false, false_or, not_true_eq_false, not_false_eq_true, if_true, if_false, if_pos, if_neg, lt_sub, le_sub, sub_lt3, sub_le3, Option.bind_assoc, en, eT, ht, h13]
          have := fin false hg
          rw [b2n_f] at this
          simp only [if_true] at this
          exact this
        · rw [hon, b2n_t] at h13
          have hbj := bit_j (x := m.1 101 12) (j := nt (pk s.2.2 (nthI s.2.2 0)).2.2) (by omega)
          rw [h12 _ e5] at hbj
          cases hg : s.2.1 (nt (pk s.2.2 (nthI s.2.2 0)).2.2)
          · have hgo : true = goS s := by unfold goS; rw [hon, hg]; rfl
            rw [hg, b2n_f] at hbj
            simp (disch := omega) only [i_0, i_1, i_2, i_3, i_4, i_5, i_6, i_7, i_8, i_9, i_10, i_11, i_12, i_13, i_14, i_15, i_16, i_17, i_18, i_19, i_20, i_21, i_22, i_23, i_24, i_25, i_26, i_27, i_31, i_32, i_40, i_42, i_45, i_48, i_51, i_52, i_56, i_58, i_59, i_60, i_61, i_62, i_63, i_64, i_85, i_90, i_100, i_112, i_120, i_121, i_127, i_128, i_130, i_144, i_171, i_192, i_193, i_197, i_200, i_207, i_235, i_240, i_248, i_252, i_254, i_255, i_256, i_512, i_544, i_768, i_769, i_793, i_1000, i_1023, i_1024, i_1200, i_1538, i_1541, i_1545, i_2046, i_2047, i_2049, i_2060, i_2736, i_2737, i_2817, i_2818, i_2819, i_2820, i_2821, i_2831, i_2832, i_3077, i_3085, i_3843, i_3849, i_3851, i_3852, i_4129, i_4353, i_4865, i_5121, i_5122, i_5123, i_6156, i_8192, i_12288, i_16383, i_32000, i_33280, i_49152, i_53247, i_60304, i_64000, i_64512, i_65521, i_65535, i_449838109, nI_add, pk_mul, pk_sub, nI_mm, nI_leI, nI_ltI, nI_eq, pk_div, jrem_N, jshl_N, jshr_N, jushr_N, jmin_N, jmax_N, an_1, an_3, an_7, an_15, an_31, an_63, an_127, an_255, an_1023, an_2047, an_16383, an_65535, nm, pfI, rdI, rdW, rdL, rdI2, rdW2, ldA_N, stA_N, stB_N, stZ_N, pfZ_0, pfZ_1, rtZ_0, rtZ_1, acp_N, Option.bind_some, wp_some_iff, true_and, and_true, false_and, and_false, or_true, true_or, or_false, false_or, not_true_eq_false, not_false_eq_true, if_true, if_false, if_pos, if_neg, lt_sub, le_sub, sub_lt3, sub_le3, Option.bind_assoc, en, eT, ht, h13, eM, hbj]
            have := fin true hgo
            rw [b2n_t] at this
            simp (disch := omega) only [i_0, i_1, i_2, i_3, i_4, i_5, i_6, i_7, i_8, i_9, i_10, i_11, i_12, i_13, i_14, i_15, i_16, i_17, i_18, i_19, i_20, i_21, i_22, i_23, i_24, i_25, i_26, i_27, i_31, i_32, i_40, i_42, i_45, i_48, i_51, i_52, i_56, i_58, i_59, i_60, i_61, i_62, i_63, i_64, i_85, i_90, i_100, i_112, i_120, i_121, i_127, i_128, i_130, i_144, i_171, i_192, i_193, i_197, i_200, i_207, i_235, i_240, i_248, i_252, i_254, i_255, i_256, i_512, i_544, i_768, i_769, i_793, i_1000, i_1023, i_1024, i_1200, i_1538, i_1541, i_1545, i_2046, i_2047, i_2049, i_2060, i_2736, i_2737, i_2817, i_2818, i_2819, i_2820, i_2821, i_2831, i_2832, i_3077, i_3085, i_3843, i_3849, i_3851, i_3852, i_4129, i_4353, i_4865, i_5121, i_5122, i_5123, i_6156, i_8192, i_12288, i_16383, i_32000, i_33280, i_49152, i_53247, i_60304, i_64000, i_64512, i_65521, i_65535, i_449838109, nI_add, pk_mul, pk_sub, nI_mm, nI_leI, nI_ltI, nI_eq, pk_div, jrem_N, jshl_N, jshr_N, jushr_N, jmin_N, jmax_N, an_1, an_3, an_7, an_15, an_31, an_63, an_127, an_255, an_1023, an_2047, an_16383, an_65535, nm, pfI, rdI, rdW, rdL, rdI2, rdW2, ldA_N, stA_N, stB_N, stZ_N, pfZ_0, pfZ_1, rtZ_0, rtZ_1, acp_N, Option.bind_some, wp_some_iff, true_and, and_true, false_and, and_false, or_true, true_or, or_false, false_or, not_true_eq_false, not_false_eq_true, if_true, if_false, if_pos, if_neg, lt_sub, le_sub, sub_lt3, sub_le3, Option.bind_assoc] at this
            exact this
          · have hgo : false = goS s := by unfold goS; rw [hon, hg]; rfl
            rw [hg, b2n_t] at hbj
            simp (disch := omega) only [i_0, i_1, i_2, i_3, i_4, i_5, i_6, i_7, i_8, i_9, i_10, i_11, i_12, i_13, i_14, i_15, i_16, i_17, i_18, i_19, i_20, i_21, i_22, i_23, i_24, i_25, i_26, i_27, i_31, i_32, i_40, i_42, i_45, i_48, i_51, i_52, i_56, i_58, i_59, i_60, i_61, i_62, i_63, i_64, i_85, i_90, i_100, i_112, i_120, i_121, i_127, i_128, i_130, i_144, i_171, i_192, i_193, i_197, i_200, i_207, i_235, i_240, i_248, i_252, i_254, i_255, i_256, i_512, i_544, i_768, i_769, i_793, i_1000, i_1023, i_1024, i_1200, i_1538, i_1541, i_1545, i_2046, i_2047, i_2049, i_2060, i_2736, i_2737, i_2817, i_2818, i_2819, i_2820, i_2821, i_2831, i_2832, i_3077, i_3085, i_3843, i_3849, i_3851, i_3852, i_4129, i_4353, i_4865, i_5121, i_5122, i_5123, i_6156, i_8192, i_12288, i_16383, i_32000, i_33280, i_49152, i_53247, i_60304, i_64000, i_64512, i_65521, i_65535, i_449838109, nI_add, pk_mul, pk_sub, nI_mm, nI_leI, nI_ltI, nI_eq, pk_div, jrem_N, jshl_N, jshr_N, jushr_N, jmin_N, jmax_N, an_1, an_3, an_7, an_15, an_31, an_63, an_127, an_255, an_1023, an_2047, an_16383, an_65535, nm, pfI, rdI, rdW, rdL, rdI2, rdW2, ldA_N, stA_N, stB_N, stZ_N, pfZ_0, pfZ_1, rtZ_0, rtZ_1, acp_N, Option.bind_some, wp_some_iff, true_and, and_true, false_and, and_false, or_true, true_or, or_false, false_or, not_true_eq_false, not_false_eq_true, if_true, if_false, if_pos, if_neg, lt_sub, le_sub, sub_lt3, sub_le3, Option.bind_assoc, en, eT, ht, h13, eM, hbj]
            have := fin false hgo
            rw [b2n_f] at this
            simp only [if_true] at this
            exact this
  · obtain ⟨⟨k, s⟩, m⟩ := x
    obtain ⟨x1, x2, x3, x4, x5, x6, x7⟩ := hx
    dsimp only at x1 x2 x3 x4 x5 x6 x7 ⊢
    unfold b51_2
    try simp (disch := omega) only [i_0, i_1, i_2, i_3, i_4, i_5, i_6, i_7, i_8, i_9, i_10, i_11, i_12, i_13, i_14, i_15, i_16, i_17, i_18, i_19, i_20, i_21, i_22, i_23, i_24, i_25, i_26, i_27, i_31, i_32, i_40, i_42, i_45, i_48, i_51, i_52, i_56, i_58, i_59, i_60, i_61, i_62, i_63, i_64, i_85, i_90, i_100, i_112, i_120, i_121, i_127, i_128, i_130, i_144, i_171, i_192, i_193, i_197, i_200, i_207, i_235, i_240, i_248, i_252, i_254, i_255, i_256, i_512, i_544, i_768, i_769, i_793, i_1000, i_1023, i_1024, i_1200, i_1538, i_1541, i_1545, i_2046, i_2047, i_2049, i_2060, i_2736, i_2737, i_2817, i_2818, i_2819, i_2820, i_2821, i_2831, i_2832, i_3077, i_3085, i_3843, i_3849, i_3851, i_3852, i_4129, i_4353, i_4865, i_5121, i_5122, i_5123, i_6156, i_8192, i_12288, i_16383, i_32000, i_33280, i_49152, i_53247, i_60304, i_64000, i_64512, i_65521, i_65535, i_449838109, nI_add, pk_mul, pk_sub, nI_mm, nI_leI, nI_ltI, nI_eq, pk_div, jrem_N, jshl_N, jshr_N, jushr_N, jmin_N, jmax_N, an_1, an_3, an_7, an_15, an_31, an_63, an_127, an_255, an_1023, an_2047, an_16383, an_65535, nm, pfI, rdI, rdW, rdL, rdI2, rdW2, ldA_N, stA_N, stB_N, stZ_N, pfZ_0, pfZ_1, rtZ_0, rtZ_1, acp_N, Option.bind_some, wp_some_iff, true_and, and_true, false_and, and_false, or_true, true_or, or_false, false_or, not_true_eq_false, not_false_eq_true, if_true, if_false, if_pos, if_neg, lt_sub, le_sub, sub_lt3, sub_le3, Option.bind_assoc]
    rw [← x7]
    exact ⟨x4, x5, x6⟩
