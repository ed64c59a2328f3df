/-! ===== rows of the law: what is only looked at (3), and two that set ===== -/
theorem nth_Cn {μ : Mem} {es : List Pk} {p : Int32} (h : Shf μ 108 es) (hI : EnI es) (hp : ∀ n, n < 1000 → ¬ nI n = p) : f50 p μ = some (μ, -nI 1) := by
  apply wp_eq
  have hl := hI.1
  have h5 := h.1
  unfold f50 l50_2
  refine wp_for (fun i m => (p, nI i, m)) (fun i m => m = μ) es.length (by omega) μ _ rfl rfl (fun self i m hi x1 hk => ?_) (fun self m x1 => ?_)
  · subst x1
    unfold b50_2
    rw [h5, if_neg (fun z => by have := (nI_leI (by omega) (by omega)).mp z; omega)]
    unfold l50_18
    refine wp_for (fun k m' => (p, nI i, nI (cn (ah es i) k), nI k, m')) (fun k m' => m' = m) es.length (by omega) m _ rfl rfl (fun self2 k m' hk2 x3 hk3 => ?_) (fun self2 m' x3 => ?_)
    · subst x3
      have hk4 := hk3 m' rfl
      have hc := cn_n (ah es i) k
      obtain ⟨_, _, ⟨t1, t2⟩, _⟩ := hI.2 k hk2
      obtain ⟨_, _, ⟨s1, s2⟩, _⟩ := hI.2 i hi
      have e1 := tagOf_y h hk2
      have e2 := tagOf_y h hi
      rw [t2] at e1
      rw [s2] at e2
      have e3 := cmp_C (μ := m') t1 s1
      rw [cn] at hk4
      unfold b50_18
      by_cases q : tm es k < tm es i
      · rw [show ah es i k = true from ah_iff.mpr (Or.inl q), b2n_t] at hk4
        rw [if_pos q] at e3
        unfold c50_68 c50_71
        simp (disch := omega) only [i_0, i_1, i_2, i_3, i_4, i_5, i_6, i_7, i_8, i_9, i_10, i_11, i_12, i_13, i_14, i_15, i_16, i_17, i_18, i_19, i_20, i_21, i_22, i_23, i_24, i_25, i_26, i_27, i_31, i_32, i_40, i_42, i_45, i_48, i_51, i_52, i_56, i_58, i_59, i_60, i_61, i_62, i_63, i_64, i_85, i_90, i_100, i_112, i_120, i_121, i_127, i_128, i_130, i_144, i_171, i_192, i_193, i_197, i_200, i_207, i_235, i_240, i_248, i_252, i_254, i_255, i_256, i_512, i_544, i_768, i_769, i_793, i_1000, i_1023, i_1024, i_1200, i_1538, i_1541, i_1545, i_2046, i_2047, i_2049, i_2060, i_2736, i_2737, i_2817, i_2818, i_2819, i_2820, i_2821, i_2831, i_2832, i_3077, i_3085, i_3843, i_3849, i_3851, i_3852, i_4129, i_4353, i_4865, i_5121, i_5122, i_5123, i_6156, i_8192, i_12288, i_16383, i_32000, i_33280, i_49152, i_53247, i_60304, i_64000, i_64512, i_65521, i_65535, i_449838109, nI_add, pk_mul, pk_sub, nI_mm, nI_leI, nI_ltI, nI_eq, pk_div, jrem_N, jshl_N, jshr_N, jushr_N, jmin_N, jmax_N, an_1, an_3, an_7, an_15, an_31, an_63, an_127, an_255, an_1023, an_2047, an_16383, an_65535, nm, pfI, rdI, rdW, rdL, rdI2, rdW2, ldA_N, stA_N, stB_N, stZ_N, pfZ_0, pfZ_1, rtZ_0, rtZ_1, acp_N, Option.bind_some, wp_some_iff, true_and, and_true, false_and, and_false, or_true, true_or, or_false, false_or, not_true_eq_false, not_false_eq_true, if_true, if_false, if_pos, if_neg, lt_sub, le_sub, sub_lt3, sub_le3, Option.bind_assoc, h5, e1, e2, e3, ng1]
        exact hk4
      · rw [if_neg q] at e3
        by_cases q2 : tm es k = tm es i
        · rw [if_pos q2] at e3
          by_cases q3 : k < i
          · rw [show ah es i k = true from ah_iff.mpr (Or.inr ⟨q2, q3⟩), b2n_t] at hk4
            unfold c50_68 c50_71
            simp (disch := omega) only [i_0, i_1, i_2, i_3, i_4, i_5, i_6, i_7, i_8, i_9, i_10, i_11, i_12, i_13, i_14, i_15, i_16, i_17, i_18, i_19, i_20, i_21, i_22, i_23, i_24, i_25, i_26, i_27, i_31, i_32, i_40, i_42, i_45, i_48, i_51, i_52, i_56, i_58, i_59, i_60, i_61, i_62, i_63, i_64, i_85, i_90, i_100, i_112, i_120, i_121, i_127, i_128, i_130, i_144, i_171, i_192, i_193, i_197, i_200, i_207, i_235, i_240, i_248, i_252, i_254, i_255, i_256, i_512, i_544, i_768, i_769, i_793, i_1000, i_1023, i_1024, i_1200, i_1538, i_1541, i_1545, i_2046, i_2047, i_2049, i_2060, i_2736, i_2737, i_2817, i_2818, i_2819, i_2820, i_2821, i_2831, i_2832, i_3077, i_3085, i_3843, i_3849, i_3851, i_3852, i_4129, i_4353, i_4865, i_5121, i_5122, i_5123, i_6156, i_8192, i_12288, i_16383, i_32000, i_33280, i_49152, i_53247, i_60304, i_64000, i_64512, i_65521, i_65535, i_449838109, nI_add, pk_mul, pk_sub, nI_mm, nI_leI, nI_ltI, nI_eq, pk_div, jrem_N, jshl_N, jshr_N, jushr_N, jmin_N, jmax_N, an_1, an_3, an_7, an_15, an_31, an_63, an_127, an_255, an_1023, an_2047, an_16383, an_65535, nm, pfI, rdI, rdW, rdL, rdI2, rdW2, ldA_N, stA_N, stB_N, stZ_N, pfZ_0, pfZ_1, rtZ_0, rtZ_1, acp_N, Option.bind_some, wp_some_iff, true_and, and_true, false_and, and_false, or_true, true_or, or_false, false_or, not_true_eq_false, not_false_eq_true, if_true, if_false, if_pos, if_neg, lt_sub, le_sub, sub_lt3, sub_le3, Option.bind_assoc, h5, e1, e2, e3]
            exact hk4
          · have hf : ah es i k = false := by
              unfold ah
              rw [decide_eq_false (by omega)]
            rw [hf, b2n_f, Nat.add_zero] at hk4
            unfold c50_68 c50_71
            simp (disch := omega) only [i_0, i_1, i_2, i_3, i_4, i_5, i_6, i_7, i_8, i_9, i_10, i_11, i_12, i_13, i_14, i_15, i_16, i_17, i_18, i_19, i_20, i_21, i_22, i_23, i_24, i_25, i_26, i_27, i_31, i_32, i_40, i_42, i_45, i_48, i_51, i_52, i_56, i_58, i_59, i_60, i_61, i_62, i_63, i_64, i_85, i_90, i_100, i_112, i_120, i_121, i_127, i_128, i_130, i_144, i_171, i_192, i_193, i_197, i_200, i_207, i_235, i_240, i_248, i_252, i_254, i_255, i_256, i_512, i_544, i_768, i_769, i_793, i_1000, i_1023, i_1024, i_1200, i_1538, i_1541, i_1545, i_2046, i_2047, i_2049, i_2060, i_2736, i_2737, i_2817, i_2818, i_2819, i_2820, i_2821, i_2831, i_2832, i_3077, i_3085, i_3843, i_3849, i_3851, i_3852, i_4129, i_4353, i_4865, i_5121, i_5122, i_5123, i_6156, i_8192, i_12288, i_16383, i_32000, i_33280, i_49152, i_53247, i_60304, i_64000, i_64512, i_65521, i_65535, i_449838109, nI_add, pk_mul, pk_sub, nI_mm, nI_leI, nI_ltI, nI_eq, pk_div, jrem_N, jshl_N, jshr_N, jushr_N, jmin_N, jmax_N, an_1, an_3, an_7, an_15, an_31, an_63, an_127, an_255, an_1023, an_2047, an_16383, an_65535, nm, pfI, rdI, rdW, rdL, rdI2, rdW2, ldA_N, stA_N, stB_N, stZ_N, pfZ_0, pfZ_1, rtZ_0, rtZ_1, acp_N, Option.bind_some, wp_some_iff, true_and, and_true, false_and, and_false, or_true, true_or, or_false, false_or, not_true_eq_false, not_false_eq_true, if_true, if_false, if_pos, if_neg, lt_sub, le_sub, sub_lt3, sub_le3, Option.bind_assoc, h5, e1, e2, e3]
            exact hk4
        · rw [if_neg q2] at e3
          have hf : ah es i k = false := by
            unfold ah
            rw [decide_eq_false (by omega)]
          rw [hf, b2n_f, Nat.add_zero] at hk4
          unfold c50_68 c50_71
          simp (disch := omega) only [i_0, i_1, i_2, i_3, i_4, i_5, i_6, i_7, i_8, i_9, i_10, i_11, i_12, i_13, i_14, i_15, i_16, i_17, i_18, i_19, i_20, i_21, i_22, i_23, i_24, i_25, i_26, i_27, i_31, i_32, i_40, i_42, i_45, i_48, i_51, i_52, i_56, i_58, i_59, i_60, i_61, i_62, i_63, i_64, i_85, i_90, i_100, i_112, i_120, i_121, i_127, i_128, i_130, i_144, i_171, i_192, i_193, i_197, i_200, i_207, i_235, i_240, i_248, i_252, i_254, i_255, i_256, i_512, i_544, i_768, i_769, i_793, i_1000, i_1023, i_1024, i_1200, i_1538, i_1541, i_1545, i_2046, i_2047, i_2049, i_2060, i_2736, i_2737, i_2817, i_2818, i_2819, i_2820, i_2821, i_2831, i_2832, i_3077, i_3085, i_3843, i_3849, i_3851, i_3852, i_4129, i_4353, i_4865, i_5121, i_5122, i_5123, i_6156, i_8192, i_12288, i_16383, i_32000, i_33280, i_49152, i_53247, i_60304, i_64000, i_64512, i_65521, i_65535, i_449838109, nI_add, pk_mul, pk_sub, nI_mm, nI_leI, nI_ltI, nI_eq, pk_div, jrem_N, jshl_N, jshr_N, jushr_N, jmin_N, jmax_N, an_1, an_3, an_7, an_15, an_31, an_63, an_127, an_255, an_1023, an_2047, an_16383, an_65535, nm, pfI, rdI, rdW, rdL, rdI2, rdW2, ldA_N, stA_N, stB_N, stZ_N, pfZ_0, pfZ_1, rtZ_0, rtZ_1, acp_N, Option.bind_some, wp_some_iff, true_and, and_true, false_and, and_false, or_true, true_or, or_false, false_or, not_true_eq_false, not_false_eq_true, if_true, if_false, if_pos, if_neg, lt_sub, le_sub, sub_lt3, sub_le3, Option.bind_assoc, h5, e1, e2, e3]
          exact hk4
    · subst x3
      have hc := cn_n (ah es i) es.length
      have hq := hp (cn (ah es i) es.length) (by omega)
      unfold b50_18
      rw [h5, if_pos ((nI_leI (by omega) (by omega)).mpr (Nat.le_refl _)), if_neg hq]
      dsimp only [nm]
      rw [i_1, nI_add]
      exact hk m' rfl
  · subst x1
    unfold b50_2
    rw [h5, if_pos ((nI_leI (by omega) (by omega)).mpr (Nat.le_refl _))]
    exact wp_some rfl
theorem rw_entry (p q : Int32) : Rw (f239 p q) (f361 p q) := by
  refine rw_get (fun n μ hn hI => ?_)
  obtain ⟨ns, t, bs, cl, v, e, x, f, a, b, c, d⟩ := hI
  obtain ⟨c1, c2, c3⟩ : ScC μ x.2.2.2.2.1 := a.2.2.2.2.1.2.2.2.2.1
  obtain ⟨m1, m2, m3, m4⟩ : ScM μ x.2.2.2.2.1 := b.2.2.2.2.1.2.2.2.2.1
  have hE := c.2.2.1.2.2.2.2.1
  have hl := hE.1
  have g1 := gl_203
  have g2 := gl_204
  have g3 := gl_205
  have g4 := gl_206
  have h5 := c3.1
  unfold f239 f361 c361_15
  by_cases p2 : p = (-2 : Int32)
  · rw [if_pos p2, if_pos p2]
    unfold f9
    rw [h5, c1, m3, m1]
    rcases sm q 5 with hq | ⟨j, hj, hj2, rfl⟩ | ⟨j, hj, hj2, rfl⟩
    · rw [if_pos hq, if_neg (show ¬ q = 0 from neg_ne (k := 0) hq (by omega)), if_neg (show ¬ q = 1 from neg_ne (k := 1) hq (by omega)), if_pos (show q < 2 from (by rw [i_2]; exact lt0_lt hq (by omega) (by omega)))]
      exact ⟨_, rfl, rfl⟩
    · rw [if_neg (nlt0 hj2), i_5, if_pos ((nI_leI (by omega) (by omega)).mpr hj)]
      by_cases j0 : j = 0
      · subst j0
        rw [if_pos (show nI 0 = 0 from rfl), if_pos (show nI 0 = 0 from rfl)]; exact ⟨_, rfl, rfl⟩
      · have n0 : ¬ nI j = 0 := fun z => j0 ((nI_eq (b := 0) (by omega) (by omega)).mp z)
        rw [if_neg n0, if_neg n0]
        by_cases j1 : j = 1
        · subst j1
          rw [if_pos (show nI 1 = 1 by decide), if_pos (show nI 1 = 1 by decide), b01 (b2n01 _), Option.bind_some]
          exact ⟨_, rfl, rfl⟩
        · have n1 : ¬ nI j = 1 := fun z => j1 ((nI_eq (b := 1) (by omega) (by omega)).mp z)
          rw [if_neg n1, if_neg n1, i_2, if_neg (show ¬ nI j < nI 2 from fun z => by have := (nI_ltI (by omega) (by omega)).mp z; omega), if_pos ((nI_leI (by omega) (by omega)).mpr hj), pk_sub (by omega), gof_C c2 (by omega), Option.bind_some, ldA_N (by omega), Option.bind_some, m2 (j - 2) (by omega)]
          dsimp only
          rw [b01 (b2n01 _), Option.bind_some]
          exact ⟨_, rfl, nb01⟩
    · have ne : ∀ m, m ≤ 5 → ¬ nI j = nI m := fun m hm z => by have := (nI_eq (by omega) (by omega)).mp z; omega
      rw [if_neg (nlt0 hj2), i_5, if_neg (show ¬ nI j ≤ nI 5 from fun z => by have := (nI_leI (by omega) (by omega)).mp z; omega), if_neg (show ¬ nI j = 0 from ne 0 (by omega)), if_neg (show ¬ nI j = 1 from ne 1 (by omega)), if_neg (show ¬ nI j < 2 from fun z => by have := (nI_ltI (b := 2) (by omega) (by omega)).mp z; omega), if_neg (show ¬ nI j ≤ nI 5 from fun z => by have := (nI_leI (by omega) (by omega)).mp z; omega)]
      exact ⟨_, rfl, rfl⟩
  · rw [if_neg p2, if_neg p2]
    have none : f50 p μ = some (μ, -nI 1) → p < 0 ∨ nI x.2.2.2.2.1.2.2.length ≤ p → ∃ a, ((f50 p μ).bind fun r2 => if 0 ≤ r2.2 then (if q = (0 : Int32) then (f167 108 r2.2 r2.1).bind fun r5 => some (r5.1, r5.2) else if q = (1 : Int32) then (f168 108 r2.2 r2.1).bind fun r8 => some (r8.1, r8.2) else if q = (2 : Int32) then (f166 108 r2.2 r2.1).bind fun r11 => some (r11.1, r11.2) else some (r2.1, (-1 : Int32))) else some (r2.1, (-1 : Int32))) = some (μ, a) ∧ (if p < 0 then some (μ, (-1 : Int32)) else if (μ.1 129 130) ≤ p then some (μ, (-1 : Int32)) else if q < 0 then some (μ, (-1 : Int32)) else if q ≤ (2 : Int32) then (if q = 0 then (ldA 204 p μ).bind fun x12 => some (μ, x12) else if q = (1 : Int32) then (ldA 205 p μ).bind fun x10 => some (μ, x10) else (ldA 206 p μ).bind fun x8 => some (μ, x8)) else some (μ, (-1 : Int32))) = some (μ, a) := by
      intro e1 e2
      refine ⟨-1, ?_, ?_⟩
      · rw [e1, Option.bind_some]
        dsimp only
        rw [if_neg (show ¬ (0 : Int32) ≤ -nI 1 by decide)]
      · by_cases z : p < 0
        · rw [if_pos z]
        · rw [if_neg z, m3, if_pos (e2.resolve_left z)]
    rcases neg_or p with hp | ⟨j, hj, rfl⟩
    · exact none (nth_Cn c3 hE (fun n hn z => neg_ne hp (by omega) z.symm)) (Or.inl hp)
    · by_cases jl : j < x.2.2.2.2.1.2.2.length
      · have hi := (nth_lt jl).1
        obtain ⟨s1, s2, s3, _⟩ := m4 j jl
        rw [nth_C c3 hE (by omega), nthV_y jl, Option.bind_some, if_neg (nlt0 hj), m3, if_neg (show ¬ nI x.2.2.2.2.1.2.2.length ≤ nI j from fun z => by have := (nI_leI (by omega) (by omega)).mp z; omega)]
        dsimp only
        rw [if_pos (nle0 (by omega)), tagOf_y c3 hi, markOf_y c3 hi, sizeOf_y c3 hi, Option.bind_some, Option.bind_some, Option.bind_some, ldA_N (by omega), ldA_N (by omega), ldA_N (by omega), Option.bind_some, Option.bind_some, Option.bind_some, s1, s2, s3]
        rcases sm q 2 with hq | ⟨k, hk, hk2, rfl⟩ | ⟨k, hk, hk2, rfl⟩
        · rw [if_pos hq, if_neg (show ¬ q = 0 from neg_ne (k := 0) hq (by omega)), if_neg (show ¬ q = 1 from neg_ne (k := 1) hq (by omega)), if_neg (show ¬ q = 2 from neg_ne (k := 2) hq (by omega))]
          exact ⟨_, rfl, rfl⟩
        · rw [if_neg (nlt0 hk2), if_pos (show nI k ≤ 2 from (nI_leI (b := 2) (by omega) (by omega)).mpr hk)]
          have cs : k = 0 ∨ k = 1 ∨ k = 2 := by omega
          rcases cs with rfl | rfl | rfl
          · rw [if_pos (show nI 0 = 0 from rfl), if_pos (show nI 0 = 0 from rfl)]; exact ⟨_, rfl, rfl⟩
          · rw [if_neg (show ¬ nI 1 = 0 by decide), if_neg (show ¬ nI 1 = 0 by decide), if_pos (show nI 1 = 1 by decide), if_pos (show nI 1 = 1 by decide)]; exact ⟨_, rfl, rfl⟩
          · rw [if_neg (show ¬ nI 2 = 0 by decide), if_neg (show ¬ nI 2 = 0 by decide), if_neg (show ¬ nI 2 = 1 by decide), if_neg (show ¬ nI 2 = 1 by decide), if_pos (show nI 2 = 2 by decide)]; exact ⟨_, rfl, rfl⟩
        · have ne : ∀ m, m ≤ 2 → ¬ nI k = nI m := fun m hm z => by have := (nI_eq (by omega) (by omega)).mp z; omega
          rw [if_neg (nlt0 hk2), if_neg (show ¬ nI k ≤ 2 from fun z => by have := (nI_leI (b := 2) (by omega) (by omega)).mp z; omega), if_neg (show ¬ nI k = 0 from ne 0 (by omega)), if_neg (show ¬ nI k = 1 from ne 1 (by omega)), if_neg (show ¬ nI k = 2 from ne 2 (by omega))]
          exact ⟨_, rfl, rfl⟩
      · refine none ?_ (Or.inr ((nI_leI (by omega) (by omega)).mpr (by omega)))
        by_cases jk : j < 1000
        · rw [nth_C c3 hE jk, nthV_n (by omega)]
        · exact nth_Cn c3 hE (fun n hn z => by have := (nI_eq (by omega) (by omega)).mp z; omega)
theorem rw_store (p q : Int32) : Rw (f240 p q) (f309 p q) := by
  refine rw_get (fun n μ hn hI => ?_)
  obtain ⟨ns, t, bs, cl, v, e, x, f, a, b, c, d⟩ := hI
  have hC0 : StC μ 0 e.1.1.1.2.2.2.2.1 := a.2.2.2.1.1.1.1.2.2.2.2.2.1
  have hC1 : StC μ 1 e.1.1.1.2.2.2.2.2 := a.2.2.2.1.1.1.1.2.2.2.2.2.2
  have hM0 : StM μ 0 e.1.1.1.2.2.2.2.1 := b.2.2.2.1.1.1.1.2.2.2.2.1
  have hM1 : StM μ 1 e.1.1.1.2.2.2.2.2 := b.2.2.2.1.1.1.1.2.2.2.2.2
  have hI0 : StI e.1.1.1.1 e.1.1.1.2.2.2.2.1 := c.2.1.1.1.1.2.2.1
  have hI1 : StI e.1.1.1.1 e.1.1.1.2.2.2.2.2 := c.2.1.1.1.1.2.2.2
  have key : ∀ (s : Nat) (y : Sto), s < 2 → StC μ s y → StM μ s y → StI e.1.1.1.1 y → ldR 58 (nI s) = some (59 + 8 * s) → ∃ a, f240 (nI s) q μ = some (μ, a) ∧ f309 (nI s) q μ = some (μ, a) := by
    intro s y hs hC hM hI hr
    obtain ⟨⟨a1, a2, a3, a4⟩, ⟨b1, b2, b3⟩, hS⟩ := hC
    obtain ⟨⟨c1, c2, c3, c4⟩, ⟨d1, d2, d3⟩, ⟨e1, e2⟩, hQ, hT⟩ := hM
    have hl := hI.2.2.len
    have ht := hI.2.2.1
    have h5 : μ.1 (59 + 8 * s + 1) 5 = nI y.2.2.length := hS.1
    have h6 : μ.1 (59 + 8 * s + 1) 6 = nI (tot y.2.2) := hS.2.1
    have g1 := gl_169
    have g2 := gl_170
    have g3 := gl_171
    have g4 := gl_172
    have g5 := gl_173
    have g6 := gl_174
    have g7 := gl_178
    unfold f240 f309
    rw [if_neg (nlt0 (by omega)), if_neg (nlt0 (by omega)), i_2, if_pos ((nI_ltI (by omega) (by omega)).mpr hs), i_1, if_neg (show ¬ nI 1 < nI s from fun z => by have := (nI_ltI (by omega) (by omega)).mp z; omega), hr, Option.bind_some, b1, b2, b3, h5, h6, a1]
    rcases sm q 7 with hq | ⟨k, hk, hk2, rfl⟩ | ⟨k, hk, hk2, rfl⟩
    · rw [if_pos hq, if_neg (show ¬ q = 0 from neg_ne (k := 0) hq (by omega)), if_neg (neg_ne (k := 1) hq (by omega)), if_neg (neg_ne (k := 2) hq (by omega)), if_neg (show ¬ q = 3 from neg_ne (k := 3) hq (by omega)), if_neg (show ¬ q = 4 from neg_ne (k := 4) hq (by omega)), if_neg (show ¬ q = 5 from neg_ne (k := 5) hq (by omega)), if_neg (show ¬ q = 6 from neg_ne (k := 6) hq (by omega)), if_neg (show ¬ q = 7 from neg_ne (k := 7) hq (by omega))]
      exact ⟨_, rfl, rfl⟩
    · rw [if_neg (nlt0 hk2), if_pos (show nI k ≤ 7 from (nI_leI (b := 7) (by omega) (by omega)).mpr hk), ldA_N (by omega), Option.bind_some, e1]
      have r0 : ∀ (w z : Int32), w = nI 0 ∨ w = nI 1 → c309_35 (nI s) (nI k) w μ = some (μ, z) → (if nI y.2.2.length = 0 then nI 1 else nI 0) = w → (if nI y.2.2.length = 0 then c309_35 (nI s) (nI k) (nI 1) μ else c309_35 (nI s) (nI k) 0 μ) = some (μ, z) := by
        intro w z _ h1 h2
        by_cases q : nI y.2.2.length = 0
        · rw [if_pos q] at h2 ⊢; rw [h2]; exact h1
        · rw [if_neg q] at h2 ⊢; rw [show (0 : Int32) = nI 0 from rfl, h2]; exact h1
      have cs : k = 0 ∨ k = 1 ∨ k = 2 ∨ k = 3 ∨ k = 4 ∨ k = 5 ∨ k = 6 ∨ k = 7 := by omega
      have wc : (if nI y.2.2.length = 0 then nI 1 else nI 0) = nI 0 ∨ (if nI y.2.2.length = 0 then nI 1 else nI 0) = nI 1 := by
        by_cases q : nI y.2.2.length = 0
        · rw [if_pos q]; exact Or.inr rfl
        · rw [if_neg q]; exact Or.inl rfl
      have ml : ∀ z, ∀ w, c309_35 (nI s) (nI k) w μ = some (μ, z) → (if nI y.2.2.length = 0 then nI 1 else nI 0) = w → (if nI y.2.2.length = 0 then c309_35 (nI s) (nI k) (nI 1) μ else c309_35 (nI s) (nI k) 0 μ) = some (μ, z) := fun z w h1 h2 => r0 w z (by rw [← h2]; exact wc) h1 h2
      rcases cs with rfl | rfl | rfl | rfl | rfl | rfl | rfl | rfl
      · refine ⟨y.1 0, ?_, ml _ _ ?_ rfl⟩
        · rw [if_pos (show nI 0 = 0 from rfl)]
        · unfold c309_35
          rw [if_pos (show nI 0 = 0 from rfl), ldA_N (by omega), Option.bind_some, d1]
      · refine ⟨y.1 1, ?_, ml _ _ ?_ rfl⟩
        · rw [if_neg (show ¬ nI 1 = 0 by decide), if_pos rfl]
          exact b01 hI.2.1
        · unfold c309_35
          rw [if_neg (show ¬ nI 1 = 0 by decide), if_pos (show nI 1 = 1 by decide), ldA_N (by omega), Option.bind_some, d2]
          exact b01 hI.2.1
      · refine ⟨nI y.2.2.length, ?_, ml _ _ ?_ rfl⟩
        · rw [if_neg (show ¬ nI 2 = 0 by decide), if_neg (show ¬ nI 2 = nI 1 by decide), if_pos rfl]
        · unfold c309_35
          rw [if_neg (show ¬ nI 2 = 0 by decide), if_neg (show ¬ nI 2 = 1 by decide), if_pos (show nI 2 = 2 by decide), ldA_N (by omega), Option.bind_some, e1]
      · refine ⟨nI (tot y.2.2), ?_, ml _ _ ?_ rfl⟩
        · rw [if_neg (show ¬ nI 3 = 0 by decide), if_neg (show ¬ nI 3 = nI 1 by decide), if_neg (show ¬ nI 3 = nI 2 by decide), if_pos (show nI 3 = 3 by decide)]
        · unfold c309_35
          rw [if_neg (show ¬ nI 3 = 0 by decide), if_neg (show ¬ nI 3 = 1 by decide), if_neg (show ¬ nI 3 = 2 by decide), if_pos (show nI 3 = 3 by decide), ldA_N (by omega), Option.bind_some, e2]
      · refine ⟨y.1 2, ?_, ml _ _ ?_ rfl⟩
        · rw [if_neg (show ¬ nI 4 = 0 by decide), if_neg (show ¬ nI 4 = nI 1 by decide), if_neg (show ¬ nI 4 = nI 2 by decide), if_neg (show ¬ nI 4 = 3 by decide), if_pos (show nI 4 = 4 by decide)]
        · unfold c309_35
          rw [if_neg (show ¬ nI 4 = 0 by decide), if_neg (show ¬ nI 4 = 1 by decide), if_neg (show ¬ nI 4 = 2 by decide), if_neg (show ¬ nI 4 = 3 by decide), if_pos (show nI 4 = 4 by decide), ldA_N (by omega), Option.bind_some, d3]
      · refine ⟨nI y.2.1.length, ?_, ml _ _ ?_ rfl⟩
        · rw [if_neg (show ¬ nI 5 = 0 by decide), if_neg (show ¬ nI 5 = nI 1 by decide), if_neg (show ¬ nI 5 = nI 2 by decide), if_neg (show ¬ nI 5 = 3 by decide), if_neg (show ¬ nI 5 = 4 by decide), if_pos (show nI 5 = 5 by decide)]
        · unfold c309_35
          rw [if_neg (show ¬ nI 5 = 0 by decide), if_neg (show ¬ nI 5 = 1 by decide), if_neg (show ¬ nI 5 = 2 by decide), if_neg (show ¬ nI 5 = 3 by decide), if_neg (show ¬ nI 5 = 4 by decide), if_pos (show nI 5 = 5 by decide), ldA_N (by omega), Option.bind_some, c1]
      · by_cases y0 : y.2.2.length = 0
        · have z0 : nI y.2.2.length = 0 := by rw [y0]; rfl
          refine ⟨-2, ?_, ml _ (nI 1) ?_ (if_pos z0)⟩
          · rw [if_neg (show ¬ nI 6 = 0 by decide), if_neg (show ¬ nI 6 = nI 1 by decide), if_neg (show ¬ nI 6 = nI 2 by decide), if_neg (show ¬ nI 6 = 3 by decide), if_neg (show ¬ nI 6 = 4 by decide), if_neg (show ¬ nI 6 = 5 by decide), if_pos (show nI 6 = 6 by decide), if_pos z0]
            rfl
          · unfold c309_35
            rw [if_neg (show ¬ nI 6 = 0 by decide), if_neg (show ¬ nI 6 = 1 by decide), if_neg (show ¬ nI 6 = 2 by decide), if_neg (show ¬ nI 6 = 3 by decide), if_neg (show ¬ nI 6 = 4 by decide), if_neg (show ¬ nI 6 = 5 by decide), if_pos (show nI 6 = 6 by decide), if_neg (show ¬ nI 1 = 0 by decide)]
        · have z0 : ¬ nI y.2.2.length = 0 := fun z => y0 ((nI_eq (b := 0) (by omega) (by omega)).mp z)
          have tg := hT (90 * s) (by omega) (by omega)
          dsimp only at tg
          rw [show 90 * s - 90 * s = 0 by omega] at tg
          refine ⟨(pk y.2.2 0).2.1, ?_, ml _ (nI 0) ?_ (if_neg z0)⟩
          · rw [if_neg (show ¬ nI 6 = 0 by decide), if_neg (show ¬ nI 6 = nI 1 by decide), if_neg (show ¬ nI 6 = nI 2 by decide), if_neg (show ¬ nI 6 = 3 by decide), if_neg (show ¬ nI 6 = 4 by decide), if_neg (show ¬ nI 6 = 5 by decide), if_pos (show nI 6 = 6 by decide), if_neg z0, i_0, tagOf_y hS (by omega), Option.bind_some]
          · unfold c309_35
            rw [if_neg (show ¬ nI 6 = 0 by decide), if_neg (show ¬ nI 6 = 1 by decide), if_neg (show ¬ nI 6 = 2 by decide), if_neg (show ¬ nI 6 = 3 by decide), if_neg (show ¬ nI 6 = 4 by decide), if_neg (show ¬ nI 6 = 5 by decide), if_pos (show nI 6 = 6 by decide), if_pos (show nI 0 = 0 from rfl), i_90, pk_mul, ldA_N (by omega), Option.bind_some, tg]
      · by_cases y0 : y.2.2.length = 0
        · have z0 : nI y.2.2.length = 0 := by rw [y0]; rfl
          refine ⟨-2, ?_, ml _ (nI 1) ?_ (if_pos z0)⟩
          · rw [if_neg (show ¬ nI 7 = 0 by decide), if_neg (show ¬ nI 7 = nI 1 by decide), if_neg (show ¬ nI 7 = nI 2 by decide), if_neg (show ¬ nI 7 = 3 by decide), if_neg (show ¬ nI 7 = 4 by decide), if_neg (show ¬ nI 7 = 5 by decide), if_neg (show ¬ nI 7 = 6 by decide), if_pos (show nI 7 = 7 by decide), if_pos z0]
            rfl
          · unfold c309_35
            rw [if_neg (show ¬ nI 7 = 0 by decide), if_neg (show ¬ nI 7 = 1 by decide), if_neg (show ¬ nI 7 = 2 by decide), if_neg (show ¬ nI 7 = 3 by decide), if_neg (show ¬ nI 7 = 4 by decide), if_neg (show ¬ nI 7 = 5 by decide), if_neg (show ¬ nI 7 = 6 by decide), if_neg (show ¬ nI 1 = 0 by decide)]
        · have z0 : ¬ nI y.2.2.length = 0 := fun z => y0 ((nI_eq (b := 0) (by omega) (by omega)).mp z)
          have tg := hT (90 * s + y.2.2.length - 1) (by omega) (by omega)
          dsimp only at tg
          rw [show 90 * s + y.2.2.length - 1 - 90 * s = y.2.2.length - 1 by omega] at tg
          refine ⟨(pk y.2.2 (y.2.2.length - 1)).2.1, ?_, ml _ (nI 0) ?_ (if_neg z0)⟩
          · rw [if_neg (show ¬ nI 7 = 0 by decide), if_neg (show ¬ nI 7 = nI 1 by decide), if_neg (show ¬ nI 7 = nI 2 by decide), if_neg (show ¬ nI 7 = 3 by decide), if_neg (show ¬ nI 7 = 4 by decide), if_neg (show ¬ nI 7 = 5 by decide), if_neg (show ¬ nI 7 = 6 by decide), if_pos (show nI 7 = 7 by decide), if_neg z0, pk_sub (by omega), tagOf_y hS (by omega), Option.bind_some]
          · unfold c309_35
            rw [if_neg (show ¬ nI 7 = 0 by decide), if_neg (show ¬ nI 7 = 1 by decide), if_neg (show ¬ nI 7 = 2 by decide), if_neg (show ¬ nI 7 = 3 by decide), if_neg (show ¬ nI 7 = 4 by decide), if_neg (show ¬ nI 7 = 5 by decide), if_neg (show ¬ nI 7 = 6 by decide), if_pos (show nI 0 = 0 from rfl), ldA_N (by omega), Option.bind_some, e1, i_90, pk_mul, nI_add, i_1, pk_sub (by omega), ldA_N (by omega), Option.bind_some, tg]
    · have ne : ∀ m, m ≤ 7 → ¬ nI k = nI m := fun m hm z => by have := (nI_eq (by omega) (by omega)).mp z; omega
      rw [if_neg (nlt0 hk2), if_neg (show ¬ nI k ≤ 7 from fun z => by have := (nI_leI (b := 7) (by omega) (by omega)).mp z; omega), if_neg (show ¬ nI k = 0 from ne 0 (by omega)), if_neg (ne 1 (by omega)), if_neg (ne 2 (by omega)), if_neg (show ¬ nI k = 3 from ne 3 (by omega)), if_neg (show ¬ nI k = 4 from ne 4 (by omega)), if_neg (show ¬ nI k = 5 from ne 5 (by omega)), if_neg (show ¬ nI k = 6 from ne 6 (by omega)), if_neg (show ¬ nI k = 7 from ne 7 (by omega))]
      exact ⟨_, rfl, rfl⟩
  rcases sm p 1 with hp | ⟨s, hs, hs2, rfl⟩ | ⟨s, hs, hs2, rfl⟩
  · unfold f240 f309
    rw [if_pos hp, if_pos hp]; exact ⟨_, rfl, rfl⟩
  · have : s = 0 ∨ s = 1 := by omega
    rcases this with rfl | rfl
    · exact key 0 _ (by omega) hC0 hM0 hI0 (by decide +kernel)
    · exact key 1 _ (by omega) hC1 hM1 hI1 (by decide +kernel)
  · unfold f240 f309
    rw [if_neg (nlt0 hs2), if_neg (nlt0 hs2), if_neg (show ¬ nI s < 2 from fun z => by have := (nI_ltI (b := 2) (by omega) (by omega)).mp z; omega), if_pos (show (1 : Int32) < nI s from (nI_ltI (a := 1) (by omega) (by omega)).mpr hs)]
    exact ⟨_, rfl, rfl⟩
