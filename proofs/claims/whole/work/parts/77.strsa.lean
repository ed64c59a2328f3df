/-! structures: what requests do -/
def def0 (st : Nat → Nat → Int32) (s : Nat) (bs : List Nat) : Nat → Nat → Int32 := up2 (up2 (up2 (up2 (up2 st s 0 (nI 1)) s 1 (nI 0)) s 2 (nI (w2 bs 12))) s 3 (nI 0)) s 4 (nI (bs.getD 14 0))
def defL (st : Nat → Nat → Int32) (s : Nat) (bs : List Nat) : Nat → Nat → Nat → Int32
  | 0 => def0 st s bs
  | i + 1 => up2 (defL st s bs i) s (5 + i) (nI (bs.getD (15 + i) 0))
def act3 (st : Nat → Nat → Int32) (bs : List Nat) : Nat → Nat → Int32 :=
  if bs.getD 8 0 = 1 then defL st (bs.getD 11 0) bs (bs.getD 14 0)
  else if bs.getD 8 0 = 3 then up2 st (bs.getD 11 0) 0 (nI 0)
  else if bs.getD 8 0 = 5 then up2 (up2 st (bs.getD 11 0) 1 (nI 1)) (bs.getD 11 0) 3 (st (bs.getD 11 0) 2)
  else if bs.getD 8 0 = 6 then up2 st (bs.getD 11 0) 1 (nI 0) else st
theorem why3_s {st : Nat → Nat → Int32} {bs : List Nat} (hw : why3 st bs = 0) : bs.getD 11 0 < 6 := by
  by_cases q : 6 ≤ bs.getD 11 0
  · exfalso
    unfold why3 at hw
    rw [if_pos q, if_pos q] at hw
    repeat' split at hw
    all_goals exact absurd hw (by decide)
  · omega
theorem StrI.up {st : Nat → Nat → Int32} {s k : Nat} {v : Int32} (h : StrI st) (h0 : k = 0 ∨ k = 1 → v = nI 0 ∨ v = nI 1) (h4 : k = 4 → ∃ n, n ≤ 8 ∧ v = nI n) (h5 : 5 ≤ k → ∃ n, n < 24 ∧ v = nI n) : StrI (up2 st s k v) := by
  have rd : ∀ a j, (a = s ∧ j = k) ∧ up2 st s k v a j = v ∨ up2 st s k v a j = st a j := by
    intro a j
    by_cases e : a = s ∧ j = k
    · left
      obtain ⟨rfl, rfl⟩ := e
      exact ⟨⟨rfl, rfl⟩, up2_s⟩
    · right
      exact up2_o e
  intro a ha
  obtain ⟨i1, i2, i3, i4⟩ := h a ha
  refine ⟨?_, ?_, ?_, fun i hi => ?_⟩
  · rcases rd a 0 with ⟨⟨_, z⟩, w⟩ | w
    · rw [w]; exact h0 (Or.inl z.symm)
    · rw [w]; exact i1
  · rcases rd a 1 with ⟨⟨_, z⟩, w⟩ | w
    · rw [w]; exact h0 (Or.inr z.symm)
    · rw [w]; exact i2
  · rcases rd a 4 with ⟨⟨_, z⟩, w⟩ | w
    · obtain ⟨n, hn, rfl⟩ := h4 z.symm
      rw [w, nt_nI (by omega)]
      exact ⟨hn, rfl⟩
    · rw [w]; exact i3
  · rcases rd a (5 + i) with ⟨⟨_, z⟩, w⟩ | w
    · obtain ⟨n, hn, rfl⟩ := h5 (by omega)
      rw [w, nt_nI (by omega)]
      exact ⟨hn, rfl⟩
    · rw [w]; exact i4 i hi
theorem act3_I {st : Nat → Nat → Int32} {bs : List Nat} (h : StrI st) (hP : Pkg bs) (h7 : bs.getD 7 0 = 3) (hw : why3 st bs = 0) : StrI (act3 st bs) := by
  have no : ∀ {k : Nat}, k ≤ 3 → ¬ k = 4 := fun h => by omega
  unfold act3
  split
  · next q =>
    have hs := hP.s3 h7
    have hr : ∀ i, i < bs.getD 14 0 → bs.getD (15 + i) 0 < 24 := by
      unfold why3 at hw
      rw [if_pos q] at hw
      cases ha : allP (fun i => bs.getD (15 + 1 * i) 0) 23 (bs.getD 14 0) with
      | false => rw [ha, if_pos rfl] at hw; exact absurd hw (by decide)
      | true =>
        intro i hi
        have := allP_t _ ha i hi
        rw [Nat.one_mul] at this
        omega
    have key : ∀ n, n ≤ bs.getD 14 0 → StrI (defL st (bs.getD 11 0) bs n) := by
      intro n
      induction n with
      | zero =>
        intro _
        show StrI (def0 st (bs.getD 11 0) bs)
        unfold def0
        refine StrI.up (StrI.up (StrI.up (StrI.up (StrI.up h ?_ ?_ ?_) ?_ ?_ ?_) ?_ ?_ ?_) ?_ ?_ ?_) ?_ ?_ ?_
        · exact fun _ => Or.inr rfl
        · exact fun z => absurd z (by decide)
        · exact fun z => absurd z (by decide)
        · exact fun _ => Or.inl rfl
        · exact fun z => absurd z (by decide)
        · exact fun z => absurd z (by decide)
        · exact fun z => absurd z (by decide)
        · exact fun z => absurd z (by decide)
        · exact fun z => absurd z (by decide)
        · exact fun z => absurd z (by decide)
        · exact fun z => absurd z (by decide)
        · exact fun z => absurd z (by decide)
        · exact fun z => absurd z (by decide)
        · exact fun _ => ⟨_, by omega, rfl⟩
        · exact fun z => absurd z (by decide)
      | succ n ih =>
        intro hn
        show StrI (up2 (defL st (bs.getD 11 0) bs n) (bs.getD 11 0) (5 + n) (nI (bs.getD (15 + n) 0)))
        exact (ih (by omega)).up (fun z => by omega) (fun z => by omega) (fun _ => ⟨_, hr n (by omega), rfl⟩)
    exact key _ (Nat.le_refl _)
  · split
    · exact h.up (fun _ => Or.inl rfl) (fun z => absurd z (by decide)) (fun z => absurd z (by decide))
    · split
      · exact (h.up (k := 1) (fun _ => Or.inr rfl) (fun z => absurd z (by decide)) (fun z => absurd z (by decide))).up3
      · split
        · exact h.up (fun _ => Or.inl rfl) (fun z => absurd z (by decide)) (fun z => absurd z (by decide))
        · exact h
theorem Pkg.t3 {bs : List Nat} (h : Pkg bs) (h7 : bs.getD 7 0 = 3) : bs.getD 8 0 = 1 ∧ 1 ≤ bs.getD 14 0 ∧ bs.getD 14 0 ≤ 8 ∧ bs.length = 17 + bs.getD 14 0 ∨ (bs.getD 8 0 = 3 ∨ bs.getD 8 0 = 5 ∨ bs.getD 8 0 = 6 ∨ bs.getD 8 0 = 27) ∧ bs.length = 14 := by
  rcases h.s3 h7 with ⟨a, b, c, d, _⟩ | e
  · exact Or.inl ⟨a, b, c, d⟩
  · exact Or.inr e
theorem act3_C {μ : Mem} {st : Nat → Nat → Int32} {bs : List Nat} (h : Byt μ 122 bs) (hS : StrC μ st) (hP : Pkg bs) (h7 : bs.getD 7 0 = 3) (hw : why3 st bs = 0) (q : bs.getD 8 0 ≠ 27) : wp (f35 μ) (fun m => StrC m (act3 st bs) ∧ Fr (fun c _ => c = 125) μ m) := by
  have g := gl_125
  have e8 := sub_C h
  have e11 := arg_C h (i := 0) (by omega)
  have e14 := arg_C h (i := 3) (by omega)
  have b8 := h.get 8
  have hs6 := why3_s hw
  have hs := hP.t3 h7
  rw [show 11 + 0 = 11 from rfl] at e11
  rw [show 11 + 3 = 14 from rfl] at e14
  unfold f35 act3
  generalize bs.getD 11 0 = s at *
  by_cases q1 : bs.getD 8 0 = 1
  · rw [if_pos q1]
    have hn : bs.getD 14 0 ≤ 8 := by omega
    simp (disch := omega) only [i_0, i_1, i_2, i_3, i_4, i_5, i_6, i_7, i_8, i_9, i_10, i_11, i_12, i_13, i_14, i_15, i_16, i_17, i_18, i_19, i_20, i_21, i_22, i_23, i_24, i_25, i_26, i_27, i_31, i_32, i_40, i_42, i_45, i_48, i_51, i_52, i_56, i_58, i_59, i_60, i_61, i_62, i_63, i_64, i_85, i_90, i_100, i_112, i_120, i_121, i_127, i_128, i_130, i_144, i_171, i_192, i_193, i_197, i_200, i_207, i_235, i_240, i_248, i_252, i_254, i_255, i_256, i_512, i_544, i_768, i_769, i_793, i_1000, i_1023, i_1024, i_1200, i_1538, i_1541, i_1545, i_2046, i_2047, i_2049, i_2060, i_2736, i_2737, i_2817, i_2818, i_2819, i_2820, i_2821, i_2831, i_2832, i_3077, i_3085, i_3843, i_3849, i_3851, i_3852, i_4129, i_4353, i_4865, i_5121, i_5122, i_5123, i_6156, i_8192, i_12288, i_16383, i_32000, i_33280, i_49152, i_53247, i_60304, i_64000, i_64512, i_65521, i_65535, i_449838109, nI_add, pk_mul, pk_sub, nI_mm, nI_leI, nI_ltI, nI_eq, pk_div, jrem_N, jshl_N, jshr_N, jushr_N, jmin_N, jmax_N, an_1, an_3, an_7, an_15, an_31, an_63, an_127, an_255, an_1023, an_2047, an_16383, an_65535, nm, pfI, rdI, rdW, rdL, rdI2, rdW2, ldA_N, stA_N, stB_N, stZ_N, pfZ_0, pfZ_1, rtZ_0, rtZ_1, acp_N, Option.bind_some, wp_some_iff, true_and, and_true, false_and, and_false, or_true, true_or, or_false, false_or, not_true_eq_false, not_false_eq_true, if_true, if_false, if_pos, if_neg, lt_sub, le_sub, sub_lt3, sub_le3, Option.bind_assoc, e8, e11, q1]
    unfold f36
    simp (disch := omega) only [i_0, i_1, i_2, i_3, i_4, i_5, i_6, i_7, i_8, i_9, i_10, i_11, i_12, i_13, i_14, i_15, i_16, i_17, i_18, i_19, i_20, i_21, i_22, i_23, i_24, i_25, i_26, i_27, i_31, i_32, i_40, i_42, i_45, i_48, i_51, i_52, i_56, i_58, i_59, i_60, i_61, i_62, i_63, i_64, i_85, i_90, i_100, i_112, i_120, i_121, i_127, i_128, i_130, i_144, i_171, i_192, i_193, i_197, i_200, i_207, i_235, i_240, i_248, i_252, i_254, i_255, i_256, i_512, i_544, i_768, i_769, i_793, i_1000, i_1023, i_1024, i_1200, i_1538, i_1541, i_1545, i_2046, i_2047, i_2049, i_2060, i_2736, i_2737, i_2817, i_2818, i_2819, i_2820, i_2821, i_2831, i_2832, i_3077, i_3085, i_3843, i_3849, i_3851, i_3852, i_4129, i_4353, i_4865, i_5121, i_5122, i_5123, i_6156, i_8192, i_12288, i_16383, i_32000, i_33280, i_49152, i_53247, i_60304, i_64000, i_64512, i_65521, i_65535, i_449838109, nI_add, pk_mul, pk_sub, nI_mm, nI_leI, nI_ltI, nI_eq, pk_div, jrem_N, jshl_N, jshr_N, jushr_N, jmin_N, jmax_N, an_1, an_3, an_7, an_15, an_31, an_63, an_127, an_255, an_1023, an_2047, an_16383, an_65535, nm, pfI, rdI, rdW, rdL, rdI2, rdW2, ldA_N, stA_N, stB_N, stZ_N, pfZ_0, pfZ_1, rtZ_0, rtZ_1, acp_N, Option.bind_some, wp_some_iff, true_and, and_true, false_and, and_false, or_true, true_or, or_false, false_or, not_true_eq_false, not_false_eq_true, if_true, if_false, if_pos, if_neg, lt_sub, le_sub, sub_lt3, sub_le3, Option.bind_assoc, e14, g]
    rw [Nat.min_eq_left hn]
    have f2 : Fr (fun c _ => c = 125) μ (setI (setI μ 125 (s * 13) (nI 1)) 125 (s * 13 + 1) (nI 0)) := (Fr.sI (by omega)).pI (by omega)
    have e12 := arg2_C (h.fr f2 (by omega) (fun k => by omega)) (i := 1) (by omega)
    rw [show 11 + 1 = 12 from rfl] at e12
    have s2 := (hS.up (s := s) (k := 0) (j := s * 13) (v := nI 1) (by omega) (by omega)).up (s := s) (k := 1) (j := s * 13 + 1) (v := nI 0) (by omega) (by omega)
    rw [Nat.add_zero, e12, Option.bind_some]
    generalize setI (setI μ 125 (s * 13) (nI 1)) 125 (s * 13 + 1) (nI 0) = m2 at *
    try simp (disch := omega) only [i_0, i_1, i_2, i_3, i_4, i_5, i_6, i_7, i_8, i_9, i_10, i_11, i_12, i_13, i_14, i_15, i_16, i_17, i_18, i_19, i_20, i_21, i_22, i_23, i_24, i_25, i_26, i_27, i_31, i_32, i_40, i_42, i_45, i_48, i_51, i_52, i_56, i_58, i_59, i_60, i_61, i_62, i_63, i_64, i_85, i_90, i_100, i_112, i_120, i_121, i_127, i_128, i_130, i_144, i_171, i_192, i_193, i_197, i_200, i_207, i_235, i_240, i_248, i_252, i_254, i_255, i_256, i_512, i_544, i_768, i_769, i_793, i_1000, i_1023, i_1024, i_1200, i_1538, i_1541, i_1545, i_2046, i_2047, i_2049, i_2060, i_2736, i_2737, i_2817, i_2818, i_2819, i_2820, i_2821, i_2831, i_2832, i_3077, i_3085, i_3843, i_3849, i_3851, i_3852, i_4129, i_4353, i_4865, i_5121, i_5122, i_5123, i_6156, i_8192, i_12288, i_16383, i_32000, i_33280, i_49152, i_53247, i_60304, i_64000, i_64512, i_65521, i_65535, i_449838109, nI_add, pk_mul, pk_sub, nI_mm, nI_leI, nI_ltI, nI_eq, pk_div, jrem_N, jshl_N, jshr_N, jushr_N, jmin_N, jmax_N, an_1, an_3, an_7, an_15, an_31, an_63, an_127, an_255, an_1023, an_2047, an_16383, an_65535, nm, pfI, rdI, rdW, rdL, rdI2, rdW2, ldA_N, stA_N, stB_N, stZ_N, pfZ_0, pfZ_1, rtZ_0, rtZ_1, acp_N, Option.bind_some, wp_some_iff, true_and, and_true, false_and, and_false, or_true, true_or, or_false, false_or, not_true_eq_false, not_false_eq_true, if_true, if_false, if_pos, if_neg, lt_sub, le_sub, sub_lt3, sub_le3, Option.bind_assoc]
    have s5 := ((s2.up (s := s) (k := 2) (j := s * 13 + 2) (v := nI (w2 bs 12)) (by omega) (by omega)).up (s := s) (k := 3) (j := s * 13 + 3) (v := nI 0) (by omega) (by omega)).up (s := s) (k := 4) (j := s * 13 + 4) (v := nI (bs.getD 14 0)) (by omega) (by omega)
    have f5 : Fr (fun c _ => c = 125) μ (setI (setI (setI m2 125 (s * 13 + 2) (nI (w2 bs 12))) 125 (s * 13 + 3) (nI 0)) 125 (s * 13 + 4) (nI (bs.getD 14 0))) := ((f2.pI rfl).pI rfl).pI rfl
    generalize setI (setI (setI m2 125 (s * 13 + 2) (nI (w2 bs 12))) 125 (s * 13 + 3) (nI 0)) 125 (s * 13 + 4) (nI (bs.getD 14 0)) = m5 at *
    unfold l36_79
    refine wp_bind (P := fun m => StrC m (defL st s bs (bs.getD 14 0)) ∧ Fr (fun c _ => c = 125) μ m) ?_ (fun m h => wp_some h)
    refine wp_for (fun i m => (nI (s * 13), nI (bs.getD 14 0), nI i, m)) (fun i m => StrC m (defL st s bs i) ∧ Fr (fun c _ => c = 125) μ m) (bs.getD 14 0) (by omega) m5 _ rfl ⟨s5, f5⟩ (fun self i m hi ⟨x1, x2⟩ hk => ?_) (fun self m ⟨x1, x2⟩ => ?_)
    · have e := arg_C (h.fr x2 (by omega) (fun k => by omega)) (i := 4 + i) (by omega)
      rw [show 11 + (4 + i) = 15 + i by omega] at e
      unfold b36_79
      simp (disch := omega) only [i_0, i_1, i_2, i_3, i_4, i_5, i_6, i_7, i_8, i_9, i_10, i_11, i_12, i_13, i_14, i_15, i_16, i_17, i_18, i_19, i_20, i_21, i_22, i_23, i_24, i_25, i_26, i_27, i_31, i_32, i_40, i_42, i_45, i_48, i_51, i_52, i_56, i_58, i_59, i_60, i_61, i_62, i_63, i_64, i_85, i_90, i_100, i_112, i_120, i_121, i_127, i_128, i_130, i_144, i_171, i_192, i_193, i_197, i_200, i_207, i_235, i_240, i_248, i_252, i_254, i_255, i_256, i_512, i_544, i_768, i_769, i_793, i_1000, i_1023, i_1024, i_1200, i_1538, i_1541, i_1545, i_2046, i_2047, i_2049, i_2060, i_2736, i_2737, i_2817, i_2818, i_2819, i_2820, i_2821, i_2831, i_2832, i_3077, i_3085, i_3843, i_3849, i_3851, i_3852, i_4129, i_4353, i_4865, i_5121, i_5122, i_5123, i_6156, i_8192, i_12288, i_16383, i_32000, i_33280, i_49152, i_53247, i_60304, i_64000, i_64512, i_65521, i_65535, i_449838109, nI_add, pk_mul, pk_sub, nI_mm, nI_leI, nI_ltI, nI_eq, pk_div, jrem_N, jshl_N, jshr_N, jushr_N, jmin_N, jmax_N, an_1, an_3, an_7, an_15, an_31, an_63, an_127, an_255, an_1023, an_2047, an_16383, an_65535, nm, pfI, rdI, rdW, rdL, rdI2, rdW2, ldA_N, stA_N, stB_N, stZ_N, pfZ_0, pfZ_1, rtZ_0, rtZ_1, acp_N, Option.bind_some, wp_some_iff, true_and, and_true, false_and, and_false, or_true, true_or, or_false, false_or, not_true_eq_false, not_false_eq_true, if_true, if_false, if_pos, if_neg, lt_sub, le_sub, sub_lt3, sub_le3, Option.bind_assoc, e]
      exact hk _ ⟨x1.up (s := s) (k := 5 + i) (by omega) (by omega), x2.pI rfl⟩
    · unfold b36_79
      try simp (disch := omega) only [i_0, i_1, i_2, i_3, i_4, i_5, i_6, i_7, i_8, i_9, i_10, i_11, i_12, i_13, i_14, i_15, i_16, i_17, i_18, i_19, i_20, i_21, i_22, i_23, i_24, i_25, i_26, i_27, i_31, i_32, i_40, i_42, i_45, i_48, i_51, i_52, i_56, i_58, i_59, i_60, i_61, i_62, i_63, i_64, i_85, i_90, i_100, i_112, i_120, i_121, i_127, i_128, i_130, i_144, i_171, i_192, i_193, i_197, i_200, i_207, i_235, i_240, i_248, i_252, i_254, i_255, i_256, i_512, i_544, i_768, i_769, i_793, i_1000, i_1023, i_1024, i_1200, i_1538, i_1541, i_1545, i_2046, i_2047, i_2049, i_2060, i_2736, i_2737, i_2817, i_2818, i_2819, i_2820, i_2821, i_2831, i_2832, i_3077, i_3085, i_3843, i_3849, i_3851, i_3852, i_4129, i_4353, i_4865, i_5121, i_5122, i_5123, i_6156, i_8192, i_12288, i_16383, i_32000, i_33280, i_49152, i_53247, i_60304, i_64000, i_64512, i_65521, i_65535, i_449838109, nI_add, pk_mul, pk_sub, nI_mm, nI_leI, nI_ltI, nI_eq, pk_div, jrem_N, jshl_N, jshr_N, jushr_N, jmin_N, jmax_N, an_1, an_3, an_7, an_15, an_31, an_63, an_127, an_255, an_1023, an_2047, an_16383, an_65535, nm, pfI, rdI, rdW, rdL, rdI2, rdW2, ldA_N, stA_N, stB_N, stZ_N, pfZ_0, pfZ_1, rtZ_0, rtZ_1, acp_N, Option.bind_some, wp_some_iff, true_and, and_true, false_and, and_false, or_true, true_or, or_false, false_or, not_true_eq_false, not_false_eq_true, if_true, if_false, if_pos, if_neg, lt_sub, le_sub, sub_lt3, sub_le3, Option.bind_assoc]
      exact ⟨x1, x2⟩
  · rw [if_neg q1]
    by_cases q3 : bs.getD 8 0 = 3
    · rw [if_pos q3]
      simp (disch := omega) only [i_0, i_1, i_2, i_3, i_4, i_5, i_6, i_7, i_8, i_9, i_10, i_11, i_12, i_13, i_14, i_15, i_16, i_17, i_18, i_19, i_20, i_21, i_22, i_23, i_24, i_25, i_26, i_27, i_31, i_32, i_40, i_42, i_45, i_48, i_51, i_52, i_56, i_58, i_59, i_60, i_61, i_62, i_63, i_64, i_85, i_90, i_100, i_112, i_120, i_121, i_127, i_128, i_130, i_144, i_171, i_192, i_193, i_197, i_200, i_207, i_235, i_240, i_248, i_252, i_254, i_255, i_256, i_512, i_544, i_768, i_769, i_793, i_1000, i_1023, i_1024, i_1200, i_1538, i_1541, i_1545, i_2046, i_2047, i_2049, i_2060, i_2736, i_2737, i_2817, i_2818, i_2819, i_2820, i_2821, i_2831, i_2832, i_3077, i_3085, i_3843, i_3849, i_3851, i_3852, i_4129, i_4353, i_4865, i_5121, i_5122, i_5123, i_6156, i_8192, i_12288, i_16383, i_32000, i_33280, i_49152, i_53247, i_60304, i_64000, i_64512, i_65521, i_65535, i_449838109, nI_add, pk_mul, pk_sub, nI_mm, nI_leI, nI_ltI, nI_eq, pk_div, jrem_N, jshl_N, jshr_N, jushr_N, jmin_N, jmax_N, an_1, an_3, an_7, an_15, an_31, an_63, an_127, an_255, an_1023, an_2047, an_16383, an_65535, nm, pfI, rdI, rdW, rdL, rdI2, rdW2, ldA_N, stA_N, stB_N, stZ_N, pfZ_0, pfZ_1, rtZ_0, rtZ_1, acp_N, Option.bind_some, wp_some_iff, true_and, and_true, false_and, and_false, or_true, true_or, or_false, false_or, not_true_eq_false, not_false_eq_true, if_true, if_false, if_pos, if_neg, lt_sub, le_sub, sub_lt3, sub_le3, Option.bind_assoc, e8, e11, q3]
      exact ⟨hS.up (by omega) (by omega), Fr.sI rfl⟩
    · rw [if_neg q3]
      by_cases q5 : bs.getD 8 0 = 5
      · rw [if_pos q5]
        have e2 := hS s hs6 2 (by omega)
        rw [Nat.mul_comm] at e2
        simp (disch := omega) only [i_0, i_1, i_2, i_3, i_4, i_5, i_6, i_7, i_8, i_9, i_10, i_11, i_12, i_13, i_14, i_15, i_16, i_17, i_18, i_19, i_20, i_21, i_22, i_23, i_24, i_25, i_26, i_27, i_31, i_32, i_40, i_42, i_45, i_48, i_51, i_52, i_56, i_58, i_59, i_60, i_61, i_62, i_63, i_64, i_85, i_90, i_100, i_112, i_120, i_121, i_127, i_128, i_130, i_144, i_171, i_192, i_193, i_197, i_200, i_207, i_235, i_240, i_248, i_252, i_254, i_255, i_256, i_512, i_544, i_768, i_769, i_793, i_1000, i_1023, i_1024, i_1200, i_1538, i_1541, i_1545, i_2046, i_2047, i_2049, i_2060, i_2736, i_2737, i_2817, i_2818, i_2819, i_2820, i_2821, i_2831, i_2832, i_3077, i_3085, i_3843, i_3849, i_3851, i_3852, i_4129, i_4353, i_4865, i_5121, i_5122, i_5123, i_6156, i_8192, i_12288, i_16383, i_32000, i_33280, i_49152, i_53247, i_60304, i_64000, i_64512, i_65521, i_65535, i_449838109, nI_add, pk_mul, pk_sub, nI_mm, nI_leI, nI_ltI, nI_eq, pk_div, jrem_N, jshl_N, jshr_N, jushr_N, jmin_N, jmax_N, an_1, an_3, an_7, an_15, an_31, an_63, an_127, an_255, an_1023, an_2047, an_16383, an_65535, nm, pfI, rdI, rdW, rdL, rdI2, rdW2, ldA_N, stA_N, stB_N, stZ_N, pfZ_0, pfZ_1, rtZ_0, rtZ_1, acp_N, Option.bind_some, wp_some_iff, true_and, and_true, false_and, and_false, or_true, true_or, or_false, false_or, not_true_eq_false, not_false_eq_true, if_true, if_false, if_pos, if_neg, lt_sub, le_sub, sub_lt3, sub_le3, Option.bind_assoc, e8, e11, q5, e2]
        exact ⟨(hS.up (s := s) (k := 1) (by omega) (by omega)).up (s := s) (k := 3) (by omega) (by omega), (Fr.sI (by omega)).pI (by omega)⟩
      · rw [if_neg q5]
        have q6 : bs.getD 8 0 = 6 := by omega
        rw [if_pos q6]
        simp (disch := omega) only [i_0, i_1, i_2, i_3, i_4, i_5, i_6, i_7, i_8, i_9, i_10, i_11, i_12, i_13, i_14, i_15, i_16, i_17, i_18, i_19, i_20, i_21, i_22, i_23, i_24, i_25, i_26, i_27, i_31, i_32, i_40, i_42, i_45, i_48, i_51, i_52, i_56, i_58, i_59, i_60, i_61, i_62, i_63, i_64, i_85, i_90, i_100, i_112, i_120, i_121, i_127, i_128, i_130, i_144, i_171, i_192, i_193, i_197, i_200, i_207, i_235, i_240, i_248, i_252, i_254, i_255, i_256, i_512, i_544, i_768, i_769, i_793, i_1000, i_1023, i_1024, i_1200, i_1538, i_1541, i_1545, i_2046, i_2047, i_2049, i_2060, i_2736, i_2737, i_2817, i_2818, i_2819, i_2820, i_2821, i_2831, i_2832, i_3077, i_3085, i_3843, i_3849, i_3851, i_3852, i_4129, i_4353, i_4865, i_5121, i_5122, i_5123, i_6156, i_8192, i_12288, i_16383, i_32000, i_33280, i_49152, i_53247, i_60304, i_64000, i_64512, i_65521, i_65535, i_449838109, nI_add, pk_mul, pk_sub, nI_mm, nI_leI, nI_ltI, nI_eq, pk_div, jrem_N, jshl_N, jshr_N, jushr_N, jmin_N, jmax_N, an_1, an_3, an_7, an_15, an_31, an_63, an_127, an_255, an_1023, an_2047, an_16383, an_65535, nm, pfI, rdI, rdW, rdL, rdI2, rdW2, ldA_N, stA_N, stB_N, stZ_N, pfZ_0, pfZ_1, rtZ_0, rtZ_1, acp_N, Option.bind_some, wp_some_iff, true_and, and_true, false_and, and_false, or_true, true_or, or_false, false_or, not_true_eq_false, not_false_eq_true, if_true, if_false, if_pos, if_neg, lt_sub, le_sub, sub_lt3, sub_le3, Option.bind_assoc, e8, e11, q6]
        exact ⟨hS.up (s := s) (k := 1) (by omega) (by omega), Fr.sI rfl⟩
