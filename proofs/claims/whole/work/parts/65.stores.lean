/-! ===== STORES ===== -/
abbrev Sto : Type := (Nat → Int32) × List Nat × List Pk
def tot (ps : List Pk) : Nat := off ps ps.length
theorem mem_gD {l : List Nat} {w : Nat} : w ∈ l ↔ ∃ j, j < l.length ∧ l.getD j 0 = w := by
  constructor
  · intro h
    obtain ⟨j, hj, e⟩ := List.mem_iff_getElem.mp h
    exact ⟨j, hj, by rw [List.getD_eq_getElem?_getD, List.getElem?_eq_getElem hj]; exact e⟩
  · rintro ⟨j, hj, e⟩
    rw [List.getD_eq_getElem?_getD, List.getElem?_eq_getElem hj] at e
    rw [← e]
    exact List.getElem_mem hj
def StC (μ : Mem) (s : Nat) (x : Sto) : Prop := (μ.1 (59 + 8 * s) 2 = nI x.2.1.length ∧ x.2.1.length ≤ 6 ∧ (∀ i, i < x.2.1.length → μ.1 (59 + 8 * s + 7) i = nI (x.2.1.getD i 0)) ∧ ∀ b, b ∈ x.2.1 → b < 65536) ∧ (μ.1 (59 + 8 * s) 3 = x.1 0 ∧ μ.1 (59 + 8 * s) 4 = x.1 1 ∧ μ.1 (59 + 8 * s) 5 = x.1 2) ∧ Shf μ (59 + 8 * s + 1) x.2.2
def StM (μ : Mem) (s : Nat) (x : Sto) : Prop := (μ.1 174 s = nI x.2.1.length ∧ x.2.1.length ≤ 6 ∧ (∀ i, i < x.2.1.length → μ.1 175 (6 * s + i) = nI (x.2.1.getD i 0)) ∧ ∀ b, b ∈ x.2.1 → b < 65536) ∧ (μ.1 169 s = x.1 0 ∧ μ.1 170 s = x.1 1 ∧ μ.1 173 s = x.1 2) ∧ (μ.1 171 s = nI x.2.2.length ∧ μ.1 172 s = nI (tot x.2.2)) ∧ QF μ 176 177 100 (90 * s) (90 * s + x.2.2.length) (fun i => (pk x.2.2 (i - 90 * s)).1) ∧ TF μ 178 (90 * s) (90 * s + x.2.2.length) (fun i => (pk x.2.2 (i - 90 * s)).2.1)
def SPk (tk : Nat) (ps : List Pk) : Prop := tot ps ≤ 1200 ∧ (∀ i, i < ps.length → 15 ≤ (pk ps i).1.length ∧ (pk ps i).1.length ≤ 82 ∧ (pk ps i).2.2 = nI 0 ∧ ∃ v, v ≤ tk ∧ (pk ps i).2.1 = nI v) ∧ ∀ i j u v, i < j → j < ps.length → u ≤ tk → v ≤ tk → (pk ps i).2.1 = nI u → (pk ps j).2.1 = nI v → u ≤ v
def StI (tk : Nat) (x : Sto) : Prop := (x.1 0 = nI 0 ∨ x.1 0 = nI 1) ∧ (x.1 1 = nI 0 ∨ x.1 1 = nI 1) ∧ SPk tk x.2.2
theorem off_15 {ps : List Pk} (h : ∀ i, i < ps.length → 15 ≤ (pk ps i).1.length) : ∀ n, n ≤ ps.length → 15 * n ≤ off ps n
  | 0, _ => Nat.le_refl _
  | n + 1, hn => by
    have h1 := off_15 h n (by omega)
    have h2 := h n (by omega)
    show 15 * (n + 1) ≤ off ps n + (pk ps n).1.length
    omega
theorem SPk.len {tk : Nat} {ps : List Pk} (h : SPk tk ps) : 15 * ps.length ≤ tot ps := off_15 (fun i hi => (h.2.1 i hi).1) ps.length (Nat.le_refl _)
theorem stg {s : Nat} (h : s < 2) : gln (59 + 8 * s + 7) = 6 ∧ gln (59 + 8 * s + 1 + 1) = 1200 ∧ gln (59 + 8 * s + 1 + 2) = 80 := by
  have : s = 0 ∨ s = 1 := by omega
  rcases this with rfl | rfl
  · exact ⟨gl_66, gl_61, gl_62⟩
  · exact ⟨gl_74, gl_69, gl_70⟩
abbrev FSt (s : Nat) : Nat → Nat → Prop := fun c _ => 59 + 8 * s ≤ c ∧ c ≤ 66 + 8 * s
abbrev FStM (s : Nat) : Nat → Nat → Prop := fun c k => (169 ≤ c ∧ c ≤ 174 ∧ k = s) ∨ c = 175 ∧ 6 * s ≤ k ∧ k < 6 * s + 6 ∨ c = 176 ∧ 9000 * s ≤ k ∧ k < 9000 * s + 9000 ∨ (c = 177 ∨ c = 178) ∧ 90 * s ≤ k ∧ k < 90 * s + 90
theorem StC.fr {μ m : Mem} {s : Nat} {x : Sto} {P : Nat → Nat → Prop} (h : StC μ s x) (ho : Fr P μ m) (h1 : ∀ c k, 59 + 8 * s ≤ c → c ≤ 66 + 8 * s → ¬ P c k) : StC m s x := by
  obtain ⟨⟨a1, a2, a3, a4⟩, ⟨b1, b2, b3⟩, c1⟩ := h
  refine ⟨⟨by rw [ho.1 _ _ (h1 _ _ (by omega) (by omega))]; exact a1, a2, fun i hi => by rw [ho.1 _ _ (h1 _ _ (by omega) (by omega))]; exact a3 i hi, a4⟩, ⟨by rw [ho.1 _ _ (h1 _ _ (by omega) (by omega))]; exact b1, by rw [ho.1 _ _ (h1 _ _ (by omega) (by omega))]; exact b2, by rw [ho.1 _ _ (h1 _ _ (by omega) (by omega))]; exact b3⟩, c1.fr ho (fun c k q1 q2 => h1 c k (by omega) (by omega))⟩
theorem QF.fr2 {μ m : Mem} {r z w lo hi : Nat} {f : Nat → List Nat} {P : Nat → Nat → Prop} (h : QF μ r z w lo hi f) (ho : Fr P μ m) (h1 : ∀ i k, lo ≤ i → i < hi → w * i ≤ k → k < w * i + w → ¬ P r k) (h2 : ∀ k, lo ≤ k → k < hi → ¬ P z k) : QF m r z w lo hi f :=
  fun i a b => ⟨by rw [ho.1 _ _ (h2 i a b)]; exact (h i a b).1, (h i a b).2.1, (h i a b).2.2.cg (fun k hk => ho.1 _ _ (h1 i _ a b (by omega) (by have := (h i a b).2.1; omega)))⟩
theorem TF.fr2 {μ m : Mem} {c lo hi : Nat} {g : Nat → Int32} {P : Nat → Nat → Prop} (h : TF μ c lo hi g) (ho : Fr P μ m) (h1 : ∀ k, lo ≤ k → k < hi → ¬ P c k) : TF m c lo hi g := fun i a b => by rw [ho.1 _ _ (h1 i a b)]; exact h i a b
theorem StM.fr {μ m : Mem} {s : Nat} {x : Sto} {P : Nat → Nat → Prop} (h : StM μ s x) (hl : x.2.2.length ≤ 90) (ho : Fr P μ m) (h1 : ∀ c k, FStM s c k → ¬ P c k) : StM m s x := by
  obtain ⟨⟨a1, a2, a3, a4⟩, ⟨b1, b2, b3⟩, ⟨c1, c2⟩, d1, d2⟩ := h
  refine ⟨⟨by rw [ho.1 _ _ (h1 _ _ (by omega))]; exact a1, a2, fun i hi => by rw [ho.1 _ _ (h1 _ _ (by omega))]; exact a3 i hi, a4⟩, ⟨by rw [ho.1 _ _ (h1 _ _ (by omega))]; exact b1, by rw [ho.1 _ _ (h1 _ _ (by omega))]; exact b2, by rw [ho.1 _ _ (h1 _ _ (by omega))]; exact b3⟩, ⟨by rw [ho.1 _ _ (h1 _ _ (by omega))]; exact c1, by rw [ho.1 _ _ (h1 _ _ (by omega))]; exact c2⟩, ?_, ?_⟩
  · exact d1.fr2 ho (fun i k _ _ _ _ => h1 _ _ (by omega)) (fun k _ _ => h1 _ _ (by omega))
  · exact d2.fr2 ho (fun k _ _ => h1 _ _ (by omega))
theorem isch_C {μ : Mem} {s w : Nat} {x : Sto} (hs : s < 2) (h : StC μ s x) (hw : w < 65536) : f175 (59 + 8 * s) (nI w) μ = some (μ, nI (b2n (decide (w ∈ x.2.1)))) := by
  have g := (stg hs).1
  obtain ⟨a1, a2, a3, a4⟩ := h.1
  apply wp_eq
  unfold f175 l175_2
  simp (disch := omega) only [i_0, i_1, i_2, i_3, i_4, i_5, i_6, i_7, i_8, i_9, i_10, i_11, i_12, i_13, i_14, i_15, i_16, i_17, i_18, i_19, i_20, i_21, i_22, i_23, i_24, i_25, i_26, i_27, i_31, i_32, i_40, i_42, i_45, i_48, i_51, i_52, i_56, i_58, i_59, i_60, i_61, i_62, i_63, i_64, i_85, i_90, i_100, i_112, i_120, i_121, i_127, i_128, i_130, i_144, i_171, i_192, i_193, i_197, i_200, i_207, i_235, i_240, i_248, i_252, i_254, i_255, i_256, i_512, i_544, i_768, i_769, i_793, i_1000, i_1023, i_1024, i_1200, i_1538, i_1541, i_1545, i_2046, i_2047, i_2049, i_2060, i_2736, i_2737, i_2817, i_2818, i_2819, i_2820, i_2821, i_2831, i_2832, i_3077, i_3085, i_3843, i_3849, i_3851, i_3852, i_4129, i_4353, i_4865, i_5121, i_5122, i_5123, i_6156, i_8192, i_12288, i_16383, i_32000, i_33280, i_49152, i_53247, i_60304, i_64000, i_64512, i_65521, i_65535, i_449838109, nI_add, pk_mul, pk_sub, nI_mm, nI_leI, nI_ltI, nI_eq, pk_div, jrem_N, jshl_N, jshr_N, jushr_N, jmin_N, jmax_N, an_1, an_3, an_7, an_15, an_31, an_63, an_127, an_255, an_1023, an_2047, an_16383, an_65535, nm, pfI, rdI, rdW, rdL, rdI2, rdW2, ldA_N, stA_N, stB_N, stZ_N, pfZ_0, pfZ_1, rtZ_0, rtZ_1, acp_N, Option.bind_some, wp_some_iff, true_and, and_true, false_and, and_false, or_true, true_or, or_false, false_or, not_true_eq_false, not_false_eq_true, if_true, if_false, if_pos, if_neg, lt_sub, le_sub, sub_lt3, sub_le3]
  refine wp_for (fun i m => (nI w, nI i, m)) (fun i m => m = μ ∧ ∀ j, j < i → x.2.1.getD j 0 ≠ w) x.2.1.length (by omega) μ _ rfl ⟨rfl, fun j hj => by omega⟩ (fun self i m hi ⟨y1, y2⟩ hk => ?_) (fun self m ⟨y1, y2⟩ => ?_)
  · subst y1
    have hb := a4 _ (mem_gD.mpr ⟨i, hi, rfl⟩)
    unfold b175_2
    simp (disch := omega) only [i_0, i_1, i_2, i_3, i_4, i_5, i_6, i_7, i_8, i_9, i_10, i_11, i_12, i_13, i_14, i_15, i_16, i_17, i_18, i_19, i_20, i_21, i_22, i_23, i_24, i_25, i_26, i_27, i_31, i_32, i_40, i_42, i_45, i_48, i_51, i_52, i_56, i_58, i_59, i_60, i_61, i_62, i_63, i_64, i_85, i_90, i_100, i_112, i_120, i_121, i_127, i_128, i_130, i_144, i_171, i_192, i_193, i_197, i_200, i_207, i_235, i_240, i_248, i_252, i_254, i_255, i_256, i_512, i_544, i_768, i_769, i_793, i_1000, i_1023, i_1024, i_1200, i_1538, i_1541, i_1545, i_2046, i_2047, i_2049, i_2060, i_2736, i_2737, i_2817, i_2818, i_2819, i_2820, i_2821, i_2831, i_2832, i_3077, i_3085, i_3843, i_3849, i_3851, i_3852, i_4129, i_4353, i_4865, i_5121, i_5122, i_5123, i_6156, i_8192, i_12288, i_16383, i_32000, i_33280, i_49152, i_53247, i_60304, i_64000, i_64512, i_65521, i_65535, i_449838109, nI_add, pk_mul, pk_sub, nI_mm, nI_leI, nI_ltI, nI_eq, pk_div, jrem_N, jshl_N, jshr_N, jushr_N, jmin_N, jmax_N, an_1, an_3, an_7, an_15, an_31, an_63, an_127, an_255, an_1023, an_2047, an_16383, an_65535, nm, pfI, rdI, rdW, rdL, rdI2, rdW2, ldA_N, stA_N, stB_N, stZ_N, pfZ_0, pfZ_1, rtZ_0, rtZ_1, acp_N, Option.bind_some, wp_some_iff, true_and, and_true, false_and, and_false, or_true, true_or, or_false, false_or, not_true_eq_false, not_false_eq_true, if_true, if_false, if_pos, if_neg, lt_sub, le_sub, sub_lt3, sub_le3, a1, a3 i hi]
    by_cases e : x.2.1.getD i 0 = w
    · rw [if_pos e, decide_eq_true (mem_gD.mpr ⟨i, hi, e⟩)]
      exact wp_some rfl
    · rw [if_neg e]
      refine hk _ ⟨rfl, fun j hj => ?_⟩
      by_cases e2 : j = i
      · rw [e2]; exact e
      · exact y2 j (by omega)
  · subst y1
    unfold b175_2
    simp (disch := omega) only [i_0, i_1, i_2, i_3, i_4, i_5, i_6, i_7, i_8, i_9, i_10, i_11, i_12, i_13, i_14, i_15, i_16, i_17, i_18, i_19, i_20, i_21, i_22, i_23, i_24, i_25, i_26, i_27, i_31, i_32, i_40, i_42, i_45, i_48, i_51, i_52, i_56, i_58, i_59, i_60, i_61, i_62, i_63, i_64, i_85, i_90, i_100, i_112, i_120, i_121, i_127, i_128, i_130, i_144, i_171, i_192, i_193, i_197, i_200, i_207, i_235, i_240, i_248, i_252, i_254, i_255, i_256, i_512, i_544, i_768, i_769, i_793, i_1000, i_1023, i_1024, i_1200, i_1538, i_1541, i_1545, i_2046, i_2047, i_2049, i_2060, i_2736, i_2737, i_2817, i_2818, i_2819, i_2820, i_2821, i_2831, i_2832, i_3077, i_3085, i_3843, i_3849, i_3851, i_3852, i_4129, i_4353, i_4865, i_5121, i_5122, i_5123, i_6156, i_8192, i_12288, i_16383, i_32000, i_33280, i_49152, i_53247, i_60304, i_64000, i_64512, i_65521, i_65535, i_449838109, nI_add, pk_mul, pk_sub, nI_mm, nI_leI, nI_ltI, nI_eq, pk_div, jrem_N, jshl_N, jshr_N, jushr_N, jmin_N, jmax_N, an_1, an_3, an_7, an_15, an_31, an_63, an_127, an_255, an_1023, an_2047, an_16383, an_65535, nm, pfI, rdI, rdW, rdL, rdI2, rdW2, ldA_N, stA_N, stB_N, stZ_N, pfZ_0, pfZ_1, rtZ_0, rtZ_1, acp_N, Option.bind_some, wp_some_iff, true_and, and_true, false_and, and_false, or_true, true_or, or_false, false_or, not_true_eq_false, not_false_eq_true, if_true, if_false, if_pos, if_neg, lt_sub, le_sub, sub_lt3, sub_le3, a1]
    rw [decide_eq_false (fun z => by obtain ⟨j, hj, e⟩ := mem_gD.mp z; exact y2 j hj e), b2n_f]
theorem isch_M {μ : Mem} {s sv sb : Nat} {x : Sto} (hs : s < 2) (h : StM μ s x) (hv : sv < 256) (hb : sb < 256) : f306 (nI s) (nI sv) (nI sb) μ = some (μ, nI (b2n (decide (256 * sv + sb ∈ x.2.1)))) := by
  have g := gl_174
  have g2 := gl_175
  obtain ⟨a1, a2, a3, a4⟩ := h.1
  apply wp_eq
  unfold f306 l306_3
  simp (disch := omega) only [i_0, i_1, i_2, i_3, i_4, i_5, i_6, i_7, i_8, i_9, i_10, i_11, i_12, i_13, i_14, i_15, i_16, i_17, i_18, i_19, i_20, i_21, i_22, i_23, i_24, i_25, i_26, i_27, i_31, i_32, i_40, i_42, i_45, i_48, i_51, i_52, i_56, i_58, i_59, i_60, i_61, i_62, i_63, i_64, i_85, i_90, i_100, i_112, i_120, i_121, i_127, i_128, i_130, i_144, i_171, i_192, i_193, i_197, i_200, i_207, i_235, i_240, i_248, i_252, i_254, i_255, i_256, i_512, i_544, i_768, i_769, i_793, i_1000, i_1023, i_1024, i_1200, i_1538, i_1541, i_1545, i_2046, i_2047, i_2049, i_2060, i_2736, i_2737, i_2817, i_2818, i_2819, i_2820, i_2821, i_2831, i_2832, i_3077, i_3085, i_3843, i_3849, i_3851, i_3852, i_4129, i_4353, i_4865, i_5121, i_5122, i_5123, i_6156, i_8192, i_12288, i_16383, i_32000, i_33280, i_49152, i_53247, i_60304, i_64000, i_64512, i_65521, i_65535, i_449838109, nI_add, pk_mul, pk_sub, nI_mm, nI_leI, nI_ltI, nI_eq, pk_div, jrem_N, jshl_N, jshr_N, jushr_N, jmin_N, jmax_N, an_1, an_3, an_7, an_15, an_31, an_63, an_127, an_255, an_1023, an_2047, an_16383, an_65535, nm, pfI, rdI, rdW, rdL, rdI2, rdW2, ldA_N, stA_N, stB_N, stZ_N, pfZ_0, pfZ_1, rtZ_0, rtZ_1, acp_N, Option.bind_some, wp_some_iff, true_and, and_true, false_and, and_false, or_true, true_or, or_false, false_or, not_true_eq_false, not_false_eq_true, if_true, if_false, if_pos, if_neg, lt_sub, le_sub, sub_lt3, sub_le3]
  refine wp_for (fun i m => (nI s, nI sv, nI sb, nI i, m)) (fun i m => m = μ ∧ ∀ j, j < i → x.2.1.getD j 0 ≠ 256 * sv + sb) x.2.1.length (by omega) μ _ rfl ⟨rfl, fun j hj => by omega⟩ (fun self i m hi ⟨y1, y2⟩ hk => ?_) (fun self m ⟨y1, y2⟩ => ?_)
  · subst y1
    have hb := a4 _ (mem_gD.mpr ⟨i, hi, rfl⟩)
    unfold b306_3
    simp (disch := omega) only [i_0, i_1, i_2, i_3, i_4, i_5, i_6, i_7, i_8, i_9, i_10, i_11, i_12, i_13, i_14, i_15, i_16, i_17, i_18, i_19, i_20, i_21, i_22, i_23, i_24, i_25, i_26, i_27, i_31, i_32, i_40, i_42, i_45, i_48, i_51, i_52, i_56, i_58, i_59, i_60, i_61, i_62, i_63, i_64, i_85, i_90, i_100, i_112, i_120, i_121, i_127, i_128, i_130, i_144, i_171, i_192, i_193, i_197, i_200, i_207, i_235, i_240, i_248, i_252, i_254, i_255, i_256, i_512, i_544, i_768, i_769, i_793, i_1000, i_1023, i_1024, i_1200, i_1538, i_1541, i_1545, i_2046, i_2047, i_2049, i_2060, i_2736, i_2737, i_2817, i_2818, i_2819, i_2820, i_2821, i_2831, i_2832, i_3077, i_3085, i_3843, i_3849, i_3851, i_3852, i_4129, i_4353, i_4865, i_5121, i_5122, i_5123, i_6156, i_8192, i_12288, i_16383, i_32000, i_33280, i_49152, i_53247, i_60304, i_64000, i_64512, i_65521, i_65535, i_449838109, nI_add, pk_mul, pk_sub, nI_mm, nI_leI, nI_ltI, nI_eq, pk_div, jrem_N, jshl_N, jshr_N, jushr_N, jmin_N, jmax_N, an_1, an_3, an_7, an_15, an_31, an_63, an_127, an_255, an_1023, an_2047, an_16383, an_65535, nm, pfI, rdI, rdW, rdL, rdI2, rdW2, ldA_N, stA_N, stB_N, stZ_N, pfZ_0, pfZ_1, rtZ_0, rtZ_1, acp_N, Option.bind_some, wp_some_iff, true_and, and_true, false_and, and_false, or_true, true_or, or_false, false_or, not_true_eq_false, not_false_eq_true, if_true, if_false, if_pos, if_neg, lt_sub, le_sub, sub_lt3, sub_le3, a1, a3 i hi]
    by_cases e : x.2.1.getD i 0 = 256 * sv + sb
    · rw [if_pos e, decide_eq_true (mem_gD.mpr ⟨i, hi, e⟩)]
      exact wp_some rfl
    · rw [if_neg e]
      refine hk _ ⟨rfl, fun j hj => ?_⟩
      by_cases e2 : j = i
      · rw [e2]; exact e
      · exact y2 j (by omega)
  · subst y1
    unfold b306_3
    simp (disch := omega) only [i_0, i_1, i_2, i_3, i_4, i_5, i_6, i_7, i_8, i_9, i_10, i_11, i_12, i_13, i_14, i_15, i_16, i_17, i_18, i_19, i_20, i_21, i_22, i_23, i_24, i_25, i_26, i_27, i_31, i_32, i_40, i_42, i_45, i_48, i_51, i_52, i_56, i_58, i_59, i_60, i_61, i_62, i_63, i_64, i_85, i_90, i_100, i_112, i_120, i_121, i_127, i_128, i_130, i_144, i_171, i_192, i_193, i_197, i_200, i_207, i_235, i_240, i_248, i_252, i_254, i_255, i_256, i_512, i_544, i_768, i_769, i_793, i_1000, i_1023, i_1024, i_1200, i_1538, i_1541, i_1545, i_2046, i_2047, i_2049, i_2060, i_2736, i_2737, i_2817, i_2818, i_2819, i_2820, i_2821, i_2831, i_2832, i_3077, i_3085, i_3843, i_3849, i_3851, i_3852, i_4129, i_4353, i_4865, i_5121, i_5122, i_5123, i_6156, i_8192, i_12288, i_16383, i_32000, i_33280, i_49152, i_53247, i_60304, i_64000, i_64512, i_65521, i_65535, i_449838109, nI_add, pk_mul, pk_sub, nI_mm, nI_leI, nI_ltI, nI_eq, pk_div, jrem_N, jshl_N, jshr_N, jushr_N, jmin_N, jmax_N, an_1, an_3, an_7, an_15, an_31, an_63, an_127, an_255, an_1023, an_2047, an_16383, an_65535, nm, pfI, rdI, rdW, rdL, rdI2, rdW2, ldA_N, stA_N, stB_N, stZ_N, pfZ_0, pfZ_1, rtZ_0, rtZ_1, acp_N, Option.bind_some, wp_some_iff, true_and, and_true, false_and, and_false, or_true, true_or, or_false, false_or, not_true_eq_false, not_false_eq_true, if_true, if_false, if_pos, if_neg, lt_sub, le_sub, sub_lt3, sub_le3, a1]
    rw [decide_eq_false (fun z => by obtain ⟨j, hj, e⟩ := mem_gD.mp z; exact y2 j hj e), b2n_f]
def drN (n : Nat) : Nat → List Pk → List Pk
  | 0, ps => ps
  | k + 1, ps => if tot ps + n ≤ 1200 then ps else drN n k (ps.eraseIdx 0)
def addS (x : Sto) (tk : Nat) (p : List Nat) : Sto :=
  if tot x.2.2 + p.length ≤ 1200 then (x.1, x.2.1, x.2.2 ++ [(p, nI tk, nI 0)]) else (upL x.1 2 (x.1 2 + nI 1), x.2.1, x.2.2)
def offS (x : Sto) (tk : Nat) (p : List Nat) (w : Nat) : Sto :=
  if x.1 1 = nI 0 then x else if w ∈ x.2.1 then (if x.1 0 = nI 0 then addS x tk p else addS (x.1, x.2.1, drN p.length x.2.2.length x.2.2) tk p) else x
theorem tot_era {ps : List Pk} (h : 0 < ps.length) : tot (ps.eraseIdx 0) + (pk ps 0).1.length = tot ps := by
  have := off_era2 (ps := ps) (j := 0) (ps.length - 1) (Nat.zero_le _)
  unfold tot
  rw [era_len h, this, show ps.length - 1 + 1 = ps.length by omega]
theorem tot_app {ps : List Pk} {p : Pk} : tot (ps ++ [p]) = tot ps + p.1.length := by
  unfold tot
  rw [List.length_append]
  exact off_app1
theorem SPk.era {tk : Nat} {ps : List Pk} (h : SPk tk ps) (h0 : 0 < ps.length) : SPk tk (ps.eraseIdx 0) := by
  have hl := era_len h0
  have ht := tot_era h0
  refine ⟨by have := h.1; omega, fun i hi => ?_, fun i j u v q1 q2 q3 q4 q5 q6 => ?_⟩
  · rw [pk_era, if_neg (by omega)]
    exact h.2.1 (i + 1) (by omega)
  · rw [pk_era, if_neg (by omega)] at q5 q6
    exact h.2.2 (i + 1) (j + 1) u v (by omega) (by omega) q3 q4 q5 q6
theorem SPk.dr {tk n : Nat} : ∀ (k : Nat) {ps : List Pk}, SPk tk ps → k ≤ ps.length → SPk tk (drN n k ps)
  | 0, ps, h, _ => h
  | k + 1, ps, h, hk => by
    unfold drN
    split
    · exact h
    · exact SPk.dr k (h.era (by omega)) (by rw [era_len (by omega)]; omega)
theorem SPk.app {tk : Nat} {ps : List Pk} {p : List Nat} (h : SPk tk ps) (h1 : 15 ≤ p.length) (h2 : p.length ≤ 82) (h3 : tot ps + p.length ≤ 1200) (htk : tk < 2 ^ 31) : SPk tk (ps ++ [(p, nI tk, nI 0)]) := by
  refine ⟨by rw [tot_app]; exact h3, fun i hi => ?_, fun i j u v q1 q2 q3 q4 q5 q6 => ?_⟩
  · rw [List.length_append] at hi
    have : i < ps.length + 1 := hi
    rw [pk_app]
    by_cases e : i < ps.length
    · rw [if_pos e]; exact h.2.1 i e
    · rw [if_neg e, if_pos (by omega)]
      exact ⟨h1, h2, rfl, tk, Nat.le_refl _, rfl⟩
  · rw [List.length_append] at q2
    have : j < ps.length + 1 := q2
    rw [pk_app] at q5 q6
    rw [if_pos (by omega)] at q5
    by_cases e : j < ps.length
    · rw [if_pos e] at q6
      exact h.2.2 i j u v q1 e q3 q4 q5 q6
    · rw [if_neg e, if_pos (by omega)] at q6
      have := (nI_eq (by omega) (by omega)).mp q6
      omega
theorem SPk.nil {tk : Nat} : SPk tk [] := ⟨Nat.zero_le _, fun i hi => absurd hi (Nat.not_lt_zero _), fun i j u v _ q2 => absurd q2 (Nat.not_lt_zero _)⟩
theorem SPk.tick {tk tk2 : Nat} {ps : List Pk} (h : SPk tk ps) (hl : tk ≤ tk2) (ht : tk2 < 2 ^ 31) : SPk tk2 ps := by
  refine ⟨h.1, fun i hi => ?_, fun i j u v q1 q2 q3 q4 q5 q6 => ?_⟩
  · obtain ⟨a, b, c, v, hv, e⟩ := h.2.1 i hi
    exact ⟨a, b, c, v, by omega, e⟩
  · obtain ⟨_, _, _, v1, hv1, e1⟩ := h.2.1 i (by omega)
    obtain ⟨_, _, _, v2, hv2, e2⟩ := h.2.1 j q2
    have k1 : v1 = u := (nI_eq (by omega) (by omega)).mp (e1.symm.trans q5)
    have k2 : v2 = v := (nI_eq (by omega) (by omega)).mp (e2.symm.trans q6)
    subst k1 k2
    exact h.2.2 i j _ _ q1 q2 hv1 hv2 e1 e2
theorem addS_I {tk : Nat} {x : Sto} {p : List Nat} (h : StI tk x) (h1 : 15 ≤ p.length) (h2 : p.length ≤ 82) (htk : tk < 2 ^ 31) : StI tk (addS x tk p) := by
  unfold addS
  split
  · next q => exact ⟨h.1, h.2.1, h.2.2.app h1 h2 q htk⟩
  · refine ⟨?_, ?_, h.2.2⟩
    · exact h.1
    · exact h.2.1
theorem offS_I {tk w : Nat} {x : Sto} {p : List Nat} (h : StI tk x) (h1 : 15 ≤ p.length) (h2 : p.length ≤ 82) (htk : tk < 2 ^ 31) : StI tk (offS x tk p w) := by
  unfold offS
  split
  · exact h
  · split
    · split
      · exact addS_I h h1 h2 htk
      · exact addS_I ⟨h.1, h.2.1, h.2.2.dr _ (Nat.le_refl _)⟩ h1 h2 htk
    · exact h
theorem StC.new {μ m : Mem} {s : Nat} {x : Sto} {ps : List Pk} (h : StC μ s x) (hs : Shf m (59 + 8 * s + 1) ps) (hf : Fr (FS (59 + 8 * s + 1)) μ m) : StC m s (x.1, x.2.1, ps) := by
  obtain ⟨⟨a1, a2, a3, a4⟩, ⟨b1, b2, b3⟩, c1⟩ := h
  exact ⟨⟨by rw [hf.1 _ _ (by omega)]; exact a1, a2, fun i hi => by rw [hf.1 _ _ (by omega)]; exact a3 i hi, a4⟩, ⟨by rw [hf.1 _ _ (by omega)]; exact b1, by rw [hf.1 _ _ (by omega)]; exact b2, by rw [hf.1 _ _ (by omega)]; exact b3⟩, hs⟩
theorem add_C {μ : Mem} {s tk : Nat} {x : Sto} {p : List Nat} (hs : s < 2) (h : StC μ s x) (hI : StI tk x) (hp : Byt μ 87 p) (h1 : 15 ≤ p.length) : wp (c178_65 (59 + 8 * s) 87 (nI tk) μ) (fun m => StC m s (addS x tk p) ∧ Fr (FSt s) μ m) := by
  obtain ⟨g1, g2, g3⟩ := stg hs
  have hl := hI.2.2.len
  have hpl := hp.len
  unfold c178_65 addS
  rw [hp.1, i_0]
  refine wp_bind (shadd_C (xs := p) (b := 0) (tag := nI tk) (mark := nI 0) h.2.2 hp (by omega) (by rw [List.drop_zero, List.take_of_length_le (Nat.le_refl _)]) (by omega)) (fun r ⟨h5, e5⟩ => ?_)
  obtain ⟨m, v⟩ := r
  dsimp only at h5 e5 ⊢
  by_cases q : tot x.2.2 + p.length ≤ 1200
  · rw [if_pos q]
    rw [if_pos ⟨by omega, by rw [g2]; exact q⟩] at h5
    obtain ⟨rfl, h5⟩ := h5
    rw [if_neg (by decide)]
    exact wp_some ⟨h.new h5 e5, e5.mono (by intro c k h; omega)⟩
  · rw [if_neg q]
    rw [if_neg (fun z => q (by have := z.2; rw [g2] at this; exact this))] at h5
    obtain ⟨rfl, rfl⟩ := h5
    rw [if_pos rfl]
    obtain ⟨⟨a1, a2, a3, a4⟩, ⟨b1, b2, b3⟩, c1⟩ := h
    simp (disch := omega) only [i_0, i_1, i_2, i_3, i_4, i_5, i_6, i_7, i_8, i_9, i_10, i_11, i_12, i_13, i_14, i_15, i_16, i_17, i_18, i_19, i_20, i_21, i_22, i_23, i_24, i_25, i_26, i_27, i_31, i_32, i_40, i_42, i_45, i_48, i_51, i_52, i_56, i_58, i_59, i_60, i_61, i_62, i_63, i_64, i_85, i_90, i_100, i_112, i_120, i_121, i_127, i_128, i_130, i_144, i_171, i_192, i_193, i_197, i_200, i_207, i_235, i_240, i_248, i_252, i_254, i_255, i_256, i_512, i_544, i_768, i_769, i_793, i_1000, i_1023, i_1024, i_1200, i_1538, i_1541, i_1545, i_2046, i_2047, i_2049, i_2060, i_2736, i_2737, i_2817, i_2818, i_2819, i_2820, i_2821, i_2831, i_2832, i_3077, i_3085, i_3843, i_3849, i_3851, i_3852, i_4129, i_4353, i_4865, i_5121, i_5122, i_5123, i_6156, i_8192, i_12288, i_16383, i_32000, i_33280, i_49152, i_53247, i_60304, i_64000, i_64512, i_65521, i_65535, i_449838109, nI_add, pk_mul, pk_sub, nI_mm, nI_leI, nI_ltI, nI_eq, pk_div, jrem_N, jshl_N, jshr_N, jushr_N, jmin_N, jmax_N, an_1, an_3, an_7, an_15, an_31, an_63, an_127, an_255, an_1023, an_2047, an_16383, an_65535, nm, pfI, rdI, rdW, rdL, rdI2, rdW2, ldA_N, stA_N, stB_N, stZ_N, pfZ_0, pfZ_1, rtZ_0, rtZ_1, acp_N, Option.bind_some, wp_some_iff, true_and, and_true, false_and, and_false, or_true, true_or, or_false, false_or, not_true_eq_false, not_false_eq_true, if_true, if_false, if_pos, if_neg, lt_sub, le_sub, sub_lt3, sub_le3, b3]
    have f1 : Fr (fun c k => c = 59 + 8 * s ∧ k = 5) m (setI m (59 + 8 * s) 5 (x.1 2 + nI 1)) := Fr.sI ⟨rfl, rfl⟩
    refine ⟨⟨⟨by rw [f1.1 _ _ (by omega)]; exact a1, a2, fun i hi => by rw [f1.1 _ _ (by omega)]; exact a3 i hi, a4⟩, ⟨by rw [f1.1 _ _ (by omega)]; exact b1, by rw [f1.1 _ _ (by omega)]; exact b2, ?_⟩, c1.fr f1 (fun c k _ _ => by omega)⟩, f1.mono (by intro c k h; omega)⟩
    show (setI m (59 + 8 * s) 5 (x.1 2 + nI 1)).1 (59 + 8 * s) 5 = x.1 2 + nI 1
    simp (disch := omega) only [i_0, i_1, i_2, i_3, i_4, i_5, i_6, i_7, i_8, i_9, i_10, i_11, i_12, i_13, i_14, i_15, i_16, i_17, i_18, i_19, i_20, i_21, i_22, i_23, i_24, i_25, i_26, i_27, i_31, i_32, i_40, i_42, i_45, i_48, i_51, i_52, i_56, i_58, i_59, i_60, i_61, i_62, i_63, i_64, i_85, i_90, i_100, i_112, i_120, i_121, i_127, i_128, i_130, i_144, i_171, i_192, i_193, i_197, i_200, i_207, i_235, i_240, i_248, i_252, i_254, i_255, i_256, i_512, i_544, i_768, i_769, i_793, i_1000, i_1023, i_1024, i_1200, i_1538, i_1541, i_1545, i_2046, i_2047, i_2049, i_2060, i_2736, i_2737, i_2817, i_2818, i_2819, i_2820, i_2821, i_2831, i_2832, i_3077, i_3085, i_3843, i_3849, i_3851, i_3852, i_4129, i_4353, i_4865, i_5121, i_5122, i_5123, i_6156, i_8192, i_12288, i_16383, i_32000, i_33280, i_49152, i_53247, i_60304, i_64000, i_64512, i_65521, i_65535, i_449838109, nI_add, pk_mul, pk_sub, nI_mm, nI_leI, nI_ltI, nI_eq, pk_div, jrem_N, jshl_N, jshr_N, jushr_N, jmin_N, jmax_N, an_1, an_3, an_7, an_15, an_31, an_63, an_127, an_255, an_1023, an_2047, an_16383, an_65535, nm, pfI, rdI, rdW, rdL, rdI2, rdW2, ldA_N, stA_N, stB_N, stZ_N, pfZ_0, pfZ_1, rtZ_0, rtZ_1, acp_N, Option.bind_some, wp_some_iff, true_and, and_true, false_and, and_false, or_true, true_or, or_false, false_or, not_true_eq_false, not_false_eq_true, if_true, if_false, if_pos, if_neg, lt_sub, le_sub, sub_lt3, sub_le3]
theorem offer_C {μ : Mem} {s tk w : Nat} {x : Sto} {p : List Nat} (hs : s < 2) (h : StC μ s x) (hI : StI tk x) (hp : Byt μ 87 p) (h1 : 15 ≤ p.length) (h2 : p.length ≤ 82) (hw : w < 65536) : wp (f178 (59 + 8 * s) 87 (nI w) (nI tk) μ) (fun m => StC m s (offS x tk p w) ∧ Fr (FSt s) μ m) := by
  obtain ⟨g1, g2, g3⟩ := stg hs
  have hl := hI.2.2.len
  have ht := hI.2.2.1
  have hpl := hp.len
  unfold f178 offS
  by_cases q1 : x.1 1 = nI 0
  · simp (disch := omega) only [i_0, i_1, i_2, i_3, i_4, i_5, i_6, i_7, i_8, i_9, i_10, i_11, i_12, i_13, i_14, i_15, i_16, i_17, i_18, i_19, i_20, i_21, i_22, i_23, i_24, i_25, i_26, i_27, i_31, i_32, i_40, i_42, i_45, i_48, i_51, i_52, i_56, i_58, i_59, i_60, i_61, i_62, i_63, i_64, i_85, i_90, i_100, i_112, i_120, i_121, i_127, i_128, i_130, i_144, i_171, i_192, i_193, i_197, i_200, i_207, i_235, i_240, i_248, i_252, i_254, i_255, i_256, i_512, i_544, i_768, i_769, i_793, i_1000, i_1023, i_1024, i_1200, i_1538, i_1541, i_1545, i_2046, i_2047, i_2049, i_2060, i_2736, i_2737, i_2817, i_2818, i_2819, i_2820, i_2821, i_2831, i_2832, i_3077, i_3085, i_3843, i_3849, i_3851, i_3852, i_4129, i_4353, i_4865, i_5121, i_5122, i_5123, i_6156, i_8192, i_12288, i_16383, i_32000, i_33280, i_49152, i_53247, i_60304, i_64000, i_64512, i_65521, i_65535, i_449838109, nI_add, pk_mul, pk_sub, nI_mm, nI_leI, nI_ltI, nI_eq, pk_div, jrem_N, jshl_N, jshr_N, jushr_N, jmin_N, jmax_N, an_1, an_3, an_7, an_15, an_31, an_63, an_127, an_255, an_1023, an_2047, an_16383, an_65535, nm, pfI, rdI, rdW, rdL, rdI2, rdW2, ldA_N, stA_N, stB_N, stZ_N, pfZ_0, pfZ_1, rtZ_0, rtZ_1, acp_N, Option.bind_some, wp_some_iff, true_and, and_true, false_and, and_false, or_true, true_or, or_false, false_or, not_true_eq_false, not_false_eq_true, if_true, if_false, if_pos, if_neg, lt_sub, le_sub, sub_lt3, sub_le3, h.2.1.2.1, q1]
    exact ⟨h, Fr.rf⟩
  · simp (disch := omega) only [i_0, i_1, i_2, i_3, i_4, i_5, i_6, i_7, i_8, i_9, i_10, i_11, i_12, i_13, i_14, i_15, i_16, i_17, i_18, i_19, i_20, i_21, i_22, i_23, i_24, i_25, i_26, i_27, i_31, i_32, i_40, i_42, i_45, i_48, i_51, i_52, i_56, i_58, i_59, i_60, i_61, i_62, i_63, i_64, i_85, i_90, i_100, i_112, i_120, i_121, i_127, i_128, i_130, i_144, i_171, i_192, i_193, i_197, i_200, i_207, i_235, i_240, i_248, i_252, i_254, i_255, i_256, i_512, i_544, i_768, i_769, i_793, i_1000, i_1023, i_1024, i_1200, i_1538, i_1541, i_1545, i_2046, i_2047, i_2049, i_2060, i_2736, i_2737, i_2817, i_2818, i_2819, i_2820, i_2821, i_2831, i_2832, i_3077, i_3085, i_3843, i_3849, i_3851, i_3852, i_4129, i_4353, i_4865, i_5121, i_5122, i_5123, i_6156, i_8192, i_12288, i_16383, i_32000, i_33280, i_49152, i_53247, i_60304, i_64000, i_64512, i_65521, i_65535, i_449838109, nI_add, pk_mul, pk_sub, nI_mm, nI_leI, nI_ltI, nI_eq, pk_div, jrem_N, jshl_N, jshr_N, jushr_N, jmin_N, jmax_N, an_1, an_3, an_7, an_15, an_31, an_63, an_127, an_255, an_1023, an_2047, an_16383, an_65535, nm, pfI, rdI, rdW, rdL, rdI2, rdW2, ldA_N, stA_N, stB_N, stZ_N, pfZ_0, pfZ_1, rtZ_0, rtZ_1, acp_N, Option.bind_some, wp_some_iff, true_and, and_true, false_and, and_false, or_true, true_or, or_false, false_or, not_true_eq_false, not_false_eq_true, if_true, if_false, if_pos, if_neg, lt_sub, le_sub, sub_lt3, sub_le3, h.2.1.2.1, q1, isch_C hs h hw]
    by_cases q2 : w ∈ x.2.1
    · rw [decide_eq_true q2]
      simp (disch := omega) only [i_0, i_1, i_2, i_3, i_4, i_5, i_6, i_7, i_8, i_9, i_10, i_11, i_12, i_13, i_14, i_15, i_16, i_17, i_18, i_19, i_20, i_21, i_22, i_23, i_24, i_25, i_26, i_27, i_31, i_32, i_40, i_42, i_45, i_48, i_51, i_52, i_56, i_58, i_59, i_60, i_61, i_62, i_63, i_64, i_85, i_90, i_100, i_112, i_120, i_121, i_127, i_128, i_130, i_144, i_171, i_192, i_193, i_197, i_200, i_207, i_235, i_240, i_248, i_252, i_254, i_255, i_256, i_512, i_544, i_768, i_769, i_793, i_1000, i_1023, i_1024, i_1200, i_1538, i_1541, i_1545, i_2046, i_2047, i_2049, i_2060, i_2736, i_2737, i_2817, i_2818, i_2819, i_2820, i_2821, i_2831, i_2832, i_3077, i_3085, i_3843, i_3849, i_3851, i_3852, i_4129, i_4353, i_4865, i_5121, i_5122, i_5123, i_6156, i_8192, i_12288, i_16383, i_32000, i_33280, i_49152, i_53247, i_60304, i_64000, i_64512, i_65521, i_65535, i_449838109, nI_add, pk_mul, pk_sub, nI_mm, nI_leI, nI_ltI, nI_eq, pk_div, jrem_N, jshl_N, jshr_N, jushr_N, jmin_N, jmax_N, an_1, an_3, an_7, an_15, an_31, an_63, an_127, an_255, an_1023, an_2047, an_16383, an_65535, nm, pfI, rdI, rdW, rdL, rdI2, rdW2, ldA_N, stA_N, stB_N, stZ_N, pfZ_0, pfZ_1, rtZ_0, rtZ_1, acp_N, Option.bind_some, wp_some_iff, true_and, and_true, false_and, and_false, or_true, true_or, or_false, false_or, not_true_eq_false, not_false_eq_true, if_true, if_false, if_pos, if_neg, lt_sub, le_sub, sub_lt3, sub_le3, b2n_t, q2, h.2.1.1]
      by_cases q3 : x.1 0 = nI 0
      · simp (disch := omega) only [i_0, i_1, i_2, i_3, i_4, i_5, i_6, i_7, i_8, i_9, i_10, i_11, i_12, i_13, i_14, i_15, i_16, i_17, i_18, i_19, i_20, i_21, i_22, i_23, i_24, i_25, i_26, i_27, i_31, i_32, i_40, i_42, i_45, i_48, i_51, i_52, i_56, i_58, i_59, i_60, i_61, i_62, i_63, i_64, i_85, i_90, i_100, i_112, i_120, i_121, i_127, i_128, i_130, i_144, i_171, i_192, i_193, i_197, i_200, i_207, i_235, i_240, i_248, i_252, i_254, i_255, i_256, i_512, i_544, i_768, i_769, i_793, i_1000, i_1023, i_1024, i_1200, i_1538, i_1541, i_1545, i_2046, i_2047, i_2049, i_2060, i_2736, i_2737, i_2817, i_2818, i_2819, i_2820, i_2821, i_2831, i_2832, i_3077, i_3085, i_3843, i_3849, i_3851, i_3852, i_4129, i_4353, i_4865, i_5121, i_5122, i_5123, i_6156, i_8192, i_12288, i_16383, i_32000, i_33280, i_49152, i_53247, i_60304, i_64000, i_64512, i_65521, i_65535, i_449838109, nI_add, pk_mul, pk_sub, nI_mm, nI_leI, nI_ltI, nI_eq, pk_div, jrem_N, jshl_N, jshr_N, jushr_N, jmin_N, jmax_N, an_1, an_3, an_7, an_15, an_31, an_63, an_127, an_255, an_1023, an_2047, an_16383, an_65535, nm, pfI, rdI, rdW, rdL, rdI2, rdW2, ldA_N, stA_N, stB_N, stZ_N, pfZ_0, pfZ_1, rtZ_0, rtZ_1, acp_N, Option.bind_some, wp_some_iff, true_and, and_true, false_and, and_false, or_true, true_or, or_false, false_or, not_true_eq_false, not_false_eq_true, if_true, if_false, if_pos, if_neg, lt_sub, le_sub, sub_lt3, sub_le3, q3]
        exact add_C hs h hI hp h1
      · simp (disch := omega) only [i_0, i_1, i_2, i_3, i_4, i_5, i_6, i_7, i_8, i_9, i_10, i_11, i_12, i_13, i_14, i_15, i_16, i_17, i_18, i_19, i_20, i_21, i_22, i_23, i_24, i_25, i_26, i_27, i_31, i_32, i_40, i_42, i_45, i_48, i_51, i_52, i_56, i_58, i_59, i_60, i_61, i_62, i_63, i_64, i_85, i_90, i_100, i_112, i_120, i_121, i_127, i_128, i_130, i_144, i_171, i_192, i_193, i_197, i_200, i_207, i_235, i_240, i_248, i_252, i_254, i_255, i_256, i_512, i_544, i_768, i_769, i_793, i_1000, i_1023, i_1024, i_1200, i_1538, i_1541, i_1545, i_2046, i_2047, i_2049, i_2060, i_2736, i_2737, i_2817, i_2818, i_2819, i_2820, i_2821, i_2831, i_2832, i_3077, i_3085, i_3843, i_3849, i_3851, i_3852, i_4129, i_4353, i_4865, i_5121, i_5122, i_5123, i_6156, i_8192, i_12288, i_16383, i_32000, i_33280, i_49152, i_53247, i_60304, i_64000, i_64512, i_65521, i_65535, i_449838109, nI_add, pk_mul, pk_sub, nI_mm, nI_leI, nI_ltI, nI_eq, pk_div, jrem_N, jshl_N, jshr_N, jushr_N, jmin_N, jmax_N, an_1, an_3, an_7, an_15, an_31, an_63, an_127, an_255, an_1023, an_2047, an_16383, an_65535, nm, pfI, rdI, rdW, rdL, rdI2, rdW2, ldA_N, stA_N, stB_N, stZ_N, pfZ_0, pfZ_1, rtZ_0, rtZ_1, acp_N, Option.bind_some, wp_some_iff, true_and, and_true, false_and, and_false, or_true, true_or, or_false, false_or, not_true_eq_false, not_false_eq_true, if_true, if_false, if_pos, if_neg, lt_sub, le_sub, sub_lt3, sub_le3, q3, h.2.2.1]
        unfold l178_32
        refine wp_for (fun i m => (nI tk, nI (x.2.2.length - i), m)) (fun i m => ∃ ps, StC m s (x.1, x.2.1, ps) ∧ SPk tk ps ∧ ps.length = x.2.2.length - i ∧ drN p.length (x.2.2.length - i) ps = drN p.length x.2.2.length x.2.2 ∧ Fr (FS (59 + 8 * s + 1)) μ m) x.2.2.length (by omega) μ _ rfl ⟨x.2.2, h, hI.2.2, rfl, rfl, Fr.rf⟩ (fun self i m hi ⟨ps, y1, y2, y3, y4, y5⟩ hk => ?_) (fun self m ⟨ps, y1, y2, y3, y4, y5⟩ => ?_)
        · have p1 := hp.fr y5 (by omega) (fun k => by omega)
          have e4 : x.2.2.length - i = (x.2.2.length - (i + 1)) + 1 := by omega
          rw [e4, drN] at y4
          have yl := y2.len
          have yt := y2.1
          unfold b178_32
          have hr := hasRoom_C y1.2.2 (show p.length < 2 ^ 31 by omega)
          rw [p1.1]
          simp (disch := omega) only [i_0, i_1, i_2, i_3, i_4, i_5, i_6, i_7, i_8, i_9, i_10, i_11, i_12, i_13, i_14, i_15, i_16, i_17, i_18, i_19, i_20, i_21, i_22, i_23, i_24, i_25, i_26, i_27, i_31, i_32, i_40, i_42, i_45, i_48, i_51, i_52, i_56, i_58, i_59, i_60, i_61, i_62, i_63, i_64, i_85, i_90, i_100, i_112, i_120, i_121, i_127, i_128, i_130, i_144, i_171, i_192, i_193, i_197, i_200, i_207, i_235, i_240, i_248, i_252, i_254, i_255, i_256, i_512, i_544, i_768, i_769, i_793, i_1000, i_1023, i_1024, i_1200, i_1538, i_1541, i_1545, i_2046, i_2047, i_2049, i_2060, i_2736, i_2737, i_2817, i_2818, i_2819, i_2820, i_2821, i_2831, i_2832, i_3077, i_3085, i_3843, i_3849, i_3851, i_3852, i_4129, i_4353, i_4865, i_5121, i_5122, i_5123, i_6156, i_8192, i_12288, i_16383, i_32000, i_33280, i_49152, i_53247, i_60304, i_64000, i_64512, i_65521, i_65535, i_449838109, nI_add, pk_mul, pk_sub, nI_mm, nI_leI, nI_ltI, nI_eq, pk_div, jrem_N, jshl_N, jshr_N, jushr_N, jmin_N, jmax_N, an_1, an_3, an_7, an_15, an_31, an_63, an_127, an_255, an_1023, an_2047, an_16383, an_65535, nm, pfI, rdI, rdW, rdL, rdI2, rdW2, ldA_N, stA_N, stB_N, stZ_N, pfZ_0, pfZ_1, rtZ_0, rtZ_1, acp_N, Option.bind_some, wp_some_iff, true_and, and_true, false_and, and_false, or_true, true_or, or_false, false_or, not_true_eq_false, not_false_eq_true, if_true, if_false, if_pos, if_neg, lt_sub, le_sub, sub_lt3, sub_le3, hr]
          by_cases q4 : tot ps + p.length ≤ 1200
          · rw [if_pos q4] at y4
            rw [decide_eq_true ⟨by show ps.length < _; omega, by rw [g2]; exact q4⟩]
            simp (disch := omega) only [i_0, i_1, i_2, i_3, i_4, i_5, i_6, i_7, i_8, i_9, i_10, i_11, i_12, i_13, i_14, i_15, i_16, i_17, i_18, i_19, i_20, i_21, i_22, i_23, i_24, i_25, i_26, i_27, i_31, i_32, i_40, i_42, i_45, i_48, i_51, i_52, i_56, i_58, i_59, i_60, i_61, i_62, i_63, i_64, i_85, i_90, i_100, i_112, i_120, i_121, i_127, i_128, i_130, i_144, i_171, i_192, i_193, i_197, i_200, i_207, i_235, i_240, i_248, i_252, i_254, i_255, i_256, i_512, i_544, i_768, i_769, i_793, i_1000, i_1023, i_1024, i_1200, i_1538, i_1541, i_1545, i_2046, i_2047, i_2049, i_2060, i_2736, i_2737, i_2817, i_2818, i_2819, i_2820, i_2821, i_2831, i_2832, i_3077, i_3085, i_3843, i_3849, i_3851, i_3852, i_4129, i_4353, i_4865, i_5121, i_5122, i_5123, i_6156, i_8192, i_12288, i_16383, i_32000, i_33280, i_49152, i_53247, i_60304, i_64000, i_64512, i_65521, i_65535, i_449838109, nI_add, pk_mul, pk_sub, nI_mm, nI_leI, nI_ltI, nI_eq, pk_div, jrem_N, jshl_N, jshr_N, jushr_N, jmin_N, jmax_N, an_1, an_3, an_7, an_15, an_31, an_63, an_127, an_255, an_1023, an_2047, an_16383, an_65535, nm, pfI, rdI, rdW, rdL, rdI2, rdW2, ldA_N, stA_N, stB_N, stZ_N, pfZ_0, pfZ_1, rtZ_0, rtZ_1, acp_N, Option.bind_some, wp_some_iff, true_and, and_true, false_and, and_false, or_true, true_or, or_false, false_or, not_true_eq_false, not_false_eq_true, if_true, if_false, if_pos, if_neg, lt_sub, le_sub, sub_lt3, sub_le3, b2n_t]
            rw [← y4]
            exact wp_mono (add_C hs y1 ⟨hI.1, hI.2.1, y2⟩ p1 h1) (fun m2 h => ⟨h.1, (y5.mono (by intro c k h; omega)).tr' h.2⟩)
          · rw [if_neg q4] at y4
            rw [decide_eq_false (fun z => q4 (by have := z.2; rw [g2] at this; exact this))]
            simp (disch := omega) only [i_0, i_1, i_2, i_3, i_4, i_5, i_6, i_7, i_8, i_9, i_10, i_11, i_12, i_13, i_14, i_15, i_16, i_17, i_18, i_19, i_20, i_21, i_22, i_23, i_24, i_25, i_26, i_27, i_31, i_32, i_40, i_42, i_45, i_48, i_51, i_52, i_56, i_58, i_59, i_60, i_61, i_62, i_63, i_64, i_85, i_90, i_100, i_112, i_120, i_121, i_127, i_128, i_130, i_144, i_171, i_192, i_193, i_197, i_200, i_207, i_235, i_240, i_248, i_252, i_254, i_255, i_256, i_512, i_544, i_768, i_769, i_793, i_1000, i_1023, i_1024, i_1200, i_1538, i_1541, i_1545, i_2046, i_2047, i_2049, i_2060, i_2736, i_2737, i_2817, i_2818, i_2819, i_2820, i_2821, i_2831, i_2832, i_3077, i_3085, i_3843, i_3849, i_3851, i_3852, i_4129, i_4353, i_4865, i_5121, i_5122, i_5123, i_6156, i_8192, i_12288, i_16383, i_32000, i_33280, i_49152, i_53247, i_60304, i_64000, i_64512, i_65521, i_65535, i_449838109, nI_add, pk_mul, pk_sub, nI_mm, nI_leI, nI_ltI, nI_eq, pk_div, jrem_N, jshl_N, jshr_N, jushr_N, jmin_N, jmax_N, an_1, an_3, an_7, an_15, an_31, an_63, an_127, an_255, an_1023, an_2047, an_16383, an_65535, nm, pfI, rdI, rdW, rdL, rdI2, rdW2, ldA_N, stA_N, stB_N, stZ_N, pfZ_0, pfZ_1, rtZ_0, rtZ_1, acp_N, Option.bind_some, wp_some_iff, true_and, and_true, false_and, and_false, or_true, true_or, or_false, false_or, not_true_eq_false, not_false_eq_true, if_true, if_false, if_pos, if_neg, lt_sub, le_sub, sub_lt3, sub_le3, b2n_f]
            have hl0 : 0 < ps.length := by omega
            refine wp_bind (shrem_C y1.2.2 hl0) (fun m2 ⟨h3, e3⟩ => ?_)
            rw [show x.2.2.length - i - 1 = x.2.2.length - (i + 1) by omega]
            exact hk m2 ⟨ps.eraseIdx 0, y1.new h3 e3, y2.era hl0, by rw [era_len hl0]; omega, y4, y5.tr' e3⟩
        · rw [Nat.sub_self] at y3 y4
          have p1 := hp.fr y5 (by omega) (fun k => by omega)
          unfold b178_32
          simp (disch := omega) only [i_0, i_1, i_2, i_3, i_4, i_5, i_6, i_7, i_8, i_9, i_10, i_11, i_12, i_13, i_14, i_15, i_16, i_17, i_18, i_19, i_20, i_21, i_22, i_23, i_24, i_25, i_26, i_27, i_31, i_32, i_40, i_42, i_45, i_48, i_51, i_52, i_56, i_58, i_59, i_60, i_61, i_62, i_63, i_64, i_85, i_90, i_100, i_112, i_120, i_121, i_127, i_128, i_130, i_144, i_171, i_192, i_193, i_197, i_200, i_207, i_235, i_240, i_248, i_252, i_254, i_255, i_256, i_512, i_544, i_768, i_769, i_793, i_1000, i_1023, i_1024, i_1200, i_1538, i_1541, i_1545, i_2046, i_2047, i_2049, i_2060, i_2736, i_2737, i_2817, i_2818, i_2819, i_2820, i_2821, i_2831, i_2832, i_3077, i_3085, i_3843, i_3849, i_3851, i_3852, i_4129, i_4353, i_4865, i_5121, i_5122, i_5123, i_6156, i_8192, i_12288, i_16383, i_32000, i_33280, i_49152, i_53247, i_60304, i_64000, i_64512, i_65521, i_65535, i_449838109, nI_add, pk_mul, pk_sub, nI_mm, nI_leI, nI_ltI, nI_eq, pk_div, jrem_N, jshl_N, jshr_N, jushr_N, jmin_N, jmax_N, an_1, an_3, an_7, an_15, an_31, an_63, an_127, an_255, an_1023, an_2047, an_16383, an_65535, nm, pfI, rdI, rdW, rdL, rdI2, rdW2, ldA_N, stA_N, stB_N, stZ_N, pfZ_0, pfZ_1, rtZ_0, rtZ_1, acp_N, Option.bind_some, wp_some_iff, true_and, and_true, false_and, and_false, or_true, true_or, or_false, false_or, not_true_eq_false, not_false_eq_true, if_true, if_false, if_pos, if_neg, lt_sub, le_sub, sub_lt3, sub_le3]
          rw [drN] at y4
          rw [← y4]
          exact wp_mono (add_C hs y1 ⟨hI.1, hI.2.1, y2⟩ p1 h1) (fun m2 h => ⟨h.1, (y5.mono (by intro c k h; omega)).tr' h.2⟩)
    · rw [decide_eq_false q2]
      simp (disch := omega) only [i_0, i_1, i_2, i_3, i_4, i_5, i_6, i_7, i_8, i_9, i_10, i_11, i_12, i_13, i_14, i_15, i_16, i_17, i_18, i_19, i_20, i_21, i_22, i_23, i_24, i_25, i_26, i_27, i_31, i_32, i_40, i_42, i_45, i_48, i_51, i_52, i_56, i_58, i_59, i_60, i_61, i_62, i_63, i_64, i_85, i_90, i_100, i_112, i_120, i_121, i_127, i_128, i_130, i_144, i_171, i_192, i_193, i_197, i_200, i_207, i_235, i_240, i_248, i_252, i_254, i_255, i_256, i_512, i_544, i_768, i_769, i_793, i_1000, i_1023, i_1024, i_1200, i_1538, i_1541, i_1545, i_2046, i_2047, i_2049, i_2060, i_2736, i_2737, i_2817, i_2818, i_2819, i_2820, i_2821, i_2831, i_2832, i_3077, i_3085, i_3843, i_3849, i_3851, i_3852, i_4129, i_4353, i_4865, i_5121, i_5122, i_5123, i_6156, i_8192, i_12288, i_16383, i_32000, i_33280, i_49152, i_53247, i_60304, i_64000, i_64512, i_65521, i_65535, i_449838109, nI_add, pk_mul, pk_sub, nI_mm, nI_leI, nI_ltI, nI_eq, pk_div, jrem_N, jshl_N, jshr_N, jushr_N, jmin_N, jmax_N, an_1, an_3, an_7, an_15, an_31, an_63, an_127, an_255, an_1023, an_2047, an_16383, an_65535, nm, pfI, rdI, rdW, rdL, rdI2, rdW2, ldA_N, stA_N, stB_N, stZ_N, pfZ_0, pfZ_1, rtZ_0, rtZ_1, acp_N, Option.bind_some, wp_some_iff, true_and, and_true, false_and, and_false, or_true, true_or, or_false, false_or, not_true_eq_false, not_false_eq_true, if_true, if_false, if_pos, if_neg, lt_sub, le_sub, sub_lt3, sub_le3, b2n_f, q2]
      exact ⟨h, Fr.rf⟩
/-! stores of the reference -/
theorem QF.put2 {μ m : Mem} {r z w lo hi hi2 i : Nat} {f : Nat → List Nat} {x : List Nat} {P : Nat → Nat → Prop} (h : QF μ r z w lo hi f) (hx : x.length ≤ w) (hz : m.1 z i = nI x.length) (hs : Seg m r (w * i) x) (hf : Fr P μ m) (hr : ∀ k, P r k → w * i ≤ k ∧ k < w * i + w) (hz2 : ∀ k, P z k → k = i) (hh : hi2 ≤ hi ∨ hi2 = hi + 1 ∧ i = hi) : QF m r z w lo hi2 (upL f i x) := by
  intro j a b
  by_cases e : j = i
  · subst e
    rw [upL_s]
    exact ⟨hz, hx, hs⟩
  · rw [upL_o e]
    obtain ⟨q1, q2, q3⟩ := h j a (by omega)
    refine ⟨?_, q2, q3.cg (fun k hk => ?_)⟩
    · rw [hf.1 z j (fun q => e (hz2 j q))]
      exact q1
    · have g1 : j < i → w * j + w ≤ w * i := mul_gap
      have g2 : i < j → w * i + w ≤ w * j := mul_gap
      refine hf.1 r _ (fun q => ?_)
      have := hr _ q
      omega
theorem TF.put2 {μ m : Mem} {c lo hi hi2 i : Nat} {g : Nat → Int32} {x : Int32} {P : Nat → Nat → Prop} (h : TF μ c lo hi g) (hx : m.1 c i = x) (hf : Fr P μ m) (hc : ∀ k, P c k → k = i) (hh : hi2 ≤ hi ∨ hi2 = hi + 1 ∧ i = hi) : TF m c lo hi2 (upL g i x) := by
  intro j a b
  by_cases e : j = i
  · subst e
    rw [upL_s]
    exact hx
  · rw [upL_o e, hf.1 c j (fun q => e (hc j q))]
    exact h j a (by omega)
theorem dropF_M {μ : Mem} {s tk : Nat} {x : Sto} (hs : s < 2) (h : StM μ s x) (hp : SPk tk x.2.2) (h0 : 0 < x.2.2.length) : wp (f308 (nI s) μ) (fun m => StM m s (x.1, x.2.1, x.2.2.eraseIdx 0) ∧ Fr (FStM s) μ m) := by
  have g1 := gl_171
  have g2 := gl_172
  have g3 := gl_176
  have g4 := gl_177
  have g5 := gl_178
  have hl := hp.len
  have ht := hp.1
  have hte := tot_era h0
  obtain ⟨a, b, ⟨c1, c2⟩, d1, d2⟩ := h
  obtain ⟨o1, o2, o3⟩ := d1 (90 * s) (Nat.le_refl _) (by omega)
  dsimp only at o1 o2 o3
  rw [Nat.sub_self] at o1 o2
  generalize hps : x.2.2 = ps at *
  unfold f308
  simp (disch := omega) only [i_0, i_1, i_2, i_3, i_4, i_5, i_6, i_7, i_8, i_9, i_10, i_11, i_12, i_13, i_14, i_15, i_16, i_17, i_18, i_19, i_20, i_21, i_22, i_23, i_24, i_25, i_26, i_27, i_31, i_32, i_40, i_42, i_45, i_48, i_51, i_52, i_56, i_58, i_59, i_60, i_61, i_62, i_63, i_64, i_85, i_90, i_100, i_112, i_120, i_121, i_127, i_128, i_130, i_144, i_171, i_192, i_193, i_197, i_200, i_207, i_235, i_240, i_248, i_252, i_254, i_255, i_256, i_512, i_544, i_768, i_769, i_793, i_1000, i_1023, i_1024, i_1200, i_1538, i_1541, i_1545, i_2046, i_2047, i_2049, i_2060, i_2736, i_2737, i_2817, i_2818, i_2819, i_2820, i_2821, i_2831, i_2832, i_3077, i_3085, i_3843, i_3849, i_3851, i_3852, i_4129, i_4353, i_4865, i_5121, i_5122, i_5123, i_6156, i_8192, i_12288, i_16383, i_32000, i_33280, i_49152, i_53247, i_60304, i_64000, i_64512, i_65521, i_65535, i_449838109, nI_add, pk_mul, pk_sub, nI_mm, nI_leI, nI_ltI, nI_eq, pk_div, jrem_N, jshl_N, jshr_N, jushr_N, jmin_N, jmax_N, an_1, an_3, an_7, an_15, an_31, an_63, an_127, an_255, an_1023, an_2047, an_16383, an_65535, nm, pfI, rdI, rdW, rdL, rdI2, rdW2, ldA_N, stA_N, stB_N, stZ_N, pfZ_0, pfZ_1, rtZ_0, rtZ_1, acp_N, Option.bind_some, wp_some_iff, true_and, and_true, false_and, and_false, or_true, true_or, or_false, false_or, not_true_eq_false, not_false_eq_true, if_true, if_false, if_pos, if_neg, lt_sub, le_sub, sub_lt3, sub_le3, c2, o1, c1]
  rw [show tot ps - (pk ps 0).1.length = tot (ps.eraseIdx 0) by omega]
  generalize hm1 : setI (setI μ 172 s (nI (tot (ps.eraseIdx 0)))) 171 s (nI (ps.length - 1)) = m1
  have f1 : Fr (fun c k => (c = 171 ∨ c = 172) ∧ k = s) μ m1 := by
    subst hm1
    exact (Fr.sI (by omega)).pI (by omega)
  have n1 : m1.1 171 s = nI (ps.length - 1) := by subst hm1; simp (disch := omega) only [i_0, i_1, i_2, i_3, i_4, i_5, i_6, i_7, i_8, i_9, i_10, i_11, i_12, i_13, i_14, i_15, i_16, i_17, i_18, i_19, i_20, i_21, i_22, i_23, i_24, i_25, i_26, i_27, i_31, i_32, i_40, i_42, i_45, i_48, i_51, i_52, i_56, i_58, i_59, i_60, i_61, i_62, i_63, i_64, i_85, i_90, i_100, i_112, i_120, i_121, i_127, i_128, i_130, i_144, i_171, i_192, i_193, i_197, i_200, i_207, i_235, i_240, i_248, i_252, i_254, i_255, i_256, i_512, i_544, i_768, i_769, i_793, i_1000, i_1023, i_1024, i_1200, i_1538, i_1541, i_1545, i_2046, i_2047, i_2049, i_2060, i_2736, i_2737, i_2817, i_2818, i_2819, i_2820, i_2821, i_2831, i_2832, i_3077, i_3085, i_3843, i_3849, i_3851, i_3852, i_4129, i_4353, i_4865, i_5121, i_5122, i_5123, i_6156, i_8192, i_12288, i_16383, i_32000, i_33280, i_49152, i_53247, i_60304, i_64000, i_64512, i_65521, i_65535, i_449838109, nI_add, pk_mul, pk_sub, nI_mm, nI_leI, nI_ltI, nI_eq, pk_div, jrem_N, jshl_N, jshr_N, jushr_N, jmin_N, jmax_N, an_1, an_3, an_7, an_15, an_31, an_63, an_127, an_255, an_1023, an_2047, an_16383, an_65535, nm, pfI, rdI, rdW, rdL, rdI2, rdW2, ldA_N, stA_N, stB_N, stZ_N, pfZ_0, pfZ_1, rtZ_0, rtZ_1, acp_N, Option.bind_some, wp_some_iff, true_and, and_true, false_and, and_false, or_true, true_or, or_false, false_or, not_true_eq_false, not_false_eq_true, if_true, if_false, if_pos, if_neg, lt_sub, le_sub, sub_lt3, sub_le3]
  have n2 : m1.1 172 s = nI (tot (ps.eraseIdx 0)) := by subst hm1; simp (disch := omega) only [i_0, i_1, i_2, i_3, i_4, i_5, i_6, i_7, i_8, i_9, i_10, i_11, i_12, i_13, i_14, i_15, i_16, i_17, i_18, i_19, i_20, i_21, i_22, i_23, i_24, i_25, i_26, i_27, i_31, i_32, i_40, i_42, i_45, i_48, i_51, i_52, i_56, i_58, i_59, i_60, i_61, i_62, i_63, i_64, i_85, i_90, i_100, i_112, i_120, i_121, i_127, i_128, i_130, i_144, i_171, i_192, i_193, i_197, i_200, i_207, i_235, i_240, i_248, i_252, i_254, i_255, i_256, i_512, i_544, i_768, i_769, i_793, i_1000, i_1023, i_1024, i_1200, i_1538, i_1541, i_1545, i_2046, i_2047, i_2049, i_2060, i_2736, i_2737, i_2817, i_2818, i_2819, i_2820, i_2821, i_2831, i_2832, i_3077, i_3085, i_3843, i_3849, i_3851, i_3852, i_4129, i_4353, i_4865, i_5121, i_5122, i_5123, i_6156, i_8192, i_12288, i_16383, i_32000, i_33280, i_49152, i_53247, i_60304, i_64000, i_64512, i_65521, i_65535, i_449838109, nI_add, pk_mul, pk_sub, nI_mm, nI_leI, nI_ltI, nI_eq, pk_div, jrem_N, jshl_N, jshr_N, jushr_N, jmin_N, jmax_N, an_1, an_3, an_7, an_15, an_31, an_63, an_127, an_255, an_1023, an_2047, an_16383, an_65535, nm, pfI, rdI, rdW, rdL, rdI2, rdW2, ldA_N, stA_N, stB_N, stZ_N, pfZ_0, pfZ_1, rtZ_0, rtZ_1, acp_N, Option.bind_some, wp_some_iff, true_and, and_true, false_and, and_false, or_true, true_or, or_false, false_or, not_true_eq_false, not_false_eq_true, if_true, if_false, if_pos, if_neg, lt_sub, le_sub, sub_lt3, sub_le3]
  have d1' := d1.fr f1 (fun k => by omega) (fun k => by omega)
  have d2' := d2.fr f1 (fun k => by omega)
  unfold l308_30
  refine wp_for (fun i m => (nI s, nI i, m)) (fun i m => QF m 176 177 100 (90 * s) (90 * s + ps.length) (shf 1 (fun i => (pk ps (i - 90 * s)).1) (90 * s + i)) ∧ TF m 178 (90 * s) (90 * s + ps.length) (shf 1 (fun i => (pk ps (i - 90 * s)).2.1) (90 * s + i)) ∧ Fr (fun c k => c = 176 ∧ 9000 * s ≤ k ∧ k < 9000 * s + 9000 ∨ (c = 177 ∨ c = 178) ∧ 90 * s ≤ k ∧ k < 90 * s + 90) m1 m) (ps.length - 1) (by omega) m1 _ rfl ⟨d1'.cg (Nat.le_refl _) (fun j q _ => shf_ge (by omega)), d2'.cg (Nat.le_refl _) (fun j q _ => shf_ge (by omega)), Fr.rf⟩ (fun self i m hi ⟨y1, y2, y3⟩ hk => ?_) (fun self m ⟨y1, y2, y3⟩ => ?_)
  · have n3 : m.1 171 s = nI (ps.length - 1) := by rw [y3.1 _ _ (by omega)]; exact n1
    obtain ⟨u1, u2, u3⟩ := y1 (90 * s + i + 1) (by omega) (by omega)
    have u4 := y2 (90 * s + i + 1) (by omega) (by omega)
    rw [shf_ge (by omega)] at u1 u2 u3 u4
    unfold b308_30
    simp (disch := omega) only [i_0, i_1, i_2, i_3, i_4, i_5, i_6, i_7, i_8, i_9, i_10, i_11, i_12, i_13, i_14, i_15, i_16, i_17, i_18, i_19, i_20, i_21, i_22, i_23, i_24, i_25, i_26, i_27, i_31, i_32, i_40, i_42, i_45, i_48, i_51, i_52, i_56, i_58, i_59, i_60, i_61, i_62, i_63, i_64, i_85, i_90, i_100, i_112, i_120, i_121, i_127, i_128, i_130, i_144, i_171, i_192, i_193, i_197, i_200, i_207, i_235, i_240, i_248, i_252, i_254, i_255, i_256, i_512, i_544, i_768, i_769, i_793, i_1000, i_1023, i_1024, i_1200, i_1538, i_1541, i_1545, i_2046, i_2047, i_2049, i_2060, i_2736, i_2737, i_2817, i_2818, i_2819, i_2820, i_2821, i_2831, i_2832, i_3077, i_3085, i_3843, i_3849, i_3851, i_3852, i_4129, i_4353, i_4865, i_5121, i_5122, i_5123, i_6156, i_8192, i_12288, i_16383, i_32000, i_33280, i_49152, i_53247, i_60304, i_64000, i_64512, i_65521, i_65535, i_449838109, nI_add, pk_mul, pk_sub, nI_mm, nI_leI, nI_ltI, nI_eq, pk_div, jrem_N, jshl_N, jshr_N, jushr_N, jmin_N, jmax_N, an_1, an_3, an_7, an_15, an_31, an_63, an_127, an_255, an_1023, an_2047, an_16383, an_65535, nm, pfI, rdI, rdW, rdL, rdI2, rdW2, ldA_N, stA_N, stB_N, stZ_N, pfZ_0, pfZ_1, rtZ_0, rtZ_1, acp_N, Option.bind_some, wp_some_iff, true_and, and_true, false_and, and_false, or_true, true_or, or_false, false_or, not_true_eq_false, not_false_eq_true, if_true, if_false, if_pos, if_neg, lt_sub, le_sub, sub_lt3, sub_le3, n3, u1, u4]
    generalize hxx : (pk ps (90 * s + i + 1 - 90 * s)).1 = xx at *
    generalize hyy : (pk ps (90 * s + i + 1 - 90 * s)).2.1 = yy at *
    refine wp_bind (move_M ((u3.set_o (a := 177) (j := 90 * s + i) (x := nI xx.length) (by omega)).set_o (a := 178) (j := 90 * s + i) (x := yy) (by omega)) rfl (by omega) (by omega) (by omega) (by omega)) (fun m2 ⟨h2, e2⟩ => ?_)
    have f2 : Fr (fun c k => c = 176 ∧ 100 * (90 * s + i) ≤ k ∧ k < 100 * (90 * s + i) + 100 ∨ (c = 177 ∨ c = 178) ∧ k = 90 * s + i) m m2 := ((Fr.sI (by omega)).pI (by omega)).tr e2 (fun _ _ q => q) (by intro c k h; omega)
    refine hk m2 ⟨?_, ?_, y3.tr f2 (fun _ _ q => q) (by intro c k h; omega)⟩
    · rw [show 90 * s + (i + 1) = 90 * s + i + 1 by omega, ← shf_up]
      refine QF.put2 y1 ?_ ?_ ?_ f2 (fun k q => by omega) (fun k q => by omega) (Or.inl (Nat.le_refl _))
      · show (pk ps (90 * s + i + 1 - 90 * s)).1.length ≤ 100
        rw [hxx]
        exact u2
      · show _ = nI (pk ps (90 * s + i + 1 - 90 * s)).1.length
        rw [hxx, e2.1 _ _ (by omega)]
        simp (disch := omega) only [i_0, i_1, i_2, i_3, i_4, i_5, i_6, i_7, i_8, i_9, i_10, i_11, i_12, i_13, i_14, i_15, i_16, i_17, i_18, i_19, i_20, i_21, i_22, i_23, i_24, i_25, i_26, i_27, i_31, i_32, i_40, i_42, i_45, i_48, i_51, i_52, i_56, i_58, i_59, i_60, i_61, i_62, i_63, i_64, i_85, i_90, i_100, i_112, i_120, i_121, i_127, i_128, i_130, i_144, i_171, i_192, i_193, i_197, i_200, i_207, i_235, i_240, i_248, i_252, i_254, i_255, i_256, i_512, i_544, i_768, i_769, i_793, i_1000, i_1023, i_1024, i_1200, i_1538, i_1541, i_1545, i_2046, i_2047, i_2049, i_2060, i_2736, i_2737, i_2817, i_2818, i_2819, i_2820, i_2821, i_2831, i_2832, i_3077, i_3085, i_3843, i_3849, i_3851, i_3852, i_4129, i_4353, i_4865, i_5121, i_5122, i_5123, i_6156, i_8192, i_12288, i_16383, i_32000, i_33280, i_49152, i_53247, i_60304, i_64000, i_64512, i_65521, i_65535, i_449838109, nI_add, pk_mul, pk_sub, nI_mm, nI_leI, nI_ltI, nI_eq, pk_div, jrem_N, jshl_N, jshr_N, jushr_N, jmin_N, jmax_N, an_1, an_3, an_7, an_15, an_31, an_63, an_127, an_255, an_1023, an_2047, an_16383, an_65535, nm, pfI, rdI, rdW, rdL, rdI2, rdW2, ldA_N, stA_N, stB_N, stZ_N, pfZ_0, pfZ_1, rtZ_0, rtZ_1, acp_N, Option.bind_some, wp_some_iff, true_and, and_true, false_and, and_false, or_true, true_or, or_false, false_or, not_true_eq_false, not_false_eq_true, if_true, if_false, if_pos, if_neg, lt_sub, le_sub, sub_lt3, sub_le3]
      · show Seg m2 176 (100 * (90 * s + i)) (pk ps (90 * s + i + 1 - 90 * s)).1
        rw [hxx]
        exact h2
    · rw [show 90 * s + (i + 1) = 90 * s + i + 1 by omega, ← shf_up]
      refine TF.put2 y2 ?_ f2 (fun k q => by omega) (Or.inl (Nat.le_refl _))
      show _ = (pk ps (90 * s + i + 1 - 90 * s)).2.1
      rw [hyy, e2.1 _ _ (by omega)]
      simp (disch := omega) only [i_0, i_1, i_2, i_3, i_4, i_5, i_6, i_7, i_8, i_9, i_10, i_11, i_12, i_13, i_14, i_15, i_16, i_17, i_18, i_19, i_20, i_21, i_22, i_23, i_24, i_25, i_26, i_27, i_31, i_32, i_40, i_42, i_45, i_48, i_51, i_52, i_56, i_58, i_59, i_60, i_61, i_62, i_63, i_64, i_85, i_90, i_100, i_112, i_120, i_121, i_127, i_128, i_130, i_144, i_171, i_192, i_193, i_197, i_200, i_207, i_235, i_240, i_248, i_252, i_254, i_255, i_256, i_512, i_544, i_768, i_769, i_793, i_1000, i_1023, i_1024, i_1200, i_1538, i_1541, i_1545, i_2046, i_2047, i_2049, i_2060, i_2736, i_2737, i_2817, i_2818, i_2819, i_2820, i_2821, i_2831, i_2832, i_3077, i_3085, i_3843, i_3849, i_3851, i_3852, i_4129, i_4353, i_4865, i_5121, i_5122, i_5123, i_6156, i_8192, i_12288, i_16383, i_32000, i_33280, i_49152, i_53247, i_60304, i_64000, i_64512, i_65521, i_65535, i_449838109, nI_add, pk_mul, pk_sub, nI_mm, nI_leI, nI_ltI, nI_eq, pk_div, jrem_N, jshl_N, jshr_N, jushr_N, jmin_N, jmax_N, an_1, an_3, an_7, an_15, an_31, an_63, an_127, an_255, an_1023, an_2047, an_16383, an_65535, nm, pfI, rdI, rdW, rdL, rdI2, rdW2, ldA_N, stA_N, stB_N, stZ_N, pfZ_0, pfZ_1, rtZ_0, rtZ_1, acp_N, Option.bind_some, wp_some_iff, true_and, and_true, false_and, and_false, or_true, true_or, or_false, false_or, not_true_eq_false, not_false_eq_true, if_true, if_false, if_pos, if_neg, lt_sub, le_sub, sub_lt3, sub_le3]
  · have n3 : m.1 171 s = nI (ps.length - 1) := by rw [y3.1 _ _ (by omega)]; exact n1
    unfold b308_30
    simp (disch := omega) only [i_0, i_1, i_2, i_3, i_4, i_5, i_6, i_7, i_8, i_9, i_10, i_11, i_12, i_13, i_14, i_15, i_16, i_17, i_18, i_19, i_20, i_21, i_22, i_23, i_24, i_25, i_26, i_27, i_31, i_32, i_40, i_42, i_45, i_48, i_51, i_52, i_56, i_58, i_59, i_60, i_61, i_62, i_63, i_64, i_85, i_90, i_100, i_112, i_120, i_121, i_127, i_128, i_130, i_144, i_171, i_192, i_193, i_197, i_200, i_207, i_235, i_240, i_248, i_252, i_254, i_255, i_256, i_512, i_544, i_768, i_769, i_793, i_1000, i_1023, i_1024, i_1200, i_1538, i_1541, i_1545, i_2046, i_2047, i_2049, i_2060, i_2736, i_2737, i_2817, i_2818, i_2819, i_2820, i_2821, i_2831, i_2832, i_3077, i_3085, i_3843, i_3849, i_3851, i_3852, i_4129, i_4353, i_4865, i_5121, i_5122, i_5123, i_6156, i_8192, i_12288, i_16383, i_32000, i_33280, i_49152, i_53247, i_60304, i_64000, i_64512, i_65521, i_65535, i_449838109, nI_add, pk_mul, pk_sub, nI_mm, nI_leI, nI_ltI, nI_eq, pk_div, jrem_N, jshl_N, jshr_N, jushr_N, jmin_N, jmax_N, an_1, an_3, an_7, an_15, an_31, an_63, an_127, an_255, an_1023, an_2047, an_16383, an_65535, nm, pfI, rdI, rdW, rdL, rdI2, rdW2, ldA_N, stA_N, stB_N, stZ_N, pfZ_0, pfZ_1, rtZ_0, rtZ_1, acp_N, Option.bind_some, wp_some_iff, true_and, and_true, false_and, and_false, or_true, true_or, or_false, false_or, not_true_eq_false, not_false_eq_true, if_true, if_false, if_pos, if_neg, lt_sub, le_sub, sub_lt3, sub_le3, n3]
    have f2 : Fr (FStM s) μ m := f1.tr y3 (by intro c k h; omega) (by intro c k h; omega)
    have hle := era_len h0
    refine ⟨⟨?_, ?_, ⟨?_, ?_⟩, ?_, ?_⟩, f2⟩
    · exact ⟨by rw [y3.1 _ _ (by omega), f1.1 _ _ (by omega)]; exact a.1, a.2.1, fun i hi => by rw [y3.1 _ _ (by omega), f1.1 _ _ (by omega)]; exact a.2.2.1 i hi, a.2.2.2⟩
    · exact ⟨by rw [y3.1 _ _ (by omega), f1.1 _ _ (by omega)]; exact b.1, by rw [y3.1 _ _ (by omega), f1.1 _ _ (by omega)]; exact b.2.1, by rw [y3.1 _ _ (by omega), f1.1 _ _ (by omega)]; exact b.2.2⟩
    · show m.1 171 s = nI (ps.eraseIdx 0).length
      rw [n3, hle]
    · rw [y3.1 _ _ (by omega)]
      exact n2
    · show QF m 176 177 100 (90 * s) (90 * s + (ps.eraseIdx 0).length) _
      rw [hle]
      refine y1.cg (by omega) (fun j q1 q2 => ?_)
      dsimp only
      rw [pk_era, if_neg (by omega), shf_lt (by omega), show j + 1 - 90 * s = j - 90 * s + 1 by omega]
    · show TF m 178 (90 * s) (90 * s + (ps.eraseIdx 0).length) _
      rw [hle]
      refine y2.cg (by omega) (fun j q1 q2 => ?_)
      dsimp only
      rw [pk_era, if_neg (by omega), shf_lt (by omega), show j + 1 - 90 * s = j - 90 * s + 1 by omega]
/-- the packet that was made -/
def MdP (μ : Mem) (tk : Nat) (p : List Nat) : Prop := Seg μ 164 0 p ∧ μ.1 129 83 = nI p.length ∧ μ.1 129 77 = nI tk
theorem MdP.fr {μ m : Mem} {tk : Nat} {p : List Nat} {P : Nat → Nat → Prop} (h : MdP μ tk p) (ho : Fr P μ m) (h1 : ∀ k, ¬ P 164 k) (h2 : ¬ P 129 83) (h3 : ¬ P 129 77) : MdP m tk p := ⟨h.1.fr ho h1, by rw [ho.1 _ _ h2]; exact h.2.1, by rw [ho.1 _ _ h3]; exact h.2.2⟩
theorem fitS_M {μ : Mem} {s tk : Nat} {x : Sto} {p : List Nat} (hs : s < 2) (h : StM μ s x) (hI : SPk tk x.2.2) (hp : MdP μ tk p) (h1 : 15 ≤ p.length) (h2 : p.length ≤ 82) (q : tot x.2.2 + p.length ≤ 1200) (kl : Int32 → Mem → Option Mem) : wp (b307_37 kl (nI s) μ) (fun m => StM m s (addS x tk p) ∧ Fr (FStM s) μ m) := by
  have g1 := gl_171
  have g2 := gl_172
  have g3 := gl_176
  have g4 := gl_177
  have g5 := gl_178
  have g6 := gl_164
  have hl := hI.len
  have ht := hI.1
  obtain ⟨a, b, ⟨c1, c2⟩, d1, d2⟩ := h
  unfold b307_37 addS
  rw [if_pos q]
  generalize hps : x.2.2 = ps at *
  simp (disch := omega) only [i_0, i_1, i_2, i_3, i_4, i_5, i_6, i_7, i_8, i_9, i_10, i_11, i_12, i_13, i_14, i_15, i_16, i_17, i_18, i_19, i_20, i_21, i_22, i_23, i_24, i_25, i_26, i_27, i_31, i_32, i_40, i_42, i_45, i_48, i_51, i_52, i_56, i_58, i_59, i_60, i_61, i_62, i_63, i_64, i_85, i_90, i_100, i_112, i_120, i_121, i_127, i_128, i_130, i_144, i_171, i_192, i_193, i_197, i_200, i_207, i_235, i_240, i_248, i_252, i_254, i_255, i_256, i_512, i_544, i_768, i_769, i_793, i_1000, i_1023, i_1024, i_1200, i_1538, i_1541, i_1545, i_2046, i_2047, i_2049, i_2060, i_2736, i_2737, i_2817, i_2818, i_2819, i_2820, i_2821, i_2831, i_2832, i_3077, i_3085, i_3843, i_3849, i_3851, i_3852, i_4129, i_4353, i_4865, i_5121, i_5122, i_5123, i_6156, i_8192, i_12288, i_16383, i_32000, i_33280, i_49152, i_53247, i_60304, i_64000, i_64512, i_65521, i_65535, i_449838109, nI_add, pk_mul, pk_sub, nI_mm, nI_leI, nI_ltI, nI_eq, pk_div, jrem_N, jshl_N, jshr_N, jushr_N, jmin_N, jmax_N, an_1, an_3, an_7, an_15, an_31, an_63, an_127, an_255, an_1023, an_2047, an_16383, an_65535, nm, pfI, rdI, rdW, rdL, rdI2, rdW2, ldA_N, stA_N, stB_N, stZ_N, pfZ_0, pfZ_1, rtZ_0, rtZ_1, acp_N, Option.bind_some, wp_some_iff, true_and, and_true, false_and, and_false, or_true, true_or, or_false, false_or, not_true_eq_false, not_false_eq_true, if_true, if_false, if_pos, if_neg, lt_sub, le_sub, sub_lt3, sub_le3, c2, hp.2.1, c1]
  refine wp_bind (move_M hp.1 rfl (by omega) (by omega) (by omega) (by omega)) (fun m2 ⟨h3, e3⟩ => ?_)
  have k1 : m2.1 129 83 = nI p.length := by rw [e3.1 _ _ (by omega)]; exact hp.2.1
  have k2 : m2.1 129 77 = nI tk := by rw [e3.1 _ _ (by omega)]; exact hp.2.2
  have k3 : m2.1 171 s = nI ps.length := by rw [e3.1 _ _ (by omega)]; exact c1
  have k4 : m2.1 172 s = nI (tot ps) := by rw [e3.1 _ _ (by omega)]; exact c2
  simp (disch := omega) only [i_0, i_1, i_2, i_3, i_4, i_5, i_6, i_7, i_8, i_9, i_10, i_11, i_12, i_13, i_14, i_15, i_16, i_17, i_18, i_19, i_20, i_21, i_22, i_23, i_24, i_25, i_26, i_27, i_31, i_32, i_40, i_42, i_45, i_48, i_51, i_52, i_56, i_58, i_59, i_60, i_61, i_62, i_63, i_64, i_85, i_90, i_100, i_112, i_120, i_121, i_127, i_128, i_130, i_144, i_171, i_192, i_193, i_197, i_200, i_207, i_235, i_240, i_248, i_252, i_254, i_255, i_256, i_512, i_544, i_768, i_769, i_793, i_1000, i_1023, i_1024, i_1200, i_1538, i_1541, i_1545, i_2046, i_2047, i_2049, i_2060, i_2736, i_2737, i_2817, i_2818, i_2819, i_2820, i_2821, i_2831, i_2832, i_3077, i_3085, i_3843, i_3849, i_3851, i_3852, i_4129, i_4353, i_4865, i_5121, i_5122, i_5123, i_6156, i_8192, i_12288, i_16383, i_32000, i_33280, i_49152, i_53247, i_60304, i_64000, i_64512, i_65521, i_65535, i_449838109, nI_add, pk_mul, pk_sub, nI_mm, nI_leI, nI_ltI, nI_eq, pk_div, jrem_N, jshl_N, jshr_N, jushr_N, jmin_N, jmax_N, an_1, an_3, an_7, an_15, an_31, an_63, an_127, an_255, an_1023, an_2047, an_16383, an_65535, nm, pfI, rdI, rdW, rdL, rdI2, rdW2, ldA_N, stA_N, stB_N, stZ_N, pfZ_0, pfZ_1, rtZ_0, rtZ_1, acp_N, Option.bind_some, wp_some_iff, true_and, and_true, false_and, and_false, or_true, true_or, or_false, false_or, not_true_eq_false, not_false_eq_true, if_true, if_false, if_pos, if_neg, lt_sub, le_sub, sub_lt3, sub_le3, k1, k2, k3, k4]
  generalize hm : setI (setI (setI (setI m2 177 (90 * s + ps.length) (nI p.length)) 178 (90 * s + ps.length) (nI tk)) 171 s (nI (ps.length + 1))) 172 s (nI (tot ps + p.length)) = m
  have f2 : Fr (fun c k => (c = 171 ∨ c = 172) ∧ k = s ∨ (c = 177 ∨ c = 178) ∧ k = 90 * s + ps.length) m2 m := by
    subst hm
    exact (((Fr.sI (by omega)).pI (by omega)).pI (by omega)).pI (by omega)
  have f3 : Fr (fun c k => (c = 171 ∨ c = 172) ∧ k = s ∨ (c = 177 ∨ c = 178) ∧ k = 90 * s + ps.length ∨ c = 176 ∧ 100 * (90 * s + ps.length) ≤ k ∧ k < 100 * (90 * s + ps.length) + 100) μ m := e3.tr f2 (by intro c k h; omega) (by intro c k h; omega)
  have hal : (ps ++ [(p, nI tk, nI 0)]).length = ps.length + 1 := by rw [List.length_append]; rfl
  refine ⟨⟨?_, ?_, ⟨?_, ?_⟩, ?_, ?_⟩, f3.mono (by intro c k h; omega)⟩
  · exact ⟨by rw [f3.1 _ _ (by omega)]; exact a.1, a.2.1, fun i hi => by rw [f3.1 _ _ (by omega)]; exact a.2.2.1 i hi, a.2.2.2⟩
  · exact ⟨by rw [f3.1 _ _ (by omega)]; exact b.1, by rw [f3.1 _ _ (by omega)]; exact b.2.1, by rw [f3.1 _ _ (by omega)]; exact b.2.2⟩
  · show m.1 171 s = nI (ps ++ [_]).length
    rw [hal]
    subst hm
    simp (disch := omega) only [i_0, i_1, i_2, i_3, i_4, i_5, i_6, i_7, i_8, i_9, i_10, i_11, i_12, i_13, i_14, i_15, i_16, i_17, i_18, i_19, i_20, i_21, i_22, i_23, i_24, i_25, i_26, i_27, i_31, i_32, i_40, i_42, i_45, i_48, i_51, i_52, i_56, i_58, i_59, i_60, i_61, i_62, i_63, i_64, i_85, i_90, i_100, i_112, i_120, i_121, i_127, i_128, i_130, i_144, i_171, i_192, i_193, i_197, i_200, i_207, i_235, i_240, i_248, i_252, i_254, i_255, i_256, i_512, i_544, i_768, i_769, i_793, i_1000, i_1023, i_1024, i_1200, i_1538, i_1541, i_1545, i_2046, i_2047, i_2049, i_2060, i_2736, i_2737, i_2817, i_2818, i_2819, i_2820, i_2821, i_2831, i_2832, i_3077, i_3085, i_3843, i_3849, i_3851, i_3852, i_4129, i_4353, i_4865, i_5121, i_5122, i_5123, i_6156, i_8192, i_12288, i_16383, i_32000, i_33280, i_49152, i_53247, i_60304, i_64000, i_64512, i_65521, i_65535, i_449838109, nI_add, pk_mul, pk_sub, nI_mm, nI_leI, nI_ltI, nI_eq, pk_div, jrem_N, jshl_N, jshr_N, jushr_N, jmin_N, jmax_N, an_1, an_3, an_7, an_15, an_31, an_63, an_127, an_255, an_1023, an_2047, an_16383, an_65535, nm, pfI, rdI, rdW, rdL, rdI2, rdW2, ldA_N, stA_N, stB_N, stZ_N, pfZ_0, pfZ_1, rtZ_0, rtZ_1, acp_N, Option.bind_some, wp_some_iff, true_and, and_true, false_and, and_false, or_true, true_or, or_false, false_or, not_true_eq_false, not_false_eq_true, if_true, if_false, if_pos, if_neg, lt_sub, le_sub, sub_lt3, sub_le3]
  · show m.1 172 s = nI (tot (ps ++ [_]))
    rw [tot_app]
    subst hm
    simp (disch := omega) only [i_0, i_1, i_2, i_3, i_4, i_5, i_6, i_7, i_8, i_9, i_10, i_11, i_12, i_13, i_14, i_15, i_16, i_17, i_18, i_19, i_20, i_21, i_22, i_23, i_24, i_25, i_26, i_27, i_31, i_32, i_40, i_42, i_45, i_48, i_51, i_52, i_56, i_58, i_59, i_60, i_61, i_62, i_63, i_64, i_85, i_90, i_100, i_112, i_120, i_121, i_127, i_128, i_130, i_144, i_171, i_192, i_193, i_197, i_200, i_207, i_235, i_240, i_248, i_252, i_254, i_255, i_256, i_512, i_544, i_768, i_769, i_793, i_1000, i_1023, i_1024, i_1200, i_1538, i_1541, i_1545, i_2046, i_2047, i_2049, i_2060, i_2736, i_2737, i_2817, i_2818, i_2819, i_2820, i_2821, i_2831, i_2832, i_3077, i_3085, i_3843, i_3849, i_3851, i_3852, i_4129, i_4353, i_4865, i_5121, i_5122, i_5123, i_6156, i_8192, i_12288, i_16383, i_32000, i_33280, i_49152, i_53247, i_60304, i_64000, i_64512, i_65521, i_65535, i_449838109, nI_add, pk_mul, pk_sub, nI_mm, nI_leI, nI_ltI, nI_eq, pk_div, jrem_N, jshl_N, jshr_N, jushr_N, jmin_N, jmax_N, an_1, an_3, an_7, an_15, an_31, an_63, an_127, an_255, an_1023, an_2047, an_16383, an_65535, nm, pfI, rdI, rdW, rdL, rdI2, rdW2, ldA_N, stA_N, stB_N, stZ_N, pfZ_0, pfZ_1, rtZ_0, rtZ_1, acp_N, Option.bind_some, wp_some_iff, true_and, and_true, false_and, and_false, or_true, true_or, or_false, false_or, not_true_eq_false, not_false_eq_true, if_true, if_false, if_pos, if_neg, lt_sub, le_sub, sub_lt3, sub_le3]
  · show QF m 176 177 100 (90 * s) (90 * s + (ps ++ [_]).length) _
    rw [hal]
    have z := QF.put2 (hi2 := 90 * s + (ps.length + 1)) d1 (x := p) (i := 90 * s + ps.length) (m := m) (by omega) (by subst hm; simp (disch := omega) only [i_0, i_1, i_2, i_3, i_4, i_5, i_6, i_7, i_8, i_9, i_10, i_11, i_12, i_13, i_14, i_15, i_16, i_17, i_18, i_19, i_20, i_21, i_22, i_23, i_24, i_25, i_26, i_27, i_31, i_32, i_40, i_42, i_45, i_48, i_51, i_52, i_56, i_58, i_59, i_60, i_61, i_62, i_63, i_64, i_85, i_90, i_100, i_112, i_120, i_121, i_127, i_128, i_130, i_144, i_171, i_192, i_193, i_197, i_200, i_207, i_235, i_240, i_248, i_252, i_254, i_255, i_256, i_512, i_544, i_768, i_769, i_793, i_1000, i_1023, i_1024, i_1200, i_1538, i_1541, i_1545, i_2046, i_2047, i_2049, i_2060, i_2736, i_2737, i_2817, i_2818, i_2819, i_2820, i_2821, i_2831, i_2832, i_3077, i_3085, i_3843, i_3849, i_3851, i_3852, i_4129, i_4353, i_4865, i_5121, i_5122, i_5123, i_6156, i_8192, i_12288, i_16383, i_32000, i_33280, i_49152, i_53247, i_60304, i_64000, i_64512, i_65521, i_65535, i_449838109, nI_add, pk_mul, pk_sub, nI_mm, nI_leI, nI_ltI, nI_eq, pk_div, jrem_N, jshl_N, jshr_N, jushr_N, jmin_N, jmax_N, an_1, an_3, an_7, an_15, an_31, an_63, an_127, an_255, an_1023, an_2047, an_16383, an_65535, nm, pfI, rdI, rdW, rdL, rdI2, rdW2, ldA_N, stA_N, stB_N, stZ_N, pfZ_0, pfZ_1, rtZ_0, rtZ_1, acp_N, Option.bind_some, wp_some_iff, true_and, and_true, false_and, and_false, or_true, true_or, or_false, false_or, not_true_eq_false, not_false_eq_true, if_true, if_false, if_pos, if_neg, lt_sub, le_sub, sub_lt3, sub_le3]) (h3.fr f2 (fun k => by omega)) f3 (fun k q => by omega) (fun k q => by omega) (Or.inr ⟨by omega, rfl⟩)
    refine z.cg (Nat.le_refl _) (fun j q1 q2 => ?_)
    dsimp only
    rw [pk_app]
    unfold upL
    by_cases e : j = 90 * s + ps.length
    · rw [if_pos e, if_neg (by omega), if_pos (by omega)]
    · rw [if_neg e, if_pos (by omega)]
  · show TF m 178 (90 * s) (90 * s + (ps ++ [_]).length) _
    rw [hal]
    have z := TF.put2 (hi2 := 90 * s + (ps.length + 1)) d2 (x := nI tk) (i := 90 * s + ps.length) (m := m) (by subst hm; simp (disch := omega) only [i_0, i_1, i_2, i_3, i_4, i_5, i_6, i_7, i_8, i_9, i_10, i_11, i_12, i_13, i_14, i_15, i_16, i_17, i_18, i_19, i_20, i_21, i_22, i_23, i_24, i_25, i_26, i_27, i_31, i_32, i_40, i_42, i_45, i_48, i_51, i_52, i_56, i_58, i_59, i_60, i_61, i_62, i_63, i_64, i_85, i_90, i_100, i_112, i_120, i_121, i_127, i_128, i_130, i_144, i_171, i_192, i_193, i_197, i_200, i_207, i_235, i_240, i_248, i_252, i_254, i_255, i_256, i_512, i_544, i_768, i_769, i_793, i_1000, i_1023, i_1024, i_1200, i_1538, i_1541, i_1545, i_2046, i_2047, i_2049, i_2060, i_2736, i_2737, i_2817, i_2818, i_2819, i_2820, i_2821, i_2831, i_2832, i_3077, i_3085, i_3843, i_3849, i_3851, i_3852, i_4129, i_4353, i_4865, i_5121, i_5122, i_5123, i_6156, i_8192, i_12288, i_16383, i_32000, i_33280, i_49152, i_53247, i_60304, i_64000, i_64512, i_65521, i_65535, i_449838109, nI_add, pk_mul, pk_sub, nI_mm, nI_leI, nI_ltI, nI_eq, pk_div, jrem_N, jshl_N, jshr_N, jushr_N, jmin_N, jmax_N, an_1, an_3, an_7, an_15, an_31, an_63, an_127, an_255, an_1023, an_2047, an_16383, an_65535, nm, pfI, rdI, rdW, rdL, rdI2, rdW2, ldA_N, stA_N, stB_N, stZ_N, pfZ_0, pfZ_1, rtZ_0, rtZ_1, acp_N, Option.bind_some, wp_some_iff, true_and, and_true, false_and, and_false, or_true, true_or, or_false, false_or, not_true_eq_false, not_false_eq_true, if_true, if_false, if_pos, if_neg, lt_sub, le_sub, sub_lt3, sub_le3]) f3 (fun k q => by omega) (Or.inr ⟨by omega, rfl⟩)
    refine z.cg (Nat.le_refl _) (fun j q1 q2 => ?_)
    dsimp only
    rw [pk_app]
    unfold upL
    by_cases e : j = 90 * s + ps.length
    · rw [if_pos e, if_neg (by omega), if_pos (by omega)]
    · rw [if_neg e, if_pos (by omega)]
theorem keepL_M {μ : Mem} {s tk : Nat} {x : Sto} {p : List Nat} (hs : s < 2) (h : StM μ s x) (hI : SPk tk x.2.2) (hp : MdP μ tk p) (h1 : 15 ≤ p.length) (h2 : p.length ≤ 82) : wp (l307_37 gF (nI s, μ)) (fun m => StM m s (addS (x.1, x.2.1, drN p.length x.2.2.length x.2.2) tk p) ∧ Fr (FStM s) μ m) := by
  have g2 := gl_172
  have hl := hI.len
  have ht := hI.1
  unfold l307_37
  refine wp_for (fun i m => (nI s, m)) (fun i m => ∃ ps, StM m s (x.1, x.2.1, ps) ∧ SPk tk ps ∧ ps.length = x.2.2.length - i ∧ drN p.length (x.2.2.length - i) ps = drN p.length x.2.2.length x.2.2 ∧ Fr (FStM s) μ m) x.2.2.length (by omega) μ _ rfl ⟨x.2.2, h, hI, rfl, rfl, Fr.rf⟩ (fun self i m hi ⟨ps, y1, y2, y3, y4, y5⟩ hk => ?_) (fun self m ⟨ps, y1, y2, y3, y4, y5⟩ => ?_)
  · have p1 := hp.fr y5 (fun k => by omega) (by omega) (by omega)
    have e4 : x.2.2.length - i = (x.2.2.length - (i + 1)) + 1 := by omega
    rw [e4, drN] at y4
    by_cases q4 : tot ps + p.length ≤ 1200
    · rw [if_pos q4] at y4
      rw [← y4]
      exact wp_mono (fitS_M hs y1 y2 p1 h1 h2 q4 _) (fun m2 h => ⟨h.1, y5.tr' h.2⟩)
    · rw [if_neg q4] at y4
      have hl0 : 0 < ps.length := by omega
      have yt := y2.1
      have c2 := y1.2.2.1.2
      dsimp only at c2
      unfold b307_37
      simp (disch := omega) only [i_0, i_1, i_2, i_3, i_4, i_5, i_6, i_7, i_8, i_9, i_10, i_11, i_12, i_13, i_14, i_15, i_16, i_17, i_18, i_19, i_20, i_21, i_22, i_23, i_24, i_25, i_26, i_27, i_31, i_32, i_40, i_42, i_45, i_48, i_51, i_52, i_56, i_58, i_59, i_60, i_61, i_62, i_63, i_64, i_85, i_90, i_100, i_112, i_120, i_121, i_127, i_128, i_130, i_144, i_171, i_192, i_193, i_197, i_200, i_207, i_235, i_240, i_248, i_252, i_254, i_255, i_256, i_512, i_544, i_768, i_769, i_793, i_1000, i_1023, i_1024, i_1200, i_1538, i_1541, i_1545, i_2046, i_2047, i_2049, i_2060, i_2736, i_2737, i_2817, i_2818, i_2819, i_2820, i_2821, i_2831, i_2832, i_3077, i_3085, i_3843, i_3849, i_3851, i_3852, i_4129, i_4353, i_4865, i_5121, i_5122, i_5123, i_6156, i_8192, i_12288, i_16383, i_32000, i_33280, i_49152, i_53247, i_60304, i_64000, i_64512, i_65521, i_65535, i_449838109, nI_add, pk_mul, pk_sub, nI_mm, nI_leI, nI_ltI, nI_eq, pk_div, jrem_N, jshl_N, jshr_N, jushr_N, jmin_N, jmax_N, an_1, an_3, an_7, an_15, an_31, an_63, an_127, an_255, an_1023, an_2047, an_16383, an_65535, nm, pfI, rdI, rdW, rdL, rdI2, rdW2, ldA_N, stA_N, stB_N, stZ_N, pfZ_0, pfZ_1, rtZ_0, rtZ_1, acp_N, Option.bind_some, wp_some_iff, true_and, and_true, false_and, and_false, or_true, true_or, or_false, false_or, not_true_eq_false, not_false_eq_true, if_true, if_false, if_pos, if_neg, lt_sub, le_sub, sub_lt3, sub_le3, c2, p1.2.1]
      refine wp_bind (dropF_M hs y1 y2 hl0) (fun m2 ⟨h3, e3⟩ => ?_)
      exact hk m2 ⟨ps.eraseIdx 0, h3, y2.era hl0, by rw [era_len hl0]; omega, y4, y5.tr' e3⟩
  · rw [Nat.sub_self] at y3 y4
    have p1 := hp.fr y5 (fun k => by omega) (by omega) (by omega)
    rw [drN] at y4
    rw [← y4]
    have e0 : ps = [] := List.eq_nil_of_length_eq_zero y3
    refine wp_mono (fitS_M hs y1 y2 p1 h1 h2 ?_ _) (fun m2 h => ⟨h.1, y5.tr' h.2⟩)
    subst e0
    show 0 + _ ≤ _
    omega
theorem drN_fit {n k : Nat} {ps : List Pk} (h : tot ps + n ≤ 1200) : drN n k ps = ps := by
  cases k with
  | zero => rfl
  | succ k => rw [drN, if_pos h]
theorem keep_M {μ : Mem} {s tk : Nat} {x : Sto} {p : List Nat} (hs : s < 2) (h : StM μ s x) (hI : StI tk x) (hp : MdP μ tk p) (h1 : 15 ≤ p.length) (h2 : p.length ≤ 82) : wp (f307 (nI s) μ) (fun m => StM m s (if x.1 0 = nI 0 then addS x tk p else addS (x.1, x.2.1, drN p.length x.2.2.length x.2.2) tk p) ∧ Fr (FStM s) μ m) := by
  have g1 := gl_169
  have g2 := gl_172
  have g3 := gl_173
  have hl := hI.2.2.len
  have ht := hI.2.2.1
  have hL := keepL_M hs h hI.2.2 hp h1 h2
  obtain ⟨a, ⟨b1, b2, b3⟩, ⟨c1, c2⟩, d1, d2⟩ := h
  unfold f307
  by_cases q : x.1 0 = nI 0
  · simp (disch := omega) only [i_0, i_1, i_2, i_3, i_4, i_5, i_6, i_7, i_8, i_9, i_10, i_11, i_12, i_13, i_14, i_15, i_16, i_17, i_18, i_19, i_20, i_21, i_22, i_23, i_24, i_25, i_26, i_27, i_31, i_32, i_40, i_42, i_45, i_48, i_51, i_52, i_56, i_58, i_59, i_60, i_61, i_62, i_63, i_64, i_85, i_90, i_100, i_112, i_120, i_121, i_127, i_128, i_130, i_144, i_171, i_192, i_193, i_197, i_200, i_207, i_235, i_240, i_248, i_252, i_254, i_255, i_256, i_512, i_544, i_768, i_769, i_793, i_1000, i_1023, i_1024, i_1200, i_1538, i_1541, i_1545, i_2046, i_2047, i_2049, i_2060, i_2736, i_2737, i_2817, i_2818, i_2819, i_2820, i_2821, i_2831, i_2832, i_3077, i_3085, i_3843, i_3849, i_3851, i_3852, i_4129, i_4353, i_4865, i_5121, i_5122, i_5123, i_6156, i_8192, i_12288, i_16383, i_32000, i_33280, i_49152, i_53247, i_60304, i_64000, i_64512, i_65521, i_65535, i_449838109, nI_add, pk_mul, pk_sub, nI_mm, nI_leI, nI_ltI, nI_eq, pk_div, jrem_N, jshl_N, jshr_N, jushr_N, jmin_N, jmax_N, an_1, an_3, an_7, an_15, an_31, an_63, an_127, an_255, an_1023, an_2047, an_16383, an_65535, nm, pfI, rdI, rdW, rdL, rdI2, rdW2, ldA_N, stA_N, stB_N, stZ_N, pfZ_0, pfZ_1, rtZ_0, rtZ_1, acp_N, Option.bind_some, wp_some_iff, true_and, and_true, false_and, and_false, or_true, true_or, or_false, false_or, not_true_eq_false, not_false_eq_true, if_true, if_false, if_pos, if_neg, lt_sub, le_sub, sub_lt3, sub_le3, b1, q, c2, hp.2.1]
    by_cases q2 : tot x.2.2 + p.length ≤ 1200
    · rw [if_pos q2]
      rw [drN_fit q2] at hL
      exact hL
    · rw [if_neg q2]
      simp (disch := omega) only [i_0, i_1, i_2, i_3, i_4, i_5, i_6, i_7, i_8, i_9, i_10, i_11, i_12, i_13, i_14, i_15, i_16, i_17, i_18, i_19, i_20, i_21, i_22, i_23, i_24, i_25, i_26, i_27, i_31, i_32, i_40, i_42, i_45, i_48, i_51, i_52, i_56, i_58, i_59, i_60, i_61, i_62, i_63, i_64, i_85, i_90, i_100, i_112, i_120, i_121, i_127, i_128, i_130, i_144, i_171, i_192, i_193, i_197, i_200, i_207, i_235, i_240, i_248, i_252, i_254, i_255, i_256, i_512, i_544, i_768, i_769, i_793, i_1000, i_1023, i_1024, i_1200, i_1538, i_1541, i_1545, i_2046, i_2047, i_2049, i_2060, i_2736, i_2737, i_2817, i_2818, i_2819, i_2820, i_2821, i_2831, i_2832, i_3077, i_3085, i_3843, i_3849, i_3851, i_3852, i_4129, i_4353, i_4865, i_5121, i_5122, i_5123, i_6156, i_8192, i_12288, i_16383, i_32000, i_33280, i_49152, i_53247, i_60304, i_64000, i_64512, i_65521, i_65535, i_449838109, nI_add, pk_mul, pk_sub, nI_mm, nI_leI, nI_ltI, nI_eq, pk_div, jrem_N, jshl_N, jshr_N, jushr_N, jmin_N, jmax_N, an_1, an_3, an_7, an_15, an_31, an_63, an_127, an_255, an_1023, an_2047, an_16383, an_65535, nm, pfI, rdI, rdW, rdL, rdI2, rdW2, ldA_N, stA_N, stB_N, stZ_N, pfZ_0, pfZ_1, rtZ_0, rtZ_1, acp_N, Option.bind_some, wp_some_iff, true_and, and_true, false_and, and_false, or_true, true_or, or_false, false_or, not_true_eq_false, not_false_eq_true, if_true, if_false, if_pos, if_neg, lt_sub, le_sub, sub_lt3, sub_le3, b3]
      unfold addS
      rw [if_neg q2]
      have f1 : Fr (fun c k => c = 173 ∧ k = s) μ (setI μ 173 s (x.1 2 + nI 1)) := Fr.sI ⟨rfl, rfl⟩
      refine ⟨⟨?_, ⟨?_, ?_, ?_⟩, ⟨?_, ?_⟩, d1.fr f1 (fun k => by omega) (fun k => by omega), d2.fr f1 (fun k => by omega)⟩, f1.mono (by intro c k h; omega)⟩
      · exact ⟨by rw [f1.1 _ _ (by omega)]; exact a.1, a.2.1, fun i hi => by rw [f1.1 _ _ (by omega)]; exact a.2.2.1 i hi, a.2.2.2⟩
      · rw [f1.1 _ _ (by omega)]; exact b1
      · rw [f1.1 _ _ (by omega)]; exact b2
      · show (setI μ 173 s (x.1 2 + nI 1)).1 173 s = x.1 2 + nI 1
        simp (disch := omega) only [i_0, i_1, i_2, i_3, i_4, i_5, i_6, i_7, i_8, i_9, i_10, i_11, i_12, i_13, i_14, i_15, i_16, i_17, i_18, i_19, i_20, i_21, i_22, i_23, i_24, i_25, i_26, i_27, i_31, i_32, i_40, i_42, i_45, i_48, i_51, i_52, i_56, i_58, i_59, i_60, i_61, i_62, i_63, i_64, i_85, i_90, i_100, i_112, i_120, i_121, i_127, i_128, i_130, i_144, i_171, i_192, i_193, i_197, i_200, i_207, i_235, i_240, i_248, i_252, i_254, i_255, i_256, i_512, i_544, i_768, i_769, i_793, i_1000, i_1023, i_1024, i_1200, i_1538, i_1541, i_1545, i_2046, i_2047, i_2049, i_2060, i_2736, i_2737, i_2817, i_2818, i_2819, i_2820, i_2821, i_2831, i_2832, i_3077, i_3085, i_3843, i_3849, i_3851, i_3852, i_4129, i_4353, i_4865, i_5121, i_5122, i_5123, i_6156, i_8192, i_12288, i_16383, i_32000, i_33280, i_49152, i_53247, i_60304, i_64000, i_64512, i_65521, i_65535, i_449838109, nI_add, pk_mul, pk_sub, nI_mm, nI_leI, nI_ltI, nI_eq, pk_div, jrem_N, jshl_N, jshr_N, jushr_N, jmin_N, jmax_N, an_1, an_3, an_7, an_15, an_31, an_63, an_127, an_255, an_1023, an_2047, an_16383, an_65535, nm, pfI, rdI, rdW, rdL, rdI2, rdW2, ldA_N, stA_N, stB_N, stZ_N, pfZ_0, pfZ_1, rtZ_0, rtZ_1, acp_N, Option.bind_some, wp_some_iff, true_and, and_true, false_and, and_false, or_true, true_or, or_false, false_or, not_true_eq_false, not_false_eq_true, if_true, if_false, if_pos, if_neg, lt_sub, le_sub, sub_lt3, sub_le3]
      · rw [f1.1 _ _ (by omega)]; exact c1
      · rw [f1.1 _ _ (by omega)]; exact c2
  · simp (disch := omega) only [i_0, i_1, i_2, i_3, i_4, i_5, i_6, i_7, i_8, i_9, i_10, i_11, i_12, i_13, i_14, i_15, i_16, i_17, i_18, i_19, i_20, i_21, i_22, i_23, i_24, i_25, i_26, i_27, i_31, i_32, i_40, i_42, i_45, i_48, i_51, i_52, i_56, i_58, i_59, i_60, i_61, i_62, i_63, i_64, i_85, i_90, i_100, i_112, i_120, i_121, i_127, i_128, i_130, i_144, i_171, i_192, i_193, i_197, i_200, i_207, i_235, i_240, i_248, i_252, i_254, i_255, i_256, i_512, i_544, i_768, i_769, i_793, i_1000, i_1023, i_1024, i_1200, i_1538, i_1541, i_1545, i_2046, i_2047, i_2049, i_2060, i_2736, i_2737, i_2817, i_2818, i_2819, i_2820, i_2821, i_2831, i_2832, i_3077, i_3085, i_3843, i_3849, i_3851, i_3852, i_4129, i_4353, i_4865, i_5121, i_5122, i_5123, i_6156, i_8192, i_12288, i_16383, i_32000, i_33280, i_49152, i_53247, i_60304, i_64000, i_64512, i_65521, i_65535, i_449838109, nI_add, pk_mul, pk_sub, nI_mm, nI_leI, nI_ltI, nI_eq, pk_div, jrem_N, jshl_N, jshr_N, jushr_N, jmin_N, jmax_N, an_1, an_3, an_7, an_15, an_31, an_63, an_127, an_255, an_1023, an_2047, an_16383, an_65535, nm, pfI, rdI, rdW, rdL, rdI2, rdW2, ldA_N, stA_N, stB_N, stZ_N, pfZ_0, pfZ_1, rtZ_0, rtZ_1, acp_N, Option.bind_some, wp_some_iff, true_and, and_true, false_and, and_false, or_true, true_or, or_false, false_or, not_true_eq_false, not_false_eq_true, if_true, if_false, if_pos, if_neg, lt_sub, le_sub, sub_lt3, sub_le3, b1, q]
    exact hL
