/-! ===== the schedule: the reference ===== -/
def SlA (μ : Mem) (j : Nat) (q : Pk) : Prop := μ.1 204 j = q.2.1 ∧ μ.1 205 j = q.2.2 ∧ μ.1 206 j = nI q.1.length ∧ Seg μ 207 (40 * j) q.1
def Sl (μ : Mem) (n : Nat) (f : Nat → Pk) : Prop := ∀ j, j < n → SlA μ j (f j)
abbrev FSl (b : Nat) : Nat → Nat → Prop := fun c k => (204 ≤ c ∧ c ≤ 206) ∧ k = b ∨ c = 207 ∧ 40 * b ≤ k ∧ k < 40 * b + 40
theorem SlA.fr {μ m : Mem} {j : Nat} {q : Pk} {P : Nat → Nat → Prop} (h : SlA μ j q) (hq : q.1.length ≤ 40) (ho : Fr P μ m) (h1 : ∀ c k, FSl j c k → ¬ P c k) : SlA m j q := by
  obtain ⟨a1, a2, a3, a4⟩ := h
  refine ⟨?_, ?_, ?_, ⟨fun i hi => ?_, a4.2⟩⟩
  · rw [ho.1 _ _ (h1 _ _ (by omega))]; exact a1
  · rw [ho.1 _ _ (h1 _ _ (by omega))]; exact a2
  · rw [ho.1 _ _ (h1 _ _ (by omega))]; exact a3
  · rw [ho.1 _ _ (h1 _ _ (by omega))]; exact a4.1 i hi
theorem Sl.fr {μ m : Mem} {n : Nat} {f : Nat → Pk} {P : Nat → Nat → Prop} (h : Sl μ n f) (hf : ∀ j, j < n → (f j).1.length ≤ 40) (ho : Fr P μ m) (h1 : ∀ c k, 204 ≤ c ∧ c ≤ 207 → ¬ P c k) : Sl m n f := fun j hj => (h j hj).fr (hf j hj) ho (fun c k _ => h1 c k (by omega))
theorem mvE_M {μ : Mem} {a b : Nat} {q : Pk} (h : SlA μ a q) (hq : q.1.length ≤ 40) (ha : a < 17) (hb : b < 17) (hne : a ≠ b) : wp (f335 (nI a) (nI b) μ) (fun m => SlA m b q ∧ Fr (FSl b) μ m) := by
  have g4 := gl_204
  have g5 := gl_205
  have g6 := gl_206
  have g7 := gl_207
  obtain ⟨a1, a2, a3, a4⟩ := h
  unfold f335
  simp (disch := omega) only [i_0, i_1, i_2, i_3, i_4, i_5, i_6, i_7, i_8, i_9, i_10, i_11, i_12, i_13, i_14, i_15, i_16, i_17, i_18, i_19, i_20, i_21, i_22, i_23, i_24, i_25, i_26, i_27, i_31, i_32, i_40, i_42, i_45, i_48, i_51, i_52, i_56, i_58, i_59, i_60, i_61, i_62, i_63, i_64, i_85, i_90, i_100, i_112, i_120, i_121, i_127, i_128, i_130, i_144, i_171, i_192, i_193, i_197, i_200, i_207, i_235, i_240, i_248, i_252, i_254, i_255, i_256, i_512, i_544, i_768, i_769, i_793, i_1000, i_1023, i_1024, i_1200, i_1538, i_1541, i_1545, i_2046, i_2047, i_2049, i_2060, i_2736, i_2737, i_2817, i_2818, i_2819, i_2820, i_2821, i_2831, i_2832, i_3077, i_3085, i_3843, i_3849, i_3851, i_3852, i_4129, i_4353, i_4865, i_5121, i_5122, i_5123, i_6156, i_8192, i_12288, i_16383, i_32000, i_33280, i_49152, i_53247, i_60304, i_64000, i_64512, i_65521, i_65535, i_449838109, nI_add, pk_mul, pk_sub, nI_mm, nI_leI, nI_ltI, nI_eq, pk_div, jrem_N, jshl_N, jshr_N, jushr_N, jmin_N, jmax_N, an_1, an_3, an_7, an_15, an_31, an_63, an_127, an_255, an_1023, an_2047, an_16383, an_65535, nm, pfI, rdI, rdW, rdL, rdI2, rdW2, ldA_N, stA_N, stB_N, stZ_N, pfZ_0, pfZ_1, rtZ_0, rtZ_1, acp_N, Option.bind_some, wp_some_iff, true_and, and_true, false_and, and_false, or_true, true_or, or_false, false_or, not_true_eq_false, not_false_eq_true, if_true, if_false, if_pos, if_neg, lt_sub, le_sub, sub_lt3, sub_le3, Option.bind_assoc, a1, a2, a3]
  have f1 : Fr (fun c k => (204 ≤ c ∧ c ≤ 206) ∧ k = b) μ (setI (setI (setI μ 204 b q.2.1) 205 b q.2.2) 206 b (nI q.1.length)) := ((Fr.sI (by omega)).pI (by omega)).pI (by omega)
  have r4 : (setI (setI (setI μ 204 b q.2.1) 205 b q.2.2) 206 b (nI q.1.length)).1 204 b = q.2.1 := by simp (disch := omega) only [i_0, i_1, i_2, i_3, i_4, i_5, i_6, i_7, i_8, i_9, i_10, i_11, i_12, i_13, i_14, i_15, i_16, i_17, i_18, i_19, i_20, i_21, i_22, i_23, i_24, i_25, i_26, i_27, i_31, i_32, i_40, i_42, i_45, i_48, i_51, i_52, i_56, i_58, i_59, i_60, i_61, i_62, i_63, i_64, i_85, i_90, i_100, i_112, i_120, i_121, i_127, i_128, i_130, i_144, i_171, i_192, i_193, i_197, i_200, i_207, i_235, i_240, i_248, i_252, i_254, i_255, i_256, i_512, i_544, i_768, i_769, i_793, i_1000, i_1023, i_1024, i_1200, i_1538, i_1541, i_1545, i_2046, i_2047, i_2049, i_2060, i_2736, i_2737, i_2817, i_2818, i_2819, i_2820, i_2821, i_2831, i_2832, i_3077, i_3085, i_3843, i_3849, i_3851, i_3852, i_4129, i_4353, i_4865, i_5121, i_5122, i_5123, i_6156, i_8192, i_12288, i_16383, i_32000, i_33280, i_49152, i_53247, i_60304, i_64000, i_64512, i_65521, i_65535, i_449838109, nI_add, pk_mul, pk_sub, nI_mm, nI_leI, nI_ltI, nI_eq, pk_div, jrem_N, jshl_N, jshr_N, jushr_N, jmin_N, jmax_N, an_1, an_3, an_7, an_15, an_31, an_63, an_127, an_255, an_1023, an_2047, an_16383, an_65535, nm, pfI, rdI, rdW, rdL, rdI2, rdW2, ldA_N, stA_N, stB_N, stZ_N, pfZ_0, pfZ_1, rtZ_0, rtZ_1, acp_N, Option.bind_some, wp_some_iff, true_and, and_true, false_and, and_false, or_true, true_or, or_false, false_or, not_true_eq_false, not_false_eq_true, if_true, if_false, if_pos, if_neg, lt_sub, le_sub, sub_lt3, sub_le3, Option.bind_assoc]
  have r5 : (setI (setI (setI μ 204 b q.2.1) 205 b q.2.2) 206 b (nI q.1.length)).1 205 b = q.2.2 := by simp (disch := omega) only [i_0, i_1, i_2, i_3, i_4, i_5, i_6, i_7, i_8, i_9, i_10, i_11, i_12, i_13, i_14, i_15, i_16, i_17, i_18, i_19, i_20, i_21, i_22, i_23, i_24, i_25, i_26, i_27, i_31, i_32, i_40, i_42, i_45, i_48, i_51, i_52, i_56, i_58, i_59, i_60, i_61, i_62, i_63, i_64, i_85, i_90, i_100, i_112, i_120, i_121, i_127, i_128, i_130, i_144, i_171, i_192, i_193, i_197, i_200, i_207, i_235, i_240, i_248, i_252, i_254, i_255, i_256, i_512, i_544, i_768, i_769, i_793, i_1000, i_1023, i_1024, i_1200, i_1538, i_1541, i_1545, i_2046, i_2047, i_2049, i_2060, i_2736, i_2737, i_2817, i_2818, i_2819, i_2820, i_2821, i_2831, i_2832, i_3077, i_3085, i_3843, i_3849, i_3851, i_3852, i_4129, i_4353, i_4865, i_5121, i_5122, i_5123, i_6156, i_8192, i_12288, i_16383, i_32000, i_33280, i_49152, i_53247, i_60304, i_64000, i_64512, i_65521, i_65535, i_449838109, nI_add, pk_mul, pk_sub, nI_mm, nI_leI, nI_ltI, nI_eq, pk_div, jrem_N, jshl_N, jshr_N, jushr_N, jmin_N, jmax_N, an_1, an_3, an_7, an_15, an_31, an_63, an_127, an_255, an_1023, an_2047, an_16383, an_65535, nm, pfI, rdI, rdW, rdL, rdI2, rdW2, ldA_N, stA_N, stB_N, stZ_N, pfZ_0, pfZ_1, rtZ_0, rtZ_1, acp_N, Option.bind_some, wp_some_iff, true_and, and_true, false_and, and_false, or_true, true_or, or_false, false_or, not_true_eq_false, not_false_eq_true, if_true, if_false, if_pos, if_neg, lt_sub, le_sub, sub_lt3, sub_le3, Option.bind_assoc]
  have r6 : (setI (setI (setI μ 204 b q.2.1) 205 b q.2.2) 206 b (nI q.1.length)).1 206 b = nI q.1.length := by simp (disch := omega) only [i_0, i_1, i_2, i_3, i_4, i_5, i_6, i_7, i_8, i_9, i_10, i_11, i_12, i_13, i_14, i_15, i_16, i_17, i_18, i_19, i_20, i_21, i_22, i_23, i_24, i_25, i_26, i_27, i_31, i_32, i_40, i_42, i_45, i_48, i_51, i_52, i_56, i_58, i_59, i_60, i_61, i_62, i_63, i_64, i_85, i_90, i_100, i_112, i_120, i_121, i_127, i_128, i_130, i_144, i_171, i_192, i_193, i_197, i_200, i_207, i_235, i_240, i_248, i_252, i_254, i_255, i_256, i_512, i_544, i_768, i_769, i_793, i_1000, i_1023, i_1024, i_1200, i_1538, i_1541, i_1545, i_2046, i_2047, i_2049, i_2060, i_2736, i_2737, i_2817, i_2818, i_2819, i_2820, i_2821, i_2831, i_2832, i_3077, i_3085, i_3843, i_3849, i_3851, i_3852, i_4129, i_4353, i_4865, i_5121, i_5122, i_5123, i_6156, i_8192, i_12288, i_16383, i_32000, i_33280, i_49152, i_53247, i_60304, i_64000, i_64512, i_65521, i_65535, i_449838109, nI_add, pk_mul, pk_sub, nI_mm, nI_leI, nI_ltI, nI_eq, pk_div, jrem_N, jshl_N, jshr_N, jushr_N, jmin_N, jmax_N, an_1, an_3, an_7, an_15, an_31, an_63, an_127, an_255, an_1023, an_2047, an_16383, an_65535, nm, pfI, rdI, rdW, rdL, rdI2, rdW2, ldA_N, stA_N, stB_N, stZ_N, pfZ_0, pfZ_1, rtZ_0, rtZ_1, acp_N, Option.bind_some, wp_some_iff, true_and, and_true, false_and, and_false, or_true, true_or, or_false, false_or, not_true_eq_false, not_false_eq_true, if_true, if_false, if_pos, if_neg, lt_sub, le_sub, sub_lt3, sub_le3, Option.bind_assoc]
  generalize setI (setI (setI μ 204 b q.2.1) 205 b q.2.2) 206 b (nI q.1.length) = m1 at *
  refine wp_bind (move_M (q := 207) (d := 40 * b) (a4.fr f1 (fun k => by omega)) rfl (by omega) (by omega) (by omega) (Or.inr (by omega))) (fun m2 ⟨c1, c2⟩ => wp_some ⟨⟨?_, ?_, ?_, c1⟩, f1.tr c2 (by intro c k h; omega) (by intro c k h; omega)⟩)
  · rw [c2.1 _ _ (by omega)]; exact r4
  · rw [c2.1 _ _ (by omega)]; exact r5
  · rw [c2.1 _ _ (by omega)]; exact r6
abbrev FSc : Nat → Nat → Prop := fun c k => 204 ≤ c ∧ c ≤ 207 ∨ c = 129 ∧ k = 130
theorem dropE_M {μ : Mem} {n p : Nat} {f : Nat → Pk} (h : Sl μ (n + 1) f) (hf : ∀ j, j < n + 1 → (f j).1.length ≤ 40) (hc : μ.1 129 130 = nI (n + 1)) (hn : n < 16) (hp : p ≤ n) : wp (f334 (nI p) μ) (fun m => Sl m n (fun j => if j < p then f j else f (j + 1)) ∧ m.1 129 130 = nI n ∧ Fr FSc μ m) := by
  unfold f334
  rw [hc, i_1, pk_sub (by omega), show n + 1 - 1 = n from rfl]
  refine wp_bind (wp_some rfl) (fun m1 hm1 => ?_)
  have f1 : Fr (fun c k => c = 129 ∧ k = 130) μ m1 := by rw [← hm1]; exact Fr.sI ⟨rfl, rfl⟩
  have c1 : m1.1 129 130 = nI n := by rw [← hm1, rdI, if_pos ⟨rfl, rfl⟩]
  have s1 : Sl m1 (n + 1) f := h.fr hf f1 (fun c k _ => by omega)
  clear hm1
  unfold l334_12
  refine wp_for (fun i m => (nI (p + i), m)) (fun i m => (∀ j, j < p + i → SlA m j (if j < p then f j else f (j + 1))) ∧ (∀ j, p + i ≤ j → j < n + 1 → SlA m j (f j)) ∧ m.1 129 130 = nI n ∧ Fr FSc μ m) (n - p) (by omega) m1 _ rfl ⟨fun j hj => by rw [if_pos (by omega)]; exact s1 j (by omega), fun j _ hj => s1 j hj, c1, f1.mono (by intro c k h; omega)⟩ (fun self i m hi ⟨x1, x2, x3, x4⟩ hk => ?_) (fun self m ⟨x1, x2, x3, x4⟩ => ?_)
  · unfold b334_12
    rw [x3, if_neg (fun z => by have := (nI_leI (by omega) (by omega)).mp z; omega), i_1, nI_add]
    refine wp_bind (mvE_M (a := p + i + 1) (b := p + i) (x2 (p + i + 1) (by omega) (by omega)) (hf _ (by omega)) (by omega) (by omega) (by omega)) (fun m2 ⟨d1, d2⟩ => ?_)
    refine hk m2 ⟨fun j hj => ?_, fun j h1 h2 => ?_, by rw [d2.1 _ _ (by omega)]; exact x3, x4.tr d2 (fun _ _ q => q) (by intro c k h; omega)⟩
    · by_cases e : j = p + i
      · rw [e, if_neg (by omega)]
        exact d1
      · refine (x1 j (by omega)).fr ?_ d2 (fun c k _ => by omega)
        split
        · exact hf j (by omega)
        · exact hf (j + 1) (by omega)
    · exact (x2 j (by omega) h2).fr (hf j h2) d2 (fun c k _ => by omega)
  · unfold b334_12
    rw [x3, if_pos ((nI_leI (by omega) (by omega)).mpr (by omega))]
    exact wp_some ⟨fun j hj => x1 j (by omega), x3, x4⟩
def ScM (μ : Mem) (s : Tw) : Prop := μ.1 129 128 = nI (b2n s.1) ∧ (∀ g, g < 4 → μ.1 203 g = nI (b2n (s.2.1 g))) ∧ μ.1 129 130 = nI s.2.2.length ∧ Sl μ s.2.2.length (fun j => pk s.2.2 (nthI s.2.2 j))
theorem EnI.len {es : List Pk} (h : EnI es) : ∀ j, j < es.length → (pk es (nthI es j)).1.length ≤ 40 := fun _ hj => (h.2 _ (nth_lt hj).1).1
theorem ScM.fr {μ m : Mem} {s : Tw} {P : Nat → Nat → Prop} (h : ScM μ s) (hE : EnI s.2.2) (ho : Fr P μ m) (h0 : ¬ P 129 128) (h2 : ¬ P 129 130) (h1 : ∀ c k, 203 ≤ c ∧ c ≤ 207 → ¬ P c k) : ScM m s :=
  ⟨by rw [ho.1 _ _ h0]; exact h.1, fun g hg => by rw [ho.1 _ _ (h1 _ _ (by omega))]; exact h.2.1 g hg, by rw [ho.1 _ _ h2]; exact h.2.2.1, h.2.2.2.fr hE.len ho (fun c k _ => h1 c k (by omega))⟩
theorem dropS_M {μ : Mem} {s : Tw} {n : Nat} (h : ScM μ s) (hE : EnI s.2.2) (hn : n < s.2.2.length) : wp (f334 (nI n) μ) (fun m => ScM m (s.1, s.2.1, s.2.2.eraseIdx (nthI s.2.2 n)) ∧ Fr FSc μ m) := by
  have hl := hE.1
  have h1 := (nth_lt hn).1
  have hle : (s.2.2.eraseIdx (nthI s.2.2 n)).length = s.2.2.length - 1 := List.length_eraseIdx_of_lt h1
  have sl := h.2.2.2
  have hc := h.2.2.1
  have hf := hE.len
  obtain ⟨L, hL⟩ : ∃ L, s.2.2.length = L + 1 := ⟨s.2.2.length - 1, by omega⟩
  rw [hL] at sl hc
  refine wp_mono (dropE_M sl (fun j hj => hf j (by omega)) hc (by omega) (by omega)) (fun m ⟨a1, a2, a3⟩ => ⟨⟨?_, fun g hg => ?_, ?_, fun j hj => ?_⟩, a3⟩)
  · rw [a3.1 _ _ (by omega)]; exact h.1
  · rw [a3.1 _ _ (by omega)]; exact h.2.1 g hg
  · rw [a2, hle, hL]; rfl
  · dsimp only at hj ⊢
    rw [hle, hL] at hj
    rw [nth_era hn (by omega)]
    have := a1 j (by omega)
    dsimp only at this
    by_cases e : j < n
    · rw [if_pos e] at this ⊢
      exact this
    · rw [if_neg e] at this ⊢
      exact this
abbrev FYm : Nat → Nat → Prop := fun c k => FLm c k ∨ c = 140 ∨ c = 129 ∧ (k = 27 ∨ k = 130) ∨ 204 ≤ c ∧ c ≤ 207
theorem sch_M {μ : Mem} {y : Yw} (h : KM μ y.1) (hI : KI y.1) (hS : ScM μ y.2) (hE : EnI y.2.2.2) : wp (f338 μ) (fun m => KM m (schN 16 y).1 ∧ ScM m (schN 16 y).2 ∧ Fr FYm μ m) := by
  have g3 := gl_203
  have g4 := gl_204
  have g5 := gl_205
  have g6 := gl_206
  have g7 := gl_207
  have g140 := gl_140
  unfold f338 l338_0
  refine wp_for (γ := Yw × Mem) (fun i x => x.2) (fun i x => KI x.1.1 ∧ EnI x.1.2.2.2 ∧ x.1.2.2.2.length ≤ 16 - i ∧ KM x.2 x.1.1 ∧ ScM x.2 x.1.2 ∧ Fr FYm μ x.2 ∧ schN (16 - i) x.1 = schN 16 y) 16 (by omega) (y, μ) _ rfl ⟨hI, hE, hE.1, h, hS, Fr.rf, rfl⟩ (fun self i x hi hx hk => ?_) (fun self x hx => ?_)
  · obtain ⟨⟨k, s⟩, m⟩ := x
    obtain ⟨x1, x2, x3, x4, x5, x6, x7⟩ := hx
    dsimp only at x1 x2 x3 x4 x5 x6 x7 ⊢
    have ht := x4.1.1
    have htk := x1.1.1
    have hc := x5.2.2.1
    have hl16 := x2.1
    unfold b338_0 c338_45
    by_cases q0 : s.2.2.length = 0
    · rw [schN_stop (Or.inl q0)] at x7
      rw [hc, q0, i_0, if_pos ((nI_leI (by omega) (by omega)).mpr (Nat.le_refl _)), ← x7]
      exact wp_some ⟨x4, x5, x6⟩
    · have hn := nth_lt (es := s.2.2) (n := 0) (by omega)
      obtain ⟨e1, e2, ⟨e3, e4⟩, ⟨e5, e6⟩⟩ := x2.2 _ hn.1
      obtain ⟨s4, s5, s6, s7⟩ := x5.2.2.2 0 (by omega)
      dsimp only at s4 s5 s6 s7
      rw [e4] at s4
      rw [e6] at s5
      rw [hc, i_0, if_neg (fun z => q0 (by have := (nI_leI (by omega) (by omega)).mp z; omega)), ldA_N (by omega), Option.bind_some, s4, ht]
      by_cases q1 : k.1.1 < tm s.2.2 (nthI s.2.2 0)
      · rw [schN_stop (Or.inr q1)] at x7
        rw [if_pos ((nI_ltI (by omega) (by omega)).mpr q1), ← x7]
        exact wp_some ⟨x4, x5, x6⟩
      · rw [show 16 - i = (16 - (i + 1)) + 1 by omega, schN, if_neg (fun z => z.elim q0 q1)] at x7
        dsimp only at x7
        rw [if_neg (fun z => q1 ((nI_ltI (by omega) (by omega)).mp z))]
        have hle : (s.2.2.eraseIdx (nthI s.2.2 0)).length = s.2.2.length - 1 := List.length_eraseIdx_of_lt hn.1
        have fin : ∀ b : Bool, b = goS s → wp (c338_46 (fun μ => self μ) (nI (b2n b)) m) (fun m => KM m (schN 16 y).1 ∧ ScM m (schN 16 y).2 ∧ Fr FYm μ m) := by
          intro b hb
          unfold c338_46 c338_88
          rw [i_0, ldA_N (by omega), Option.bind_some, s6]
          refine wp_bind (wp_some rfl) (fun m1 hm1 => ?_)
          have f1 : Fr (fun c k => c = 129 ∧ k = 27) m m1 := by rw [← hm1]; exact Fr.sI ⟨rfl, rfl⟩
          have c1 : m1.1 129 27 = nI (pk s.2.2 (nthI s.2.2 0)).1.length := by rw [← hm1, rdI, if_pos ⟨rfl, rfl⟩]
          clear hm1
          rw [c1]
          refine wp_bind (move_M (q := 140) (d := 0) (s := 0) (s7.fr f1 (fun k => by omega)) rfl (by omega) (by omega) (by omega) (Or.inl (by omega))) (fun m2 ⟨a1, a2⟩ => ?_)
          have f2 : Fr (fun c k => c = 129 ∧ k = 27 ∨ c = 140) m m2 := f1.tr a2 (by intro c k h; omega) (by intro c k h; omega)
          refine wp_bind (dropS_M (x5.fr x2 f2 (by omega) (by omega) (fun c k _ => by omega)) x2 (n := 0) (by omega)) (fun m3 ⟨b1, b2⟩ => ?_)
          have f3 : Fr (fun c k => c = 129 ∧ (k = 27 ∨ k = 130) ∨ c = 140 ∨ 204 ≤ c ∧ c ≤ 207) m m3 := f2.tr b2 (by intro c k h; omega) (by intro c k h; omega)
          have k3 := x4.fr x1.1 f3 (fun c k _ => by omega)
          have fx : Fr FYm μ m3 := x6.tr f3 (fun _ _ q => q) (by intro c k h; omega)
          rw [← hb] at x7
          cases b
          · rw [if_neg (by decide)] at x7
            rw [b2n_f, if_pos rfl]
            exact hk ((k, (s.1, s.2.1, s.2.2.eraseIdx (nthI s.2.2 0))), m3) ⟨x1, x2.era hn.1, by dsimp only; omega, k3, b1, fx, x7⟩
          · rw [if_pos rfl] at x7
            rw [b2n_t, if_neg (by decide)]
            refine wp_bind (look_M (dep := 0) k3 x1 ⟨by rw [b2.1 _ _ (by omega), a2.1 _ _ (by omega)]; exact c1, a1.fr b2 (fun k => by omega)⟩ (by omega)) (fun m4 ⟨c3, c4⟩ => ?_)
            exact hk ((lookK k (pk s.2.2 (nthI s.2.2 0)).1 0, (s.1, s.2.1, s.2.2.eraseIdx (nthI s.2.2 0))), m4) ⟨lookK_I x1 (by omega) (by omega), x2.era hn.1, by dsimp only; omega, c3, b1.fr (x2.era hn.1) c4 (by omega) (by omega) (fun c k _ => by omega), fx.tr c4 (fun _ _ q => q) (by intro c k h; omega), x7⟩
        have h13 := x5.1
        have h12 := x5.2.1 _ e5
        cases hon : s.1
        · have hg : false = goS s := by unfold goS; rw [hon]; rfl
          rw [hon, b2n_f] at h13
          have := fin false hg
          rw [b2n_f] at this
          rw [h13, if_pos rfl]
          exact this
        · rw [hon, b2n_t] at h13
          rw [h13, if_neg (show ¬ nI 1 = nI 0 by decide), ldA_N (by omega), Option.bind_some, s5, ldA_N (by omega), Option.bind_some]
          cases hg : s.2.1 (nt (pk s.2.2 (nthI s.2.2 0)).2.2)
          · have hgo : true = goS s := by unfold goS; rw [hon, hg]; rfl
            rw [hg, b2n_f] at h12
            have := fin true hgo
            rw [b2n_t] at this
            rw [h12, if_pos rfl]
            exact this
          · have hgo : false = goS s := by unfold goS; rw [hon, hg]; rfl
            rw [hg, b2n_t] at h12
            have := fin false hgo
            rw [b2n_f] at this
            rw [h12, if_neg (show ¬ nI 1 = nI 0 by decide)]
            exact this
  · obtain ⟨⟨k, s⟩, m⟩ := x
    obtain ⟨x1, x2, x3, x4, x5, x6, x7⟩ := hx
    dsimp only at x1 x2 x3 x4 x5 x6 x7 ⊢
    have hc := x5.2.2.1
    unfold b338_0
    rw [hc, show s.2.2.length = 0 by omega, i_0, if_pos ((nI_leI (by omega) (by omega)).mpr (Nat.le_refl _)), ← x7]
    exact wp_some ⟨x4, x5, x6⟩
