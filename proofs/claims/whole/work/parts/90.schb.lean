/-! the schedule: what requests do, the reference; the report -/
theorem ScM.cg {μ : Mem} {s : Tw} {fs : List Pk} {f : Nat → Pk} (h1 : μ.1 129 128 = nI (b2n s.1)) (h2 : ∀ g, g < 4 → μ.1 203 g = nI (b2n (s.2.1 g))) (h3 : μ.1 129 130 = nI fs.length) (h4 : Sl μ fs.length f) (he : ∀ j, j < fs.length → pk fs (nthI fs j) = f j) : ScM μ (s.1, s.2.1, fs) :=
  ⟨h1, h2, h3, fun j hj => by
    dsimp only at hj ⊢
    rw [he j hj]
    exact h4 j hj⟩
theorem insE_M {μ : Mem} {n r g t dep : Nat} {f : Nat → Pk} {bs : List Nat} (h : Sl μ n f) (hf : ∀ j, j < n → (f j).1.length ≤ 40) (hc : μ.1 129 130 = nI n) (hn : n < 16) (hr : r ≤ n) (ht : t < 2 ^ 31) (hlo : ∀ j, j < r → ∃ u, u ≤ t ∧ (f j).2.1 = nI u) (hhi : ∀ j, r ≤ j → j < n → ∃ u, t < u ∧ u < 2 ^ 31 ∧ (f j).2.1 = nI u) (hq : CurM μ bs dep) (hb : 31 ≤ bs.length) (hb2 : bs.length ≤ 58) : wp (l336_121 gF (nI g, nI t, nI n, μ)) (fun m => Sl m (n + 1) (fun j => if j < r then f j else if j = r then (xs11 bs, nI t, nI g) else f (j - 1)) ∧ m.1 129 130 = nI (n + 1) ∧ Fr FSc μ m) := by
  have g4 := gl_204
  have g5 := gl_205
  have g6 := gl_206
  have g7 := gl_207
  have g8 := gl_182
  have hxl := xs11_len (bs := bs)
  have fin : ∀ m, (∀ j, j < r → SlA m j (f j)) → (∀ j, r < j → j ≤ n → SlA m j (f (j - 1))) → m.1 129 130 = nI n → Fr FSc μ m → wp (c336_155 (nI g) (nI t) (nI r) m) (fun m => Sl m (n + 1) (fun j => if j < r then f j else if j = r then (xs11 bs, nI t, nI g) else f (j - 1)) ∧ m.1 129 130 = nI (n + 1) ∧ Fr FSc μ m) := by
    intro m a1 a2 a3 a4
    have q1 := hq.fr a4 (by omega) (by omega) (fun k => by omega)
    have e106 := q1.1
    unfold c336_155
    simp (disch := omega) only [i_0, i_1, i_2, i_3, i_4, i_5, i_6, i_7, i_8, i_9, i_10, i_11, i_12, i_13, i_14, i_15, i_16, i_17, i_18, i_19, i_20, i_21, i_22, i_23, i_24, i_25, i_26, i_27, i_31, i_32, i_40, i_42, i_45, i_48, i_51, i_52, i_56, i_58, i_59, i_60, i_61, i_62, i_63, i_64, i_85, i_90, i_100, i_112, i_120, i_121, i_127, i_128, i_130, i_144, i_171, i_192, i_193, i_197, i_200, i_207, i_235, i_240, i_248, i_252, i_254, i_255, i_256, i_512, i_544, i_768, i_769, i_793, i_1000, i_1023, i_1024, i_1200, i_1538, i_1541, i_1545, i_2046, i_2047, i_2049, i_2060, i_2736, i_2737, i_2817, i_2818, i_2819, i_2820, i_2821, i_2831, i_2832, i_3077, i_3085, i_3843, i_3849, i_3851, i_3852, i_4129, i_4353, i_4865, i_5121, i_5122, i_5123, i_6156, i_8192, i_12288, i_16383, i_32000, i_33280, i_49152, i_53247, i_60304, i_64000, i_64512, i_65521, i_65535, i_449838109, nI_add, pk_mul, pk_sub, nI_mm, nI_leI, nI_ltI, nI_eq, pk_div, jrem_N, jshl_N, jshr_N, jushr_N, jmin_N, jmax_N, an_1, an_3, an_7, an_15, an_31, an_63, an_127, an_255, an_1023, an_2047, an_16383, an_65535, nm, pfI, rdI, rdW, rdL, rdI2, rdW2, ldA_N, stA_N, stB_N, stZ_N, pfZ_0, pfZ_1, rtZ_0, rtZ_1, acp_N, Option.bind_some, wp_some_iff, true_and, and_true, false_and, and_false, or_true, true_or, or_false, false_or, not_true_eq_false, not_false_eq_true, if_true, if_false, if_pos, if_neg, lt_sub, le_sub, sub_lt3, sub_le3, Option.bind_assoc, e106]
    have f3 : Fr (fun c k => (204 ≤ c ∧ c ≤ 206) ∧ k = r) m (setI (setI (setI m 204 r (nI t)) 205 r (nI g)) 206 r (nI (bs.length - 18))) := ((Fr.sI (by omega)).pI (by omega)).pI (by omega)
    have r4 : (setI (setI (setI m 204 r (nI t)) 205 r (nI g)) 206 r (nI (bs.length - 18))).1 204 r = nI t := by simp (disch := omega) only [i_0, i_1, i_2, i_3, i_4, i_5, i_6, i_7, i_8, i_9, i_10, i_11, i_12, i_13, i_14, i_15, i_16, i_17, i_18, i_19, i_20, i_21, i_22, i_23, i_24, i_25, i_26, i_27, i_31, i_32, i_40, i_42, i_45, i_48, i_51, i_52, i_56, i_58, i_59, i_60, i_61, i_62, i_63, i_64, i_85, i_90, i_100, i_112, i_120, i_121, i_127, i_128, i_130, i_144, i_171, i_192, i_193, i_197, i_200, i_207, i_235, i_240, i_248, i_252, i_254, i_255, i_256, i_512, i_544, i_768, i_769, i_793, i_1000, i_1023, i_1024, i_1200, i_1538, i_1541, i_1545, i_2046, i_2047, i_2049, i_2060, i_2736, i_2737, i_2817, i_2818, i_2819, i_2820, i_2821, i_2831, i_2832, i_3077, i_3085, i_3843, i_3849, i_3851, i_3852, i_4129, i_4353, i_4865, i_5121, i_5122, i_5123, i_6156, i_8192, i_12288, i_16383, i_32000, i_33280, i_49152, i_53247, i_60304, i_64000, i_64512, i_65521, i_65535, i_449838109, nI_add, pk_mul, pk_sub, nI_mm, nI_leI, nI_ltI, nI_eq, pk_div, jrem_N, jshl_N, jshr_N, jushr_N, jmin_N, jmax_N, an_1, an_3, an_7, an_15, an_31, an_63, an_127, an_255, an_1023, an_2047, an_16383, an_65535, nm, pfI, rdI, rdW, rdL, rdI2, rdW2, ldA_N, stA_N, stB_N, stZ_N, pfZ_0, pfZ_1, rtZ_0, rtZ_1, acp_N, Option.bind_some, wp_some_iff, true_and, and_true, false_and, and_false, or_true, true_or, or_false, false_or, not_true_eq_false, not_false_eq_true, if_true, if_false, if_pos, if_neg, lt_sub, le_sub, sub_lt3, sub_le3, Option.bind_assoc]
    have r5 : (setI (setI (setI m 204 r (nI t)) 205 r (nI g)) 206 r (nI (bs.length - 18))).1 205 r = nI g := by simp (disch := omega) only [i_0, i_1, i_2, i_3, i_4, i_5, i_6, i_7, i_8, i_9, i_10, i_11, i_12, i_13, i_14, i_15, i_16, i_17, i_18, i_19, i_20, i_21, i_22, i_23, i_24, i_25, i_26, i_27, i_31, i_32, i_40, i_42, i_45, i_48, i_51, i_52, i_56, i_58, i_59, i_60, i_61, i_62, i_63, i_64, i_85, i_90, i_100, i_112, i_120, i_121, i_127, i_128, i_130, i_144, i_171, i_192, i_193, i_197, i_200, i_207, i_235, i_240, i_248, i_252, i_254, i_255, i_256, i_512, i_544, i_768, i_769, i_793, i_1000, i_1023, i_1024, i_1200, i_1538, i_1541, i_1545, i_2046, i_2047, i_2049, i_2060, i_2736, i_2737, i_2817, i_2818, i_2819, i_2820, i_2821, i_2831, i_2832, i_3077, i_3085, i_3843, i_3849, i_3851, i_3852, i_4129, i_4353, i_4865, i_5121, i_5122, i_5123, i_6156, i_8192, i_12288, i_16383, i_32000, i_33280, i_49152, i_53247, i_60304, i_64000, i_64512, i_65521, i_65535, i_449838109, nI_add, pk_mul, pk_sub, nI_mm, nI_leI, nI_ltI, nI_eq, pk_div, jrem_N, jshl_N, jshr_N, jushr_N, jmin_N, jmax_N, an_1, an_3, an_7, an_15, an_31, an_63, an_127, an_255, an_1023, an_2047, an_16383, an_65535, nm, pfI, rdI, rdW, rdL, rdI2, rdW2, ldA_N, stA_N, stB_N, stZ_N, pfZ_0, pfZ_1, rtZ_0, rtZ_1, acp_N, Option.bind_some, wp_some_iff, true_and, and_true, false_and, and_false, or_true, true_or, or_false, false_or, not_true_eq_false, not_false_eq_true, if_true, if_false, if_pos, if_neg, lt_sub, le_sub, sub_lt3, sub_le3, Option.bind_assoc]
    have r6 : (setI (setI (setI m 204 r (nI t)) 205 r (nI g)) 206 r (nI (bs.length - 18))).1 206 r = nI (bs.length - 18) := by simp (disch := omega) only [i_0, i_1, i_2, i_3, i_4, i_5, i_6, i_7, i_8, i_9, i_10, i_11, i_12, i_13, i_14, i_15, i_16, i_17, i_18, i_19, i_20, i_21, i_22, i_23, i_24, i_25, i_26, i_27, i_31, i_32, i_40, i_42, i_45, i_48, i_51, i_52, i_56, i_58, i_59, i_60, i_61, i_62, i_63, i_64, i_85, i_90, i_100, i_112, i_120, i_121, i_127, i_128, i_130, i_144, i_171, i_192, i_193, i_197, i_200, i_207, i_235, i_240, i_248, i_252, i_254, i_255, i_256, i_512, i_544, i_768, i_769, i_793, i_1000, i_1023, i_1024, i_1200, i_1538, i_1541, i_1545, i_2046, i_2047, i_2049, i_2060, i_2736, i_2737, i_2817, i_2818, i_2819, i_2820, i_2821, i_2831, i_2832, i_3077, i_3085, i_3843, i_3849, i_3851, i_3852, i_4129, i_4353, i_4865, i_5121, i_5122, i_5123, i_6156, i_8192, i_12288, i_16383, i_32000, i_33280, i_49152, i_53247, i_60304, i_64000, i_64512, i_65521, i_65535, i_449838109, nI_add, pk_mul, pk_sub, nI_mm, nI_leI, nI_ltI, nI_eq, pk_div, jrem_N, jshl_N, jshr_N, jushr_N, jmin_N, jmax_N, an_1, an_3, an_7, an_15, an_31, an_63, an_127, an_255, an_1023, an_2047, an_16383, an_65535, nm, pfI, rdI, rdW, rdL, rdI2, rdW2, ldA_N, stA_N, stB_N, stZ_N, pfZ_0, pfZ_1, rtZ_0, rtZ_1, acp_N, Option.bind_some, wp_some_iff, true_and, and_true, false_and, and_false, or_true, true_or, or_false, false_or, not_true_eq_false, not_false_eq_true, if_true, if_false, if_pos, if_neg, lt_sub, le_sub, sub_lt3, sub_le3, Option.bind_assoc]
    generalize setI (setI (setI m 204 r (nI t)) 205 r (nI g)) 206 r (nI (bs.length - 18)) = m3 at *
    have sg := (q1.2.2.fr f3 (fun k => by omega)).sub (i := 16) (n := bs.length - 18)
    rw [Nat.zero_add] at sg
    change Seg m3 182 16 (xs11 bs) at sg
    refine wp_bind (move_M (q := 207) (d := 40 * r) (n := bs.length - 18) sg (by omega) (by omega) (by omega) (by omega) (Or.inl (by omega))) (fun m4 ⟨c1, c2⟩ => ?_)
    have f4 : Fr (FSl r) m m4 := f3.tr c2 (by intro c k h; omega) (by intro c k h; omega)
    have e130 : m4.1 129 130 = nI n := by rw [f4.1 _ _ (by omega)]; exact a3
    simp (disch := omega) only [i_0, i_1, i_2, i_3, i_4, i_5, i_6, i_7, i_8, i_9, i_10, i_11, i_12, i_13, i_14, i_15, i_16, i_17, i_18, i_19, i_20, i_21, i_22, i_23, i_24, i_25, i_26, i_27, i_31, i_32, i_40, i_42, i_45, i_48, i_51, i_52, i_56, i_58, i_59, i_60, i_61, i_62, i_63, i_64, i_85, i_90, i_100, i_112, i_120, i_121, i_127, i_128, i_130, i_144, i_171, i_192, i_193, i_197, i_200, i_207, i_235, i_240, i_248, i_252, i_254, i_255, i_256, i_512, i_544, i_768, i_769, i_793, i_1000, i_1023, i_1024, i_1200, i_1538, i_1541, i_1545, i_2046, i_2047, i_2049, i_2060, i_2736, i_2737, i_2817, i_2818, i_2819, i_2820, i_2821, i_2831, i_2832, i_3077, i_3085, i_3843, i_3849, i_3851, i_3852, i_4129, i_4353, i_4865, i_5121, i_5122, i_5123, i_6156, i_8192, i_12288, i_16383, i_32000, i_33280, i_49152, i_53247, i_60304, i_64000, i_64512, i_65521, i_65535, i_449838109, nI_add, pk_mul, pk_sub, nI_mm, nI_leI, nI_ltI, nI_eq, pk_div, jrem_N, jshl_N, jshr_N, jushr_N, jmin_N, jmax_N, an_1, an_3, an_7, an_15, an_31, an_63, an_127, an_255, an_1023, an_2047, an_16383, an_65535, nm, pfI, rdI, rdW, rdL, rdI2, rdW2, ldA_N, stA_N, stB_N, stZ_N, pfZ_0, pfZ_1, rtZ_0, rtZ_1, acp_N, Option.bind_some, wp_some_iff, true_and, and_true, false_and, and_false, or_true, true_or, or_false, false_or, not_true_eq_false, not_false_eq_true, if_true, if_false, if_pos, if_neg, lt_sub, le_sub, sub_lt3, sub_le3, Option.bind_assoc, e130]
    have f5 : Fr (fun c k => FSl r c k ∨ c = 129 ∧ k = 130) m (setI m4 129 130 (nI (n + 1))) := (f4.mono (by intro c k h; omega)).pI (by omega)
    have f6 : Fr (fun c k => c = 129 ∧ k = 130) m4 (setI m4 129 130 (nI (n + 1))) := Fr.sI ⟨rfl, rfl⟩
    have r4' : (setI m4 129 130 (nI (n + 1))).1 204 r = nI t := by rw [f6.1 _ _ (by omega), c2.1 _ _ (by omega)]; exact r4
    have r5' : (setI m4 129 130 (nI (n + 1))).1 205 r = nI g := by rw [f6.1 _ _ (by omega), c2.1 _ _ (by omega)]; exact r5
    have r6' : (setI m4 129 130 (nI (n + 1))).1 206 r = nI (bs.length - 18) := by rw [f6.1 _ _ (by omega), c2.1 _ _ (by omega)]; exact r6
    have r7' := c1.fr f6 (fun k => by omega)
    generalize setI m4 129 130 (nI (n + 1)) = m5 at *
    refine ⟨fun j hj => ?_, a4.tr f5 (fun _ _ q => q) (by intro c k h; omega)⟩
    dsimp only
    by_cases e1 : j < r
    · rw [if_pos e1]
      exact (a1 j e1).fr (hf j (by omega)) f5 (fun c k _ => by omega)
    · rw [if_neg e1]
      by_cases e2 : j = r
      · rw [if_pos e2, e2]
        exact ⟨r4', r5', by rw [hxl]; exact r6', r7'⟩
      · rw [if_neg e2]
        exact (a2 j (by omega) (by omega)).fr (hf (j - 1) (by omega)) f5 (fun c k _ => by omega)
  unfold l336_121
  refine wp_for (fun i m => (nI g, nI t, nI (n - i), m)) (fun i m => (∀ j, j < n - i → SlA m j (f j)) ∧ (∀ j, n - i < j → j ≤ n → SlA m j (f (j - 1))) ∧ m.1 129 130 = nI n ∧ Fr FSc μ m) (n - r) (by omega) μ _ rfl ⟨fun j hj => h j (by omega), fun j h1 h2 => by omega, hc, Fr.rf⟩ (fun self i m hi ⟨x1, x2, x3, x4⟩ hk => ?_) (fun self m ⟨x1, x2, x3, x4⟩ => ?_)
  · obtain ⟨u, hu1, hu2, hu3⟩ := hhi (n - i - 1) (by omega) (by omega)
    have e4 := (x1 (n - i - 1) (by omega)).1
    rw [hu3] at e4
    unfold b336_121
    rw [i_0, if_neg (fun z => by have := (nI_leI (by omega) (by omega)).mp z; omega), i_1, pk_sub (by omega), ldA_N (by omega), Option.bind_some, e4, if_neg (fun z => by have := (nI_leI hu2 ht).mp z; omega)]
    refine wp_bind (mvE_M (a := n - i - 1) (b := n - i) (x1 (n - i - 1) (by omega)) (hf _ (by omega)) (by omega) (by omega) (by omega)) (fun m2 ⟨d1, d2⟩ => ?_)
    dsimp only [nm]
    rw [nI_mm (by omega), show n - i - 1 = n - (i + 1) by omega]
    rw [show n - i - 1 = n - (i + 1) by omega] at d1
    refine hk m2 ⟨fun j hj => (x1 j (by omega)).fr (hf j (by omega)) d2 (fun c k _ => by omega), fun j h1 h2 => ?_, by rw [d2.1 _ _ (by omega)]; exact x3, x4.tr d2 (fun _ _ q => q) (by intro c k h; omega)⟩
    by_cases e : j = n - i
    · rw [e, show n - i - 1 = n - (i + 1) by omega]
      exact d1
    · exact (x2 j (by omega) h2).fr (hf (j - 1) (by omega)) d2 (fun c k _ => by omega)
  · rw [show n - (n - r) = r by omega] at x1 x2 ⊢
    have fn := fin m x1 x2 x3 x4
    unfold b336_121
    by_cases e : r = 0
    · rw [i_0, if_pos ((nI_leI (by omega) (by omega)).mpr (by omega))]
      exact fn
    · obtain ⟨u, hu1, hu3⟩ := hlo (r - 1) (by omega)
      have e4 := (x1 (r - 1) (by omega)).1
      rw [hu3] at e4
      rw [i_0, if_neg (fun z => by have := (nI_leI (by omega) (by omega)).mp z; omega), i_1, pk_sub (by omega), ldA_N (by omega), Option.bind_some, e4, if_pos ((nI_leI (by omega) ht).mpr hu1)]
      exact fn
theorem f336_1 {x : Int32} {μ : Mem} : f336 (nI 1) x μ = (pfZ 129 128 (1 : Int32) μ).bind fun m1 => some m1 := by
  unfold f336
  refine ite_yes (by decide) ?_
  exact ite_yes (by decide) rfl
theorem f336_2 {x : Int32} {μ : Mem} : f336 (nI 2) x μ = (pfZ 129 128 (0 : Int32) μ).bind fun m1 => some m1 := by
  unfold f336
  refine ite_no (by decide) ?_
  refine ite_yes (by decide) ?_
  exact ite_no (by decide) rfl
theorem f336_3 {x : Int32} {μ : Mem} : f336 (nI 3) x μ = (pfI 129 130 (0 : Int32) μ).bind fun m5 => some m5 := by
  unfold f336
  repeat refine ite_no (by decide) ?_
  exact ite_yes (by decide) rfl
theorem f336_4 {x : Int32} {μ : Mem} : f336 (nI 4) x μ = (f314 182 (12 : Int32) μ).bind fun r8 => l336_121 gF (x, r8.2, (r8.1.1 129 130), r8.1) := by
  unfold f336
  repeat refine ite_no (by decide) ?_
  exact ite_yes (by decide) rfl
theorem f336_5 {x : Int32} {μ : Mem} : f336 (nI 5) x μ = (f313 182 (11 : Int32) μ).bind fun r11 => (f333 r11.2 r11.1).bind fun r13 => (f334 r13.2 r13.1).bind fun r15 => some r15 := by
  unfold f336
  repeat refine ite_no (by decide) ?_
  exact ite_yes (by decide) rfl
theorem f336_15 {x : Int32} {μ : Mem} : f336 (nI 15) x μ = l336_246 gF ((0 : Int32), μ) := by
  unfold f336
  repeat refine ite_no (by decide) ?_
  exact ite_yes (by decide) rfl
theorem f336_16 {x : Int32} {μ : Mem} : f336 (nI 16) x μ = if (8 : Int32) ≤ (μ.1 129 130) then c336_299 (8 : Int32) μ else c336_299 (μ.1 129 130) μ := by
  unfold f336
  repeat refine ite_no (by decide) ?_
  exact ite_yes (by decide) rfl
theorem f336_20 {x : Int32} {μ : Mem} : f336 (nI 20) x μ = (stZ 203 x (0 : Int32) μ).bind fun m1 => some m1 := by
  unfold f336
  repeat refine ite_no (by decide) ?_
  rfl
theorem f336_21 {x : Int32} {μ : Mem} : f336 (nI 21) x μ = (stZ 203 x (1 : Int32) μ).bind fun m1 => some m1 := by
  unfold f336
  repeat refine ite_no (by decide) ?_
  exact ite_yes (by decide) rfl
theorem ScM.g {μ : Mem} {s : Tw} {e : Nat} {b : Bool} (h : ScM μ s) (hE : EnI s.2.2) : ScM (setI μ 203 e (nI (b2n b))) (s.1, upL s.2.1 e b, s.2.2) := by
  have f1 : Fr (fun c _ => c = 203) μ (setI μ 203 e (nI (b2n b))) := Fr.sI rfl
  refine ⟨by rw [f1.1 _ _ (by omega)]; exact h.1, fun g hg => ?_, by rw [f1.1 _ _ (by omega)]; exact h.2.2.1, h.2.2.2.fr hE.len f1 (fun c k _ => by omega)⟩
  rw [rdI]
  by_cases z : g = e
  · subst z
    rw [if_pos ⟨rfl, rfl⟩]
    show _ = nI (b2n (upL s.2.1 g b g))
    rw [upL_s]
  · rw [if_neg (fun w => z w.2)]
    show _ = nI (b2n (upL s.2.1 e b g))
    rw [upL_o z]
    exact h.2.1 g hg
theorem act11_M {μ : Mem} {s : Tw} {bs : List Nat} {tk dep : Nat} (h : CurM μ bs dep) (hS : ScM μ s) (hE : EnI s.2.2) (hP : Pkg bs) (h7 : bs.getD 7 0 = 11) (hw : why11 tk s bs = 0) (q : bs.getD 8 0 ≠ 16) : wp (f336 (nI (bs.getD 8 0)) (nI (xq bs)) μ) (fun m => ScM m (act11 s bs) ∧ Fr (fun c k => FSc c k ∨ c = 203 ∨ c = 129 ∧ k = 128) μ m) := by
  have hl60 := hP.2.1
  have hs := hP.s11 h7
  have hl := hE.1
  have g3 := gl_203
  have g4 := gl_204
  unfold act11
  by_cases q1 : bs.getD 8 0 = 1
  · rw [if_pos q1, q1, f336_1]
    simp (disch := omega) only [i_0, i_1, i_2, i_3, i_4, i_5, i_6, i_7, i_8, i_9, i_10, i_11, i_12, i_13, i_14, i_15, i_16, i_17, i_18, i_19, i_20, i_21, i_22, i_23, i_24, i_25, i_26, i_27, i_31, i_32, i_40, i_42, i_45, i_48, i_51, i_52, i_56, i_58, i_59, i_60, i_61, i_62, i_63, i_64, i_85, i_90, i_100, i_112, i_120, i_121, i_127, i_128, i_130, i_144, i_171, i_192, i_193, i_197, i_200, i_207, i_235, i_240, i_248, i_252, i_254, i_255, i_256, i_512, i_544, i_768, i_769, i_793, i_1000, i_1023, i_1024, i_1200, i_1538, i_1541, i_1545, i_2046, i_2047, i_2049, i_2060, i_2736, i_2737, i_2817, i_2818, i_2819, i_2820, i_2821, i_2831, i_2832, i_3077, i_3085, i_3843, i_3849, i_3851, i_3852, i_4129, i_4353, i_4865, i_5121, i_5122, i_5123, i_6156, i_8192, i_12288, i_16383, i_32000, i_33280, i_49152, i_53247, i_60304, i_64000, i_64512, i_65521, i_65535, i_449838109, nI_add, pk_mul, pk_sub, nI_mm, nI_leI, nI_ltI, nI_eq, pk_div, jrem_N, jshl_N, jshr_N, jushr_N, jmin_N, jmax_N, an_1, an_3, an_7, an_15, an_31, an_63, an_127, an_255, an_1023, an_2047, an_16383, an_65535, nm, pfI, rdI, rdW, rdL, rdI2, rdW2, ldA_N, stA_N, stB_N, stZ_N, pfZ_0, pfZ_1, rtZ_0, rtZ_1, acp_N, Option.bind_some, wp_some_iff, true_and, and_true, false_and, and_false, or_true, true_or, or_false, false_or, not_true_eq_false, not_false_eq_true, if_true, if_false, if_pos, if_neg, lt_sub, le_sub, sub_lt3, sub_le3, Option.bind_assoc]
    have f1 : Fr (fun c k => c = 129 ∧ k = 128) μ (setI μ 129 128 (nI 1)) := Fr.sI ⟨rfl, rfl⟩
    exact ⟨⟨by simp (disch := omega) only [i_0, i_1, i_2, i_3, i_4, i_5, i_6, i_7, i_8, i_9, i_10, i_11, i_12, i_13, i_14, i_15, i_16, i_17, i_18, i_19, i_20, i_21, i_22, i_23, i_24, i_25, i_26, i_27, i_31, i_32, i_40, i_42, i_45, i_48, i_51, i_52, i_56, i_58, i_59, i_60, i_61, i_62, i_63, i_64, i_85, i_90, i_100, i_112, i_120, i_121, i_127, i_128, i_130, i_144, i_171, i_192, i_193, i_197, i_200, i_207, i_235, i_240, i_248, i_252, i_254, i_255, i_256, i_512, i_544, i_768, i_769, i_793, i_1000, i_1023, i_1024, i_1200, i_1538, i_1541, i_1545, i_2046, i_2047, i_2049, i_2060, i_2736, i_2737, i_2817, i_2818, i_2819, i_2820, i_2821, i_2831, i_2832, i_3077, i_3085, i_3843, i_3849, i_3851, i_3852, i_4129, i_4353, i_4865, i_5121, i_5122, i_5123, i_6156, i_8192, i_12288, i_16383, i_32000, i_33280, i_49152, i_53247, i_60304, i_64000, i_64512, i_65521, i_65535, i_449838109, nI_add, pk_mul, pk_sub, nI_mm, nI_leI, nI_ltI, nI_eq, pk_div, jrem_N, jshl_N, jshr_N, jushr_N, jmin_N, jmax_N, an_1, an_3, an_7, an_15, an_31, an_63, an_127, an_255, an_1023, an_2047, an_16383, an_65535, nm, pfI, rdI, rdW, rdL, rdI2, rdW2, ldA_N, stA_N, stB_N, stZ_N, pfZ_0, pfZ_1, rtZ_0, rtZ_1, acp_N, Option.bind_some, wp_some_iff, true_and, and_true, false_and, and_false, or_true, true_or, or_false, false_or, not_true_eq_false, not_false_eq_true, if_true, if_false, if_pos, if_neg, lt_sub, le_sub, sub_lt3, sub_le3, Option.bind_assoc]; rfl, fun g hg => by rw [f1.1 _ _ (by omega)]; exact hS.2.1 g hg, by rw [f1.1 _ _ (by omega)]; exact hS.2.2.1, hS.2.2.2.fr hE.len f1 (fun c k _ => by omega)⟩, f1.mono (by intro c k h; omega)⟩
  · rw [if_neg q1]
    by_cases q2 : bs.getD 8 0 = 2
    · rw [if_pos q2, q2, f336_2]
      simp (disch := omega) only [i_0, i_1, i_2, i_3, i_4, i_5, i_6, i_7, i_8, i_9, i_10, i_11, i_12, i_13, i_14, i_15, i_16, i_17, i_18, i_19, i_20, i_21, i_22, i_23, i_24, i_25, i_26, i_27, i_31, i_32, i_40, i_42, i_45, i_48, i_51, i_52, i_56, i_58, i_59, i_60, i_61, i_62, i_63, i_64, i_85, i_90, i_100, i_112, i_120, i_121, i_127, i_128, i_130, i_144, i_171, i_192, i_193, i_197, i_200, i_207, i_235, i_240, i_248, i_252, i_254, i_255, i_256, i_512, i_544, i_768, i_769, i_793, i_1000, i_1023, i_1024, i_1200, i_1538, i_1541, i_1545, i_2046, i_2047, i_2049, i_2060, i_2736, i_2737, i_2817, i_2818, i_2819, i_2820, i_2821, i_2831, i_2832, i_3077, i_3085, i_3843, i_3849, i_3851, i_3852, i_4129, i_4353, i_4865, i_5121, i_5122, i_5123, i_6156, i_8192, i_12288, i_16383, i_32000, i_33280, i_49152, i_53247, i_60304, i_64000, i_64512, i_65521, i_65535, i_449838109, nI_add, pk_mul, pk_sub, nI_mm, nI_leI, nI_ltI, nI_eq, pk_div, jrem_N, jshl_N, jshr_N, jushr_N, jmin_N, jmax_N, an_1, an_3, an_7, an_15, an_31, an_63, an_127, an_255, an_1023, an_2047, an_16383, an_65535, nm, pfI, rdI, rdW, rdL, rdI2, rdW2, ldA_N, stA_N, stB_N, stZ_N, pfZ_0, pfZ_1, rtZ_0, rtZ_1, acp_N, Option.bind_some, wp_some_iff, true_and, and_true, false_and, and_false, or_true, true_or, or_false, false_or, not_true_eq_false, not_false_eq_true, if_true, if_false, if_pos, if_neg, lt_sub, le_sub, sub_lt3, sub_le3, Option.bind_assoc]
      have f1 : Fr (fun c k => c = 129 ∧ k = 128) μ (setI μ 129 128 (nI 0)) := Fr.sI ⟨rfl, rfl⟩
      exact ⟨⟨by simp (disch := omega) only [i_0, i_1, i_2, i_3, i_4, i_5, i_6, i_7, i_8, i_9, i_10, i_11, i_12, i_13, i_14, i_15, i_16, i_17, i_18, i_19, i_20, i_21, i_22, i_23, i_24, i_25, i_26, i_27, i_31, i_32, i_40, i_42, i_45, i_48, i_51, i_52, i_56, i_58, i_59, i_60, i_61, i_62, i_63, i_64, i_85, i_90, i_100, i_112, i_120, i_121, i_127, i_128, i_130, i_144, i_171, i_192, i_193, i_197, i_200, i_207, i_235, i_240, i_248, i_252, i_254, i_255, i_256, i_512, i_544, i_768, i_769, i_793, i_1000, i_1023, i_1024, i_1200, i_1538, i_1541, i_1545, i_2046, i_2047, i_2049, i_2060, i_2736, i_2737, i_2817, i_2818, i_2819, i_2820, i_2821, i_2831, i_2832, i_3077, i_3085, i_3843, i_3849, i_3851, i_3852, i_4129, i_4353, i_4865, i_5121, i_5122, i_5123, i_6156, i_8192, i_12288, i_16383, i_32000, i_33280, i_49152, i_53247, i_60304, i_64000, i_64512, i_65521, i_65535, i_449838109, nI_add, pk_mul, pk_sub, nI_mm, nI_leI, nI_ltI, nI_eq, pk_div, jrem_N, jshl_N, jshr_N, jushr_N, jmin_N, jmax_N, an_1, an_3, an_7, an_15, an_31, an_63, an_127, an_255, an_1023, an_2047, an_16383, an_65535, nm, pfI, rdI, rdW, rdL, rdI2, rdW2, ldA_N, stA_N, stB_N, stZ_N, pfZ_0, pfZ_1, rtZ_0, rtZ_1, acp_N, Option.bind_some, wp_some_iff, true_and, and_true, false_and, and_false, or_true, true_or, or_false, false_or, not_true_eq_false, not_false_eq_true, if_true, if_false, if_pos, if_neg, lt_sub, le_sub, sub_lt3, sub_le3, Option.bind_assoc]; rfl, fun g hg => by rw [f1.1 _ _ (by omega)]; exact hS.2.1 g hg, by rw [f1.1 _ _ (by omega)]; exact hS.2.2.1, hS.2.2.2.fr hE.len f1 (fun c k _ => by omega)⟩, f1.mono (by intro c k h; omega)⟩
    · rw [if_neg q2]
      by_cases q3 : bs.getD 8 0 = 3
      · rw [if_pos q3, q3, f336_3]
        simp (disch := omega) only [i_0, i_1, i_2, i_3, i_4, i_5, i_6, i_7, i_8, i_9, i_10, i_11, i_12, i_13, i_14, i_15, i_16, i_17, i_18, i_19, i_20, i_21, i_22, i_23, i_24, i_25, i_26, i_27, i_31, i_32, i_40, i_42, i_45, i_48, i_51, i_52, i_56, i_58, i_59, i_60, i_61, i_62, i_63, i_64, i_85, i_90, i_100, i_112, i_120, i_121, i_127, i_128, i_130, i_144, i_171, i_192, i_193, i_197, i_200, i_207, i_235, i_240, i_248, i_252, i_254, i_255, i_256, i_512, i_544, i_768, i_769, i_793, i_1000, i_1023, i_1024, i_1200, i_1538, i_1541, i_1545, i_2046, i_2047, i_2049, i_2060, i_2736, i_2737, i_2817, i_2818, i_2819, i_2820, i_2821, i_2831, i_2832, i_3077, i_3085, i_3843, i_3849, i_3851, i_3852, i_4129, i_4353, i_4865, i_5121, i_5122, i_5123, i_6156, i_8192, i_12288, i_16383, i_32000, i_33280, i_49152, i_53247, i_60304, i_64000, i_64512, i_65521, i_65535, i_449838109, nI_add, pk_mul, pk_sub, nI_mm, nI_leI, nI_ltI, nI_eq, pk_div, jrem_N, jshl_N, jshr_N, jushr_N, jmin_N, jmax_N, an_1, an_3, an_7, an_15, an_31, an_63, an_127, an_255, an_1023, an_2047, an_16383, an_65535, nm, pfI, rdI, rdW, rdL, rdI2, rdW2, ldA_N, stA_N, stB_N, stZ_N, pfZ_0, pfZ_1, rtZ_0, rtZ_1, acp_N, Option.bind_some, wp_some_iff, true_and, and_true, false_and, and_false, or_true, true_or, or_false, false_or, not_true_eq_false, not_false_eq_true, if_true, if_false, if_pos, if_neg, lt_sub, le_sub, sub_lt3, sub_le3, Option.bind_assoc]
        have f1 : Fr (fun c k => c = 129 ∧ k = 130) μ (setI μ 129 130 (nI 0)) := Fr.sI ⟨rfl, rfl⟩
        exact ⟨⟨by rw [f1.1 _ _ (by omega)]; exact hS.1, fun g hg => by rw [f1.1 _ _ (by omega)]; exact hS.2.1 g hg, by simp (disch := omega) only [i_0, i_1, i_2, i_3, i_4, i_5, i_6, i_7, i_8, i_9, i_10, i_11, i_12, i_13, i_14, i_15, i_16, i_17, i_18, i_19, i_20, i_21, i_22, i_23, i_24, i_25, i_26, i_27, i_31, i_32, i_40, i_42, i_45, i_48, i_51, i_52, i_56, i_58, i_59, i_60, i_61, i_62, i_63, i_64, i_85, i_90, i_100, i_112, i_120, i_121, i_127, i_128, i_130, i_144, i_171, i_192, i_193, i_197, i_200, i_207, i_235, i_240, i_248, i_252, i_254, i_255, i_256, i_512, i_544, i_768, i_769, i_793, i_1000, i_1023, i_1024, i_1200, i_1538, i_1541, i_1545, i_2046, i_2047, i_2049, i_2060, i_2736, i_2737, i_2817, i_2818, i_2819, i_2820, i_2821, i_2831, i_2832, i_3077, i_3085, i_3843, i_3849, i_3851, i_3852, i_4129, i_4353, i_4865, i_5121, i_5122, i_5123, i_6156, i_8192, i_12288, i_16383, i_32000, i_33280, i_49152, i_53247, i_60304, i_64000, i_64512, i_65521, i_65535, i_449838109, nI_add, pk_mul, pk_sub, nI_mm, nI_leI, nI_ltI, nI_eq, pk_div, jrem_N, jshl_N, jshr_N, jushr_N, jmin_N, jmax_N, an_1, an_3, an_7, an_15, an_31, an_63, an_127, an_255, an_1023, an_2047, an_16383, an_65535, nm, pfI, rdI, rdW, rdL, rdI2, rdW2, ldA_N, stA_N, stB_N, stZ_N, pfZ_0, pfZ_1, rtZ_0, rtZ_1, acp_N, Option.bind_some, wp_some_iff, true_and, and_true, false_and, and_false, or_true, true_or, or_false, false_or, not_true_eq_false, not_false_eq_true, if_true, if_false, if_pos, if_neg, lt_sub, le_sub, sub_lt3, sub_le3, Option.bind_assoc]; rfl, fun j hj => absurd hj (Nat.not_lt_zero _)⟩, f1.mono (by intro c k h; omega)⟩
      · rw [if_neg q3]
        by_cases q4 : bs.getD 8 0 = 4
        · rw [if_pos q4, q4, f336_4]
          obtain ⟨w1, w2, w3⟩ := why11_4 q4 hw
          have hx : xq bs = bs.getD 11 0 := by unfold xq; rw [if_pos (by omega)]
          have e12 := h.fo hl60 (i := 12) (by omega)
          have hv : w4l bs 12 < 2 ^ 31 := ltr_0 (by4 h.2.2.2 12) w2
          rw [i_12, e12, Option.bind_some]
          dsimp only
          rw [hS.2.2.1, hx]
          generalize w4l bs 12 = v at *
          have hnt : nt (nI v) = v := nt_nI hv
          have hps : ps s.2.2 v ≤ s.2.2.length := cn_n _ _
          refine wp_mono (insE_M (r := ps s.2.2 v) hS.2.2.2 hE.len hS.2.2.1 (by omega) hps hv (fun j hj => ?_) (fun j h1 h2 => ?_) h (by omega) (by omega)) (fun m ⟨a1, a2, a3⟩ => ⟨ScM.cg (f := fun j => if j < ps s.2.2 v then pk s.2.2 (nthI s.2.2 j) else if j = ps s.2.2 v then (xs11 bs, nI v, nI (bs.getD 11 0)) else pk s.2.2 (nthI s.2.2 (j - 1))) ?_ (fun g hg => ?_) ?_ ?_ (fun j hj => ?_), a3.mono (by intro c k h; omega)⟩)
          · have hn := nth_lt (es := s.2.2) (n := j) (by omega)
            have := (ps_iff (t := v) hn.1).mpr (by omega)
            exact ⟨_, this, (hE.2 _ hn.1).2.2.1.2⟩
          · have hn := nth_lt (es := s.2.2) (n := j) (by omega)
            have := (ps_iff (t := v) hn.1)
            exact ⟨tm s.2.2 (nthI s.2.2 j), by omega, (hE.2 _ hn.1).2.2.1.1, (hE.2 _ hn.1).2.2.1.2⟩
          · rw [a3.1 _ _ (by omega)]; exact hS.1
          · rw [a3.1 _ _ (by omega)]; exact hS.2.1 g hg
          · rw [a2, List.length_append]; rfl
          · rw [List.length_append]; exact a1
          · rw [List.length_append, List.length_singleton] at hj
            have := nth_app (es := s.2.2) (p := (xs11 bs, nI v, nI (bs.getD 11 0))) (j := j) (by omega)
            dsimp only at this
            rw [hnt] at this
            exact this
        · rw [if_neg q4]
          by_cases q5 : bs.getD 8 0 = 5
          · rw [if_pos q5, q5, f336_5]
            obtain ⟨n, hf⟩ := why11_5 q5 hw
            have e2 := h.wo hl60 (i := 11) (by omega)
            have ef := fc_M hS hE (w2_lt (k := 11) h.2.2.2)
            rw [hf] at ef
            dsimp only at ef
            rw [hf, i_11, e2, Option.bind_some]
            dsimp only
            rw [ef, Option.bind_some]
            dsimp only
            refine wp_bind (dropS_M hS hE (fcN_some hf)) (fun m ⟨a1, a2⟩ => wp_some ⟨a1, a2.mono (by intro c k h; omega)⟩)
          · rw [if_neg q5]
            by_cases q15 : bs.getD 8 0 = 15
            · rw [if_pos q15, q15, f336_15]
              have hm := why11_15 q15 hw
              have hv : w4l bs 11 < 4294967296 := by4 h.2.2.2 11
              have e4 : ∀ m, Fr (fun c _ => c = 204) μ m → f314 182 (nI 11) m = some (m, nI (w4l bs 11)) := fun m hf => (h.fr hf (by omega) (by omega) (fun k => by omega)).fo hl60 (i := 11) (by omega)
              generalize w4l bs 11 = v at *
              unfold l336_246
              refine wp_for (fun i m => (nI i, m)) (fun i m => (∀ j, j < s.2.2.length → m.1 204 j = if j < i then nI (tm s.2.2 (nthI s.2.2 j)) + nI v else nI (tm s.2.2 (nthI s.2.2 j))) ∧ Fr (fun c _ => c = 204) μ m) s.2.2.length (by omega) μ _ rfl ⟨fun j hj => ?_, Fr.rf⟩ (fun self i m hi ⟨x1, x2⟩ hk => ?_) (fun self m ⟨x1, x2⟩ => ?_)
              · rw [if_neg (by omega), (hS.2.2.2 j hj).1]
                exact (hE.2 _ (nth_lt hj).1).2.2.1.2
              · have x5 : m.1 129 130 = nI s.2.2.length := by rw [x2.1 _ _ (by omega)]; exact hS.2.2.1
                have e1 := x1 i hi
                rw [if_neg (by omega)] at e1
                unfold b336_246
                rw [x5, if_neg (fun z => by have := (nI_leI (by omega) (by omega)).mp z; omega), ldA_N (by omega), Option.bind_some, e1, i_11, e4 m x2, Option.bind_some]
                dsimp only
                rw [stA_N (by omega), Option.bind_some]
                dsimp only [nm]
                rw [i_1, nI_add]
                refine hk _ ⟨fun j hj => ?_, x2.pI rfl⟩
                rw [rdI]
                by_cases e : j = i
                · subst e
                  rw [if_pos ⟨rfl, rfl⟩, if_pos (by omega)]
                · rw [if_neg (fun z => e z.2), x1 j hj]
                  by_cases e2 : j < i
                  · rw [if_pos e2, if_pos (by omega)]
                  · rw [if_neg e2, if_neg (by omega)]
              · have x5 : m.1 129 130 = nI s.2.2.length := by rw [x2.1 _ _ (by omega)]; exact hS.2.2.1
                unfold b336_246
                rw [x5, if_pos ((nI_leI (by omega) (by omega)).mpr (Nat.le_refl _))]
                have hnth : ∀ j, j < s.2.2.length → nthI (shE s.2.2 v s.2.2.length) j = nthI s.2.2 j := fun j hj => (nth_cg (by rw [shE_len]) (fun i k hi hk => by
                  unfold ah
                  rw [(shE_tm hE hv hm hi).1, (shE_tm hE hv hm hk).1]
                  have l1 := shv_lt (hm k hk) (hm i hi)
                  have l2 := shv_lt (hm i hi) (hm k hk)
                  congr 1
                  apply propext
                  omega) hj).symm
                refine wp_some ⟨ScM.cg (f := fun j => ((pk s.2.2 (nthI s.2.2 j)).1, nI (tm s.2.2 (nthI s.2.2 j)) + nI v, (pk s.2.2 (nthI s.2.2 j)).2.2)) ?_ (fun g hg => ?_) ?_ (fun j hj => ?_) (fun j hj => ?_), x2.mono (by intro c k h; omega)⟩
                · rw [x2.1 _ _ (by omega)]; exact hS.1
                · rw [x2.1 _ _ (by omega)]; exact hS.2.1 g hg
                · rw [x5, shE_len]
                · rw [shE_len] at hj
                  obtain ⟨b1, b2, b3, b4⟩ := hS.2.2.2 j hj
                  dsimp only at b1 b2 b3 b4
                  refine ⟨?_, ?_, ?_, b4.fr x2 (fun k => by omega)⟩
                  · rw [x1 j hj, if_pos hj]
                  · rw [x2.1 _ _ (by omega)]; exact b2
                  · rw [x2.1 _ _ (by omega)]; exact b3
                · rw [shE_len] at hj
                  rw [hnth j hj, shE_pk _ (Nat.le_refl _), if_pos (nth_lt hj).1]
            · rw [if_neg q15]
              have hx : xq bs = bs.getD 11 0 := by unfold xq; rw [if_pos (by omega)]
              by_cases q20 : bs.getD 8 0 = 20
              · have w1 := why11_g (Or.inl q20) hw
                rw [if_pos q20, q20, hx, f336_20]
                have k1 := hS.g (e := bs.getD 11 0) (b := false) hE
                rw [b2n_f] at k1
                simp (disch := omega) only [i_0, i_1, i_2, i_3, i_4, i_5, i_6, i_7, i_8, i_9, i_10, i_11, i_12, i_13, i_14, i_15, i_16, i_17, i_18, i_19, i_20, i_21, i_22, i_23, i_24, i_25, i_26, i_27, i_31, i_32, i_40, i_42, i_45, i_48, i_51, i_52, i_56, i_58, i_59, i_60, i_61, i_62, i_63, i_64, i_85, i_90, i_100, i_112, i_120, i_121, i_127, i_128, i_130, i_144, i_171, i_192, i_193, i_197, i_200, i_207, i_235, i_240, i_248, i_252, i_254, i_255, i_256, i_512, i_544, i_768, i_769, i_793, i_1000, i_1023, i_1024, i_1200, i_1538, i_1541, i_1545, i_2046, i_2047, i_2049, i_2060, i_2736, i_2737, i_2817, i_2818, i_2819, i_2820, i_2821, i_2831, i_2832, i_3077, i_3085, i_3843, i_3849, i_3851, i_3852, i_4129, i_4353, i_4865, i_5121, i_5122, i_5123, i_6156, i_8192, i_12288, i_16383, i_32000, i_33280, i_49152, i_53247, i_60304, i_64000, i_64512, i_65521, i_65535, i_449838109, nI_add, pk_mul, pk_sub, nI_mm, nI_leI, nI_ltI, nI_eq, pk_div, jrem_N, jshl_N, jshr_N, jushr_N, jmin_N, jmax_N, an_1, an_3, an_7, an_15, an_31, an_63, an_127, an_255, an_1023, an_2047, an_16383, an_65535, nm, pfI, rdI, rdW, rdL, rdI2, rdW2, ldA_N, stA_N, stB_N, stZ_N, pfZ_0, pfZ_1, rtZ_0, rtZ_1, acp_N, Option.bind_some, wp_some_iff, true_and, and_true, false_and, and_false, or_true, true_or, or_false, false_or, not_true_eq_false, not_false_eq_true, if_true, if_false, if_pos, if_neg, lt_sub, le_sub, sub_lt3, sub_le3, Option.bind_assoc, zz0]
                exact ⟨k1, Fr.sI (by omega)⟩
              · rw [if_neg q20]
                have q21 : bs.getD 8 0 = 21 := by omega
                have w1 := why11_g (Or.inr q21) hw
                rw [if_pos q21, q21, hx, f336_21]
                have k1 := hS.g (e := bs.getD 11 0) (b := true) hE
                rw [b2n_t] at k1
                simp (disch := omega) only [i_0, i_1, i_2, i_3, i_4, i_5, i_6, i_7, i_8, i_9, i_10, i_11, i_12, i_13, i_14, i_15, i_16, i_17, i_18, i_19, i_20, i_21, i_22, i_23, i_24, i_25, i_26, i_27, i_31, i_32, i_40, i_42, i_45, i_48, i_51, i_52, i_56, i_58, i_59, i_60, i_61, i_62, i_63, i_64, i_85, i_90, i_100, i_112, i_120, i_121, i_127, i_128, i_130, i_144, i_171, i_192, i_193, i_197, i_200, i_207, i_235, i_240, i_248, i_252, i_254, i_255, i_256, i_512, i_544, i_768, i_769, i_793, i_1000, i_1023, i_1024, i_1200, i_1538, i_1541, i_1545, i_2046, i_2047, i_2049, i_2060, i_2736, i_2737, i_2817, i_2818, i_2819, i_2820, i_2821, i_2831, i_2832, i_3077, i_3085, i_3843, i_3849, i_3851, i_3852, i_4129, i_4353, i_4865, i_5121, i_5122, i_5123, i_6156, i_8192, i_12288, i_16383, i_32000, i_33280, i_49152, i_53247, i_60304, i_64000, i_64512, i_65521, i_65535, i_449838109, nI_add, pk_mul, pk_sub, nI_mm, nI_leI, nI_ltI, nI_eq, pk_div, jrem_N, jshl_N, jshr_N, jushr_N, jmin_N, jmax_N, an_1, an_3, an_7, an_15, an_31, an_63, an_127, an_255, an_1023, an_2047, an_16383, an_65535, nm, pfI, rdI, rdW, rdL, rdI2, rdW2, ldA_N, stA_N, stB_N, stZ_N, pfZ_0, pfZ_1, rtZ_0, rtZ_1, acp_N, Option.bind_some, wp_some_iff, true_and, and_true, false_and, and_false, or_true, true_or, or_false, false_or, not_true_eq_false, not_false_eq_true, if_true, if_false, if_pos, if_neg, lt_sub, le_sub, sub_lt3, sub_le3, Option.bind_assoc, zz1]
                exact ⟨k1, Fr.sI (by omega)⟩
/-! the report -/
def rep11 (es : List Pk) : Nat → List Nat
  | 0 => []
  | i + 1 => rep11 es i ++ (lowB (pk es (nthI es i)).2.1 4 ++ lowB (nI (ctE es (nthI es i))) 2)
theorem rep11_len (es : List Pk) : ∀ n, (rep11 es n).length = 6 * n
  | 0 => rfl
  | n + 1 => by
    rw [rep11, List.length_append, rep11_len es n, List.length_append, lowB_len, lowB_len]
    omega
def rp11 (es : List Pk) : List Nat := [min es.length 8] ++ rep11 es (min es.length 8)
theorem rep11_C {μ : Mem} {s : Tw} {bs : List Nat} {x : Mw} (h : Byt μ 122 bs) (hS : ScC μ s) (hE : EnI s.2.2) (hM : MC μ x) (q : bs.getD 8 0 = 16) : wp (f58 μ) (fun m => Byt m 87 (bgL x.2.1 x.1 11 17 ++ rp11 s.2.2) ∧ Fr (FB 87) μ m) := by
  have g : gln (87 + 1) = 82 := gl_88
  have e8 := sub_C h
  rw [q] at e8
  have hl := hE.1
  have h5 := hS.2.2.1
  rw [f58_16 e8]
  unfold f60
  refine wp_bind (P := fun m => Byt m 87 (bgL x.2.1 x.1 11 17 ++ rp11 s.2.2) ∧ Fr (FB 87) μ m) ?_ (fun m h => wp_some h)
  rw [h5, i_8, jmin_N (by omega) (by omega)]
  dsimp only [nm]
  unfold rp11
  have hm : min s.2.2.length 8 ≤ s.2.2.length ∧ min s.2.2.length 8 ≤ 8 := by omega
  generalize min s.2.2.length 8 = n at *
  rw [i_11, i_17]
  refine wp_bind (begin_C (sv := 11) (sb := 17) hM (by omega) (by omega)) (fun m1 ⟨a1, a2⟩ => ?_)
  refine wp_bind (pu_ok _ a1 (by rw [bgL_len]; omega)) (fun m2 ⟨b1, b2⟩ => ?_)
  rw [byv_nI (by omega)] at b1
  unfold l60_37
  refine wp_for (fun i m => (nI n, nI i, m)) (fun i m => Byt m 87 (bgL x.2.1 x.1 11 17 ++ ([n] ++ rep11 s.2.2 i)) ∧ Fr (FB 87) μ m) n (by omega) m2 _ rfl ⟨b1, a2.tr' b2⟩ (fun self i m hi ⟨x1, x2⟩ hk => ?_) (fun self m ⟨x1, x2⟩ => ?_)
  · have sh := hS.2.2.fr x2 (fun c k _ _ => by omega)
    have hn := (nth_lt (es := s.2.2) (n := i) (by omega)).1
    have en := nth_C sh hE (n := i) (by omega)
    rw [nthV_y (by omega)] at en
    have et := tagOf_y sh hn
    have hle : (bgL x.2.1 x.1 11 17 ++ ([n] ++ rep11 s.2.2 i)).length = 14 + 6 * i := by
      rw [List.length_append, List.length_append, bgL_len, rep11_len, List.length_singleton]
      omega
    unfold b60_37
    rw [if_neg (fun z => by have := (nI_leI (by omega) (by omega)).mp z; omega), en, Option.bind_some]
    dsimp only
    rw [et, Option.bind_some]
    dsimp only
    refine wp_bind (p4_ok _ x1 (by rw [hle]; omega)) (fun m3 ⟨c1, c2⟩ => ?_)
    have ec := cnt_C (sh.fr c2 (fun c k _ _ => by omega)) hn
    rw [ec, Option.bind_some]
    dsimp only
    refine wp_bind (p2_ok _ c1 (by rw [List.length_append, hle, lowB_len]; omega)) (fun m4 ⟨d1, d2⟩ => ?_)
    dsimp only [nm]
    rw [i_1, nI_add]
    refine hk m4 ⟨?_, (x2.tr' c2).tr' d2⟩
    simp only [List.append_assoc] at d1
    simp only [rep11, List.append_assoc]
    exact d1
  · unfold b60_37
    rw [if_pos ((nI_leI (by omega) (by omega)).mpr (Nat.le_refl _))]
    exact wp_some ⟨x1, x2⟩
theorem rep11_M {μ : Mem} {s : Tw} {x : Mw} {v : Int32} (hS : ScM μ s) (hE : EnI s.2.2) (hM : MM μ x) (hMI : MI x) (hO : OutM μ []) : wp (f336 (nI 16) v μ) (fun m => MM m (makeW x 11 17 (rp11 s.2.2)) ∧ OutM m [] ∧ Fr FMo μ m) := by
  have hl := hE.1
  have h5 := hS.2.2.1
  have g4 := gl_204
  have hm : min s.2.2.length 8 ≤ s.2.2.length ∧ min s.2.2.length 8 ≤ 8 := by omega
  have key : wp (c336_299 (nI (min s.2.2.length 8)) μ) (fun m => MM m (makeW x 11 17 (rp11 s.2.2)) ∧ OutM m [] ∧ Fr FMo μ m) := by
    unfold rp11 c336_299
    generalize min s.2.2.length 8 = n at *
    rw [i_1]
    refine wp_bind (put1_M hO (by omega) (by show 0 + 1 ≤ 100; omega)) (fun m2 ⟨b1, b2⟩ => ?_)
    rw [List.nil_append] at b1
    unfold l336_309
    refine wp_for (fun i m => (nI n, nI i, m)) (fun i m => OutM m ([n] ++ rep11 s.2.2 i) ∧ Fr FOut μ m) n (by omega) m2 _ rfl ⟨b1, b2⟩ (fun self i m hi ⟨x1, x2⟩ hk => ?_) (fun self m ⟨x1, x2⟩ => ?_)
    · have sh := hS.fr hE x2 (by omega) (by omega) (fun c k _ => by omega)
      have e4 := (sh.2.2.2 i (by omega)).1
      dsimp only at e4
      have hle : ([n] ++ rep11 s.2.2 i).length = 1 + 6 * i := by
        rw [List.length_append, rep11_len, List.length_singleton]
      unfold b336_309
      rw [if_neg (fun z => by have := (nI_leI (by omega) (by omega)).mp z; omega), ldA_N (by omega), Option.bind_some, e4, i_4]
      refine wp_bind (put_M _ x1 (by omega) (by omega) (by rw [hle]; omega)) (fun m3 ⟨c1, c2⟩ => ?_)
      have ec := cntE_M (sh.fr hE c2 (by omega) (by omega) (fun c k _ => by omega)) hE (j := i) (by omega)
      rw [i_40, i_2, pk_mul, nI_add, ec, Option.bind_some]
      dsimp only
      rw [i_16383, an_16383]
      refine wp_bind (put_M _ c1 (by omega) (by omega) (by rw [List.length_append, hle, lowB_len]; omega)) (fun m4 ⟨d1, d2⟩ => ?_)
      dsimp only [nm]
      rw [i_1, nI_add]
      refine hk m4 ⟨?_, (x2.tr' c2).tr' d2⟩
      simp only [List.append_assoc] at d1
      simp only [rep11, List.append_assoc]
      exact d1
    · unfold b336_309
      rw [if_pos ((nI_leI (by omega) (by omega)).mpr (Nat.le_refl _)), i_11, i_17]
      refine wp_bind (make_M (sv := 11) (sb := 17) (hM.fr hMI x2 (fun c k _ => by omega)) hMI x1 (by omega) (by omega) (by rw [List.length_append, rep11_len, List.length_singleton]; omega)) (fun m3 ⟨c1, c2, c3⟩ => wp_some ⟨c1, c2, x2.tr c3 (by intro c k h; omega) (by intro c k h; omega)⟩)
  rw [f336_16, h5, i_8]
  by_cases e : 8 ≤ s.2.2.length
  · rw [if_pos ((nI_leI (by omega) (by omega)).mpr e)]
    rw [show min s.2.2.length 8 = 8 by omega] at key
    exact key
  · rw [if_neg (fun z => e ((nI_leI (by omega) (by omega)).mp z))]
    rw [show min s.2.2.length 8 = s.2.2.length by omega] at key
    exact key
