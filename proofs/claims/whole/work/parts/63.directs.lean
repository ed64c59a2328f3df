/-! ===== direct: both sides ===== -/
def UW (μ : Mem) : Prop := ∃ u, u ≤ 254 ∧ 2 ≤ u ∧ u % 2 = 0 ∧ μ.1 9 16 = nI u ∧ μ.1 129 24 = nI u
theorem UW.fr {μ m : Mem} {P : Nat → Nat → Prop} (h : UW μ) (ho : Fr P μ m) (h1 : ¬ P 9 16) (h2 : ¬ P 129 24) : UW m := by
  unfold UW
  rw [ho.1 _ _ h1, ho.1 _ _ h2]
  exact h
abbrev FD : Nat → Nat → Prop := fun c k => 28 ≤ c ∧ c ≤ 48 ∨ 5 ≤ c ∧ c ≤ 6 ∨ c = 24 ∨ c = 129 ∧ 28 ≤ k ∧ k ≤ 49 ∨ 131 ≤ c ∧ c ≤ 134 ∨ c = 136 ∨ 141 ≤ c ∧ c ≤ 149 ∨ c = 152
theorem SM.cg {μ : Mem} {z z2 : Nat → Int32} (h : SM μ z) (e : ∀ i, i < 11 → z2 i = z i) : SM μ z2 := fun i hi => by rw [e i hi]; exact h i hi
theorem WM.cg {μ : Mem} {t : Nat} {w w2 : Wd} (h : WM μ t w) (e : ∀ i, i < 11 → w2.1 i = w.1 i) (e2 : w2.2 = w.2) : WM μ t w2 := by
  obtain ⟨z, r⟩ := w
  obtain ⟨z2, r2⟩ := w2
  dsimp only at e e2
  subst e2
  exact ⟨h.1.cg e, h.2⟩
theorem Snd.fr {μ m : Mem} {t : Nat} {w : Wd} {cl : List Nat} {P : Nat → Nat → Prop} (h : Snd μ t w cl) (ho : Fr P μ m) (h1 : ∀ c k, c = 100000 ∨ 28 ≤ c ∧ c ≤ 42 ∨ c = 12 ∨ 24 ≤ c ∧ c ≤ 26 ∨ 5 ≤ c ∧ c ≤ 8 ∨ c = 129 ∧ (28 ≤ k ∧ k ≤ 49 ∨ k = 58) ∨ 134 ≤ c ∧ c ≤ 136 ∨ 141 ≤ c ∧ c ≤ 147 ∨ 152 ≤ c ∧ c ≤ 155 → ¬ P c k) : Snd m t w cl :=
  ⟨h.1.fr ho (fun c k _ => h1 c k (by omega)), h.2.1.fr ho (fun c k _ => h1 c k (by omega)), h.2.2.1, fun q => ⟨(h.2.2.2 q).1.fr ho (fun c k _ => h1 c k (by omega)), (h.2.2.2 q).2.fr ho (fun k _ => h1 129 k (by omega))⟩⟩
def mkN (ps : List Pk) : Nat → Nat
  | 0 => 0
  | n + 1 => mkN ps n + (if (pk ps n).2.2 = nI 0 then 0 else 1)
theorem mkN_le (ps : List Pk) : ∀ n, mkN ps n ≤ n
  | 0 => Nat.le_refl _
  | n + 1 => by
    have := mkN_le ps n
    unfold mkN
    split
    · omega
    · omega
abbrev FDc : Nat → Nat → Prop := fun c _ => 28 ≤ c ∧ c ≤ 48 ∨ 5 ≤ c ∧ c ≤ 6 ∨ c = 24
abbrev FDm2 : Nat → Nat → Prop := fun c k => c = 129 ∧ 28 ≤ k ∧ k ≤ 49 ∨ 131 ≤ c ∧ c ≤ 134 ∨ c = 136 ∨ 141 ≤ c ∧ c ≤ 149 ∨ c = 152
def wd0 (t : Nat) (w : Wd) : Wd := stZw (stZw (lseW t w) 3 (nI 1)) 0 (nI 1)
def wd1 (t : Nat) (w : Wd) : Wd := stZw (stZw (stZw (lseW t w) 3 (nI 1)) 6 (w.1 7)) 0 (nI 4)
def wd2 (t : Nat) (w : Wd) : Wd := ctlW (stZw (stZw (stZw (lseW t w) 3 (nI 1)) 6 (w.1 7)) 0 (nI 5)) [0]
def wd3 (t v : Nat) (w : Wd) : Wd := ctlW (stZw (stZw (stZw (stZw (stZw (lseW t w) 3 (nI 1)) 6 (w.1 7)) 0 (nI 5)) 1 (nI v)) 2 (nI v)) [130, 0, v]
theorem d0_C {μ : Mem} {t : Nat} {w : Wd} (hC : WC μ t w) (hI : WI w) (p2 : Int32) : wp (f152 (nI 0) p2 μ) (fun r => r.2 = nI 0 ∧ WC r.1 t (wd0 t w) ∧ Fr FDc μ r.1) := by
  unfold f152 f153
  simp (disch := omega) only [i_0, i_1, i_2, i_3, i_4, i_5, i_6, i_7, i_8, i_9, i_10, i_11, i_12, i_13, i_14, i_15, i_16, i_17, i_18, i_19, i_20, i_21, i_22, i_23, i_24, i_25, i_26, i_27, i_31, i_32, i_40, i_42, i_45, i_48, i_51, i_52, i_56, i_58, i_59, i_60, i_61, i_62, i_63, i_64, i_85, i_90, i_100, i_112, i_120, i_121, i_127, i_128, i_130, i_144, i_171, i_192, i_193, i_197, i_200, i_207, i_235, i_240, i_248, i_252, i_254, i_255, i_256, i_512, i_544, i_768, i_769, i_793, i_1000, i_1023, i_1024, i_1200, i_1538, i_1541, i_1545, i_2046, i_2047, i_2049, i_2060, i_2736, i_2737, i_2817, i_2818, i_2819, i_2820, i_2821, i_2831, i_2832, i_3077, i_3085, i_3843, i_3849, i_3851, i_3852, i_4129, i_4353, i_4865, i_5121, i_5122, i_5123, i_6156, i_8192, i_12288, i_16383, i_32000, i_33280, i_49152, i_53247, i_60304, i_64000, i_64512, i_65521, i_65535, i_449838109, nI_add, pk_mul, pk_sub, nI_mm, nI_leI, nI_ltI, nI_eq, pk_div, jrem_N, jshl_N, jshr_N, jushr_N, jmin_N, jmax_N, an_1, an_3, an_7, an_15, an_31, an_63, an_127, an_255, an_1023, an_2047, an_16383, an_65535, nm, pfI, rdI, rdW, rdL, rdI2, rdW2, ldA_N, stA_N, stB_N, stZ_N, pfZ_0, pfZ_1, rtZ_0, rtZ_1, acp_N, Option.bind_some, wp_some_iff, true_and, and_true, false_and, and_false, or_true, true_or, or_false, false_or, not_true_eq_false, not_false_eq_true, if_true, if_false, if_pos, if_neg, lt_sub, le_sub, sub_lt3, sub_le3, Option.bind_assoc]
  refine wp_bind (lse_C hC hI) (fun m ⟨h1, e1⟩ => ?_)
  exact wp_some ⟨rfl, (h1.st (k := 11) (i := 3) (x := nI 1) rfl).st (k := 8) (i := 0) (x := nI 1) rfl, ((e1.mono (by intro c k h; omega)).pI (by omega)).pI (by omega)⟩
theorem d1_C {μ : Mem} {t : Nat} {w : Wd} (hC : WC μ t w) (hI : WI w) (p2 : Int32) : wp (f152 (nI 1) p2 μ) (fun r => r.2 = nI 0 ∧ WC r.1 t (wd1 t w) ∧ Fr FDc μ r.1) := by
  unfold f152 f153
  simp (disch := omega) only [i_0, i_1, i_2, i_3, i_4, i_5, i_6, i_7, i_8, i_9, i_10, i_11, i_12, i_13, i_14, i_15, i_16, i_17, i_18, i_19, i_20, i_21, i_22, i_23, i_24, i_25, i_26, i_27, i_31, i_32, i_40, i_42, i_45, i_48, i_51, i_52, i_56, i_58, i_59, i_60, i_61, i_62, i_63, i_64, i_85, i_90, i_100, i_112, i_120, i_121, i_127, i_128, i_130, i_144, i_171, i_192, i_193, i_197, i_200, i_207, i_235, i_240, i_248, i_252, i_254, i_255, i_256, i_512, i_544, i_768, i_769, i_793, i_1000, i_1023, i_1024, i_1200, i_1538, i_1541, i_1545, i_2046, i_2047, i_2049, i_2060, i_2736, i_2737, i_2817, i_2818, i_2819, i_2820, i_2821, i_2831, i_2832, i_3077, i_3085, i_3843, i_3849, i_3851, i_3852, i_4129, i_4353, i_4865, i_5121, i_5122, i_5123, i_6156, i_8192, i_12288, i_16383, i_32000, i_33280, i_49152, i_53247, i_60304, i_64000, i_64512, i_65521, i_65535, i_449838109, nI_add, pk_mul, pk_sub, nI_mm, nI_leI, nI_ltI, nI_eq, pk_div, jrem_N, jshl_N, jshr_N, jushr_N, jmin_N, jmax_N, an_1, an_3, an_7, an_15, an_31, an_63, an_127, an_255, an_1023, an_2047, an_16383, an_65535, nm, pfI, rdI, rdW, rdL, rdI2, rdW2, ldA_N, stA_N, stB_N, stZ_N, pfZ_0, pfZ_1, rtZ_0, rtZ_1, acp_N, Option.bind_some, wp_some_iff, true_and, and_true, false_and, and_false, or_true, true_or, or_false, false_or, not_true_eq_false, not_false_eq_true, if_true, if_false, if_pos, if_neg, lt_sub, le_sub, sub_lt3, sub_le3, Option.bind_assoc]
  refine wp_bind (lse_C hC hI) (fun m ⟨h1, e1⟩ => ?_)
  have u7 : m.1 28 15 = w.1 7 := h1.2.1.a.2.2.2.2.2.2.2.1
  simp (disch := omega) only [i_0, i_1, i_2, i_3, i_4, i_5, i_6, i_7, i_8, i_9, i_10, i_11, i_12, i_13, i_14, i_15, i_16, i_17, i_18, i_19, i_20, i_21, i_22, i_23, i_24, i_25, i_26, i_27, i_31, i_32, i_40, i_42, i_45, i_48, i_51, i_52, i_56, i_58, i_59, i_60, i_61, i_62, i_63, i_64, i_85, i_90, i_100, i_112, i_120, i_121, i_127, i_128, i_130, i_144, i_171, i_192, i_193, i_197, i_200, i_207, i_235, i_240, i_248, i_252, i_254, i_255, i_256, i_512, i_544, i_768, i_769, i_793, i_1000, i_1023, i_1024, i_1200, i_1538, i_1541, i_1545, i_2046, i_2047, i_2049, i_2060, i_2736, i_2737, i_2817, i_2818, i_2819, i_2820, i_2821, i_2831, i_2832, i_3077, i_3085, i_3843, i_3849, i_3851, i_3852, i_4129, i_4353, i_4865, i_5121, i_5122, i_5123, i_6156, i_8192, i_12288, i_16383, i_32000, i_33280, i_49152, i_53247, i_60304, i_64000, i_64512, i_65521, i_65535, i_449838109, nI_add, pk_mul, pk_sub, nI_mm, nI_leI, nI_ltI, nI_eq, pk_div, jrem_N, jshl_N, jshr_N, jushr_N, jmin_N, jmax_N, an_1, an_3, an_7, an_15, an_31, an_63, an_127, an_255, an_1023, an_2047, an_16383, an_65535, nm, pfI, rdI, rdW, rdL, rdI2, rdW2, ldA_N, stA_N, stB_N, stZ_N, pfZ_0, pfZ_1, rtZ_0, rtZ_1, acp_N, Option.bind_some, wp_some_iff, true_and, and_true, false_and, and_false, or_true, true_or, or_false, false_or, not_true_eq_false, not_false_eq_true, if_true, if_false, if_pos, if_neg, lt_sub, le_sub, sub_lt3, sub_le3, Option.bind_assoc, u7]
  exact ⟨((h1.st (k := 11) (i := 3) (x := nI 1) rfl).st (k := 14) (i := 6) (x := w.1 7) rfl).st (k := 8) (i := 0) (x := nI 4) rfl, (((e1.mono (by intro c k h; omega)).pI (by omega)).pI (by omega)).pI (by omega)⟩
theorem d2_C {μ : Mem} {t : Nat} {w : Wd} (hC : WC μ t w) (hI : WI w) (p2 : Int32) : wp (f152 (nI 2) p2 μ) (fun r => r.2 = nI 0 ∧ WC r.1 t (wd2 t w) ∧ CtC r.1 [0] ∧ Fr FDc μ r.1) := by
  have g1 : gln (41 + 1) = 3 := gl_42
  unfold f152 f153 c153_93
  simp (disch := omega) only [i_0, i_1, i_2, i_3, i_4, i_5, i_6, i_7, i_8, i_9, i_10, i_11, i_12, i_13, i_14, i_15, i_16, i_17, i_18, i_19, i_20, i_21, i_22, i_23, i_24, i_25, i_26, i_27, i_31, i_32, i_40, i_42, i_45, i_48, i_51, i_52, i_56, i_58, i_59, i_60, i_61, i_62, i_63, i_64, i_85, i_90, i_100, i_112, i_120, i_121, i_127, i_128, i_130, i_144, i_171, i_192, i_193, i_197, i_200, i_207, i_235, i_240, i_248, i_252, i_254, i_255, i_256, i_512, i_544, i_768, i_769, i_793, i_1000, i_1023, i_1024, i_1200, i_1538, i_1541, i_1545, i_2046, i_2047, i_2049, i_2060, i_2736, i_2737, i_2817, i_2818, i_2819, i_2820, i_2821, i_2831, i_2832, i_3077, i_3085, i_3843, i_3849, i_3851, i_3852, i_4129, i_4353, i_4865, i_5121, i_5122, i_5123, i_6156, i_8192, i_12288, i_16383, i_32000, i_33280, i_49152, i_53247, i_60304, i_64000, i_64512, i_65521, i_65535, i_449838109, nI_add, pk_mul, pk_sub, nI_mm, nI_leI, nI_ltI, nI_eq, pk_div, jrem_N, jshl_N, jshr_N, jushr_N, jmin_N, jmax_N, an_1, an_3, an_7, an_15, an_31, an_63, an_127, an_255, an_1023, an_2047, an_16383, an_65535, nm, pfI, rdI, rdW, rdL, rdI2, rdW2, ldA_N, stA_N, stB_N, stZ_N, pfZ_0, pfZ_1, rtZ_0, rtZ_1, acp_N, Option.bind_some, wp_some_iff, true_and, and_true, false_and, and_false, or_true, true_or, or_false, false_or, not_true_eq_false, not_false_eq_true, if_true, if_false, if_pos, if_neg, lt_sub, le_sub, sub_lt3, sub_le3, Option.bind_assoc]
  refine wp_bind (lse_C hC hI) (fun m ⟨h1, e1⟩ => ?_)
  have u7 : m.1 28 15 = w.1 7 := h1.2.1.a.2.2.2.2.2.2.2.1
  simp (disch := omega) only [i_0, i_1, i_2, i_3, i_4, i_5, i_6, i_7, i_8, i_9, i_10, i_11, i_12, i_13, i_14, i_15, i_16, i_17, i_18, i_19, i_20, i_21, i_22, i_23, i_24, i_25, i_26, i_27, i_31, i_32, i_40, i_42, i_45, i_48, i_51, i_52, i_56, i_58, i_59, i_60, i_61, i_62, i_63, i_64, i_85, i_90, i_100, i_112, i_120, i_121, i_127, i_128, i_130, i_144, i_171, i_192, i_193, i_197, i_200, i_207, i_235, i_240, i_248, i_252, i_254, i_255, i_256, i_512, i_544, i_768, i_769, i_793, i_1000, i_1023, i_1024, i_1200, i_1538, i_1541, i_1545, i_2046, i_2047, i_2049, i_2060, i_2736, i_2737, i_2817, i_2818, i_2819, i_2820, i_2821, i_2831, i_2832, i_3077, i_3085, i_3843, i_3849, i_3851, i_3852, i_4129, i_4353, i_4865, i_5121, i_5122, i_5123, i_6156, i_8192, i_12288, i_16383, i_32000, i_33280, i_49152, i_53247, i_60304, i_64000, i_64512, i_65521, i_65535, i_449838109, nI_add, pk_mul, pk_sub, nI_mm, nI_leI, nI_ltI, nI_eq, pk_div, jrem_N, jshl_N, jshr_N, jushr_N, jmin_N, jmax_N, an_1, an_3, an_7, an_15, an_31, an_63, an_127, an_255, an_1023, an_2047, an_16383, an_65535, nm, pfI, rdI, rdW, rdL, rdI2, rdW2, ldA_N, stA_N, stB_N, stZ_N, pfZ_0, pfZ_1, rtZ_0, rtZ_1, acp_N, Option.bind_some, wp_some_iff, true_and, and_true, false_and, and_false, or_true, true_or, or_false, false_or, not_true_eq_false, not_false_eq_true, if_true, if_false, if_pos, if_neg, lt_sub, le_sub, sub_lt3, sub_le3, Option.bind_assoc, u7]
  have x1 := ((h1.st (k := 11) (i := 3) (x := nI 1) rfl).st (k := 14) (i := 6) (x := w.1 7) rfl).st (k := 8) (i := 0) (x := nI 5) rfl
  have e2 : Fr FDc μ (setI (setI (setI m 28 11 (nI 1)) 28 14 (w.1 7)) 28 8 (nI 5)) := (((e1.mono (by intro c k h; omega)).pI (by omega)).pI (by omega)).pI (by omega)
  generalize setI (setI (setI m 28 11 (nI 1)) 28 14 (w.1 7)) 28 8 (nI 5) = m2 at *
  refine wp_bind (cl_ok 41 m2) (fun m3 ⟨h3, e3⟩ => ?_)
  refine wp_bind (pu_ok _ h3 (by rw [g1]; decide)) (fun m4 ⟨h4, e4⟩ => ?_)
  have h4' : CtC m4 [0] := ⟨h4, by decide⟩
  refine wp_bind (ctl_C ((x1.fr e3 (fun c k _ => by omega)).fr e4 (fun c k _ => by omega)) h4') (fun m5 ⟨h5, e5⟩ => wp_some ⟨rfl, h5, h4'.fr e5 (fun c k _ => by omega), ((e2.tr e3 (fun _ _ q => q) (by intro c k h; omega)).tr e4 (fun _ _ q => q) (by intro c k h; omega)).tr e5 (fun _ _ q => q) (by intro c k h; omega)⟩)
theorem d3_C {μ : Mem} {t v : Nat} {w : Wd} (hC : WC μ t w) (hI : WI w) (hv : v < 256) : wp (f152 (nI 3) (nI v) μ) (fun r => r.2 = nI 0 ∧ WC r.1 t (wd3 t v w) ∧ CtC r.1 [130, 0, v] ∧ Fr FDc μ r.1) := by
  have g1 : gln (41 + 1) = 3 := gl_42
  unfold f152 f153 c153_93
  simp (disch := omega) only [i_0, i_1, i_2, i_3, i_4, i_5, i_6, i_7, i_8, i_9, i_10, i_11, i_12, i_13, i_14, i_15, i_16, i_17, i_18, i_19, i_20, i_21, i_22, i_23, i_24, i_25, i_26, i_27, i_31, i_32, i_40, i_42, i_45, i_48, i_51, i_52, i_56, i_58, i_59, i_60, i_61, i_62, i_63, i_64, i_85, i_90, i_100, i_112, i_120, i_121, i_127, i_128, i_130, i_144, i_171, i_192, i_193, i_197, i_200, i_207, i_235, i_240, i_248, i_252, i_254, i_255, i_256, i_512, i_544, i_768, i_769, i_793, i_1000, i_1023, i_1024, i_1200, i_1538, i_1541, i_1545, i_2046, i_2047, i_2049, i_2060, i_2736, i_2737, i_2817, i_2818, i_2819, i_2820, i_2821, i_2831, i_2832, i_3077, i_3085, i_3843, i_3849, i_3851, i_3852, i_4129, i_4353, i_4865, i_5121, i_5122, i_5123, i_6156, i_8192, i_12288, i_16383, i_32000, i_33280, i_49152, i_53247, i_60304, i_64000, i_64512, i_65521, i_65535, i_449838109, nI_add, pk_mul, pk_sub, nI_mm, nI_leI, nI_ltI, nI_eq, pk_div, jrem_N, jshl_N, jshr_N, jushr_N, jmin_N, jmax_N, an_1, an_3, an_7, an_15, an_31, an_63, an_127, an_255, an_1023, an_2047, an_16383, an_65535, nm, pfI, rdI, rdW, rdL, rdI2, rdW2, ldA_N, stA_N, stB_N, stZ_N, pfZ_0, pfZ_1, rtZ_0, rtZ_1, acp_N, Option.bind_some, wp_some_iff, true_and, and_true, false_and, and_false, or_true, true_or, or_false, false_or, not_true_eq_false, not_false_eq_true, if_true, if_false, if_pos, if_neg, lt_sub, le_sub, sub_lt3, sub_le3, Option.bind_assoc]
  refine wp_bind (lse_C hC hI) (fun m ⟨h1, e1⟩ => ?_)
  have u7 : m.1 28 15 = w.1 7 := h1.2.1.a.2.2.2.2.2.2.2.1
  simp (disch := omega) only [i_0, i_1, i_2, i_3, i_4, i_5, i_6, i_7, i_8, i_9, i_10, i_11, i_12, i_13, i_14, i_15, i_16, i_17, i_18, i_19, i_20, i_21, i_22, i_23, i_24, i_25, i_26, i_27, i_31, i_32, i_40, i_42, i_45, i_48, i_51, i_52, i_56, i_58, i_59, i_60, i_61, i_62, i_63, i_64, i_85, i_90, i_100, i_112, i_120, i_121, i_127, i_128, i_130, i_144, i_171, i_192, i_193, i_197, i_200, i_207, i_235, i_240, i_248, i_252, i_254, i_255, i_256, i_512, i_544, i_768, i_769, i_793, i_1000, i_1023, i_1024, i_1200, i_1538, i_1541, i_1545, i_2046, i_2047, i_2049, i_2060, i_2736, i_2737, i_2817, i_2818, i_2819, i_2820, i_2821, i_2831, i_2832, i_3077, i_3085, i_3843, i_3849, i_3851, i_3852, i_4129, i_4353, i_4865, i_5121, i_5122, i_5123, i_6156, i_8192, i_12288, i_16383, i_32000, i_33280, i_49152, i_53247, i_60304, i_64000, i_64512, i_65521, i_65535, i_449838109, nI_add, pk_mul, pk_sub, nI_mm, nI_leI, nI_ltI, nI_eq, pk_div, jrem_N, jshl_N, jshr_N, jushr_N, jmin_N, jmax_N, an_1, an_3, an_7, an_15, an_31, an_63, an_127, an_255, an_1023, an_2047, an_16383, an_65535, nm, pfI, rdI, rdW, rdL, rdI2, rdW2, ldA_N, stA_N, stB_N, stZ_N, pfZ_0, pfZ_1, rtZ_0, rtZ_1, acp_N, Option.bind_some, wp_some_iff, true_and, and_true, false_and, and_false, or_true, true_or, or_false, false_or, not_true_eq_false, not_false_eq_true, if_true, if_false, if_pos, if_neg, lt_sub, le_sub, sub_lt3, sub_le3, Option.bind_assoc, u7]
  have x1 := ((h1.st (k := 11) (i := 3) (x := nI 1) rfl).st (k := 14) (i := 6) (x := w.1 7) rfl).st (k := 8) (i := 0) (x := nI 5) rfl
  have e2 : Fr FDc μ (setI (setI (setI m 28 11 (nI 1)) 28 14 (w.1 7)) 28 8 (nI 5)) := (((e1.mono (by intro c k h; omega)).pI (by omega)).pI (by omega)).pI (by omega)
  generalize setI (setI (setI m 28 11 (nI 1)) 28 14 (w.1 7)) 28 8 (nI 5) = m2 at *
  refine wp_bind (cl_ok 41 m2) (fun m3 ⟨h3, e3⟩ => ?_)
  refine wp_bind (p2_ok _ h3 (by rw [g1]; decide)) (fun m4 ⟨h4, e4⟩ => ?_)
  rw [lowB_N2 (by decide)] at h4
  refine wp_bind (pu_ok _ h4 (by rw [g1]; decide)) (fun m5 ⟨h5, e5⟩ => ?_)
  rw [byv_nI hv] at h5
  have e34 : Fr (FB 41) m2 m5 := (e3.tr' e4).tr' e5
  have x2 := ((x1.fr e34 (fun c k _ => by omega)).st (k := 9) (i := 1) (x := nI v) rfl).st (k := 10) (i := 2) (x := nI v) rfl
  have f5 : Fr (fun c _ => c = 28) m5 (setI (setI m5 28 9 (nI v)) 28 10 (nI v)) := (Fr.sI (by omega)).pI (by omega)
  have hct : CtC m5 [130, 0, v] := ⟨h5, Nat.le_refl 3⟩
  have hct5 := hct.fr f5 (fun c k _ => by omega)
  generalize setI (setI m5 28 9 (nI v)) 28 10 (nI v) = m6 at *
  refine wp_bind (ctl_C x2 hct5) (fun m7 ⟨h7, e7⟩ => wp_some ⟨rfl, h7, hct5.fr e7 (fun c k _ => by omega), ((e2.tr e34 (fun _ _ q => q) (by intro c k h; omega)).tr f5 (fun _ _ q => q) (by intro c k h; omega)).tr e7 (fun _ _ q => q) (by intro c k h; omega)⟩)
theorem n3 {n : Nat} (h : n < 4) : ¬ nI 3 < nI n := by rw [nI_ltI (by decide) (by omega)]; omega
theorem d0_M {μ : Mem} {t : Nat} {w : Wd} (hM : WM μ t w) (hI : WI w) (p2 : Int32) : wp (c286_193 (nI 0) p2 μ) (fun r => r.2 = nI 1 ∧ WM r.1 t (wd0 t w) ∧ Fr FDm2 μ r.1) := by
  unfold c286_193
  rw [i_3, if_neg (n3 (by decide))]
  refine wp_bind (lse_M hM hI) (fun m3 ⟨h3, e3⟩ => ?_)
  have u1 : m3.1 129 29 = w.1 1 := h3.1.a.2.1
  unfold c286_226 c286_243 c286_273
  simp (disch := omega) only [i_0, i_1, i_2, i_3, i_4, i_5, i_6, i_7, i_8, i_9, i_10, i_11, i_12, i_13, i_14, i_15, i_16, i_17, i_18, i_19, i_20, i_21, i_22, i_23, i_24, i_25, i_26, i_27, i_31, i_32, i_40, i_42, i_45, i_48, i_51, i_52, i_56, i_58, i_59, i_60, i_61, i_62, i_63, i_64, i_85, i_90, i_100, i_112, i_120, i_121, i_127, i_128, i_130, i_144, i_171, i_192, i_193, i_197, i_200, i_207, i_235, i_240, i_248, i_252, i_254, i_255, i_256, i_512, i_544, i_768, i_769, i_793, i_1000, i_1023, i_1024, i_1200, i_1538, i_1541, i_1545, i_2046, i_2047, i_2049, i_2060, i_2736, i_2737, i_2817, i_2818, i_2819, i_2820, i_2821, i_2831, i_2832, i_3077, i_3085, i_3843, i_3849, i_3851, i_3852, i_4129, i_4353, i_4865, i_5121, i_5122, i_5123, i_6156, i_8192, i_12288, i_16383, i_32000, i_33280, i_49152, i_53247, i_60304, i_64000, i_64512, i_65521, i_65535, i_449838109, nI_add, pk_mul, pk_sub, nI_mm, nI_leI, nI_ltI, nI_eq, pk_div, jrem_N, jshl_N, jshr_N, jushr_N, jmin_N, jmax_N, an_1, an_3, an_7, an_15, an_31, an_63, an_127, an_255, an_1023, an_2047, an_16383, an_65535, nm, pfI, rdI, rdW, rdL, rdI2, rdW2, ldA_N, stA_N, stB_N, stZ_N, pfZ_0, pfZ_1, rtZ_0, rtZ_1, acp_N, Option.bind_some, wp_some_iff, true_and, and_true, false_and, and_false, or_true, true_or, or_false, false_or, not_true_eq_false, not_false_eq_true, if_true, if_false, if_pos, if_neg, lt_sub, le_sub, sub_lt3, sub_le3, Option.bind_assoc, u1]
  have x3 := (((h3.st (k := 31) (i := 3) (x := nI 1) rfl (by decide)).st (k := 28) (i := 0) (x := nI 1) rfl (by decide)).st (k := 29) (i := 1) (x := w.1 1) rfl (by decide)).st (k := 30) (i := 2) (x := w.1 1) rfl (by decide)
  refine ⟨x3.cg (fun i hi => ?_) rfl, ((((e3.mono (by intro c k h; omega)).pI (by omega)).pI (by omega)).pI (by omega)).pI (by omega)⟩
  show upL (upL (upL (upL w.1 2 (w.1 1)) 9 (nI 0)) 3 (nI 1)) 0 (nI 1) i = upL (upL (upL (upL (upL (upL w.1 2 (w.1 1)) 9 (nI 0)) 3 (nI 1)) 0 (nI 1)) 1 (w.1 1)) 2 (w.1 1) i
  unfold upL
  repeat' split
  all_goals first | rfl | omega | (subst_vars; rfl)
theorem d1_M {μ : Mem} {t : Nat} {w : Wd} (hM : WM μ t w) (hI : WI w) (p2 : Int32) : wp (c286_193 (nI 1) p2 μ) (fun r => r.2 = nI 1 ∧ WM r.1 t (wd1 t w) ∧ Fr FDm2 μ r.1) := by
  unfold c286_193
  rw [i_3, if_neg (n3 (by decide))]
  refine wp_bind (lse_M hM hI) (fun m3 ⟨h3, e3⟩ => ?_)
  have u1 : m3.1 129 29 = w.1 1 := h3.1.a.2.1
  have u8 : m3.1 129 35 = w.1 7 := h3.1.a.2.2.2.2.2.2.2.1
  unfold c286_226 c286_243 c286_273 f274
  simp (disch := omega) only [i_0, i_1, i_2, i_3, i_4, i_5, i_6, i_7, i_8, i_9, i_10, i_11, i_12, i_13, i_14, i_15, i_16, i_17, i_18, i_19, i_20, i_21, i_22, i_23, i_24, i_25, i_26, i_27, i_31, i_32, i_40, i_42, i_45, i_48, i_51, i_52, i_56, i_58, i_59, i_60, i_61, i_62, i_63, i_64, i_85, i_90, i_100, i_112, i_120, i_121, i_127, i_128, i_130, i_144, i_171, i_192, i_193, i_197, i_200, i_207, i_235, i_240, i_248, i_252, i_254, i_255, i_256, i_512, i_544, i_768, i_769, i_793, i_1000, i_1023, i_1024, i_1200, i_1538, i_1541, i_1545, i_2046, i_2047, i_2049, i_2060, i_2736, i_2737, i_2817, i_2818, i_2819, i_2820, i_2821, i_2831, i_2832, i_3077, i_3085, i_3843, i_3849, i_3851, i_3852, i_4129, i_4353, i_4865, i_5121, i_5122, i_5123, i_6156, i_8192, i_12288, i_16383, i_32000, i_33280, i_49152, i_53247, i_60304, i_64000, i_64512, i_65521, i_65535, i_449838109, nI_add, pk_mul, pk_sub, nI_mm, nI_leI, nI_ltI, nI_eq, pk_div, jrem_N, jshl_N, jshr_N, jushr_N, jmin_N, jmax_N, an_1, an_3, an_7, an_15, an_31, an_63, an_127, an_255, an_1023, an_2047, an_16383, an_65535, nm, pfI, rdI, rdW, rdL, rdI2, rdW2, ldA_N, stA_N, stB_N, stZ_N, pfZ_0, pfZ_1, rtZ_0, rtZ_1, acp_N, Option.bind_some, wp_some_iff, true_and, and_true, false_and, and_false, or_true, true_or, or_false, false_or, not_true_eq_false, not_false_eq_true, if_true, if_false, if_pos, if_neg, lt_sub, le_sub, sub_lt3, sub_le3, Option.bind_assoc, u1, u8]
  have x3 := ((((h3.st (k := 31) (i := 3) (x := nI 1) rfl (by decide)).st (k := 28) (i := 0) (x := nI 4) rfl (by decide)).st (k := 29) (i := 1) (x := w.1 1) rfl (by decide)).st (k := 30) (i := 2) (x := w.1 1) rfl (by decide)).st (k := 34) (i := 6) (x := w.1 7) rfl (by decide)
  refine ⟨x3.cg (fun i hi => ?_) rfl, (((((e3.mono (by intro c k h; omega)).pI (by omega)).pI (by omega)).pI (by omega)).pI (by omega)).pI (by omega)⟩
  show upL (upL (upL (upL (upL w.1 2 (w.1 1)) 9 (nI 0)) 3 (nI 1)) 6 (w.1 7)) 0 (nI 4) i = upL (upL (upL (upL (upL (upL (upL w.1 2 (w.1 1)) 9 (nI 0)) 3 (nI 1)) 0 (nI 4)) 1 (w.1 1)) 2 (w.1 1)) 6 (w.1 7) i
  unfold upL
  repeat' split
  all_goals first | rfl | omega | (subst_vars; rfl)
theorem d2_M {μ : Mem} {t : Nat} {w : Wd} (hM : WM μ t w) (hI : WI w) (p2 : Int32) : wp (c286_193 (nI 2) p2 μ) (fun r => r.2 = nI 1 ∧ WM r.1 t (wd2 t w) ∧ CtM r.1 [0] ∧ Fr FDm2 μ r.1) := by
  unfold c286_193
  rw [i_3, if_neg (n3 (by decide))]
  refine wp_bind (lse_M hM hI) (fun m3 ⟨h3, e3⟩ => ?_)
  have u1 : m3.1 129 29 = w.1 1 := h3.1.a.2.1
  unfold c286_226 c286_243 c286_273 f274
  simp (disch := omega) only [i_0, i_1, i_2, i_3, i_4, i_5, i_6, i_7, i_8, i_9, i_10, i_11, i_12, i_13, i_14, i_15, i_16, i_17, i_18, i_19, i_20, i_21, i_22, i_23, i_24, i_25, i_26, i_27, i_31, i_32, i_40, i_42, i_45, i_48, i_51, i_52, i_56, i_58, i_59, i_60, i_61, i_62, i_63, i_64, i_85, i_90, i_100, i_112, i_120, i_121, i_127, i_128, i_130, i_144, i_171, i_192, i_193, i_197, i_200, i_207, i_235, i_240, i_248, i_252, i_254, i_255, i_256, i_512, i_544, i_768, i_769, i_793, i_1000, i_1023, i_1024, i_1200, i_1538, i_1541, i_1545, i_2046, i_2047, i_2049, i_2060, i_2736, i_2737, i_2817, i_2818, i_2819, i_2820, i_2821, i_2831, i_2832, i_3077, i_3085, i_3843, i_3849, i_3851, i_3852, i_4129, i_4353, i_4865, i_5121, i_5122, i_5123, i_6156, i_8192, i_12288, i_16383, i_32000, i_33280, i_49152, i_53247, i_60304, i_64000, i_64512, i_65521, i_65535, i_449838109, nI_add, pk_mul, pk_sub, nI_mm, nI_leI, nI_ltI, nI_eq, pk_div, jrem_N, jshl_N, jshr_N, jushr_N, jmin_N, jmax_N, an_1, an_3, an_7, an_15, an_31, an_63, an_127, an_255, an_1023, an_2047, an_16383, an_65535, nm, pfI, rdI, rdW, rdL, rdI2, rdW2, ldA_N, stA_N, stB_N, stZ_N, pfZ_0, pfZ_1, rtZ_0, rtZ_1, acp_N, Option.bind_some, wp_some_iff, true_and, and_true, false_and, and_false, or_true, true_or, or_false, false_or, not_true_eq_false, not_false_eq_true, if_true, if_false, if_pos, if_neg, lt_sub, le_sub, sub_lt3, sub_le3, Option.bind_assoc, u1]
  have x3 := (((h3.st (k := 31) (i := 3) (x := nI 1) rfl (by decide)).st (k := 28) (i := 0) (x := nI 5) rfl (by decide)).st (k := 29) (i := 1) (x := w.1 1) rfl (by decide)).st (k := 30) (i := 2) (x := w.1 1) rfl (by decide)
  have e5 : Fr FDm2 μ (setI (setI (setI (setI m3 129 31 (nI 1)) 129 28 (nI 5)) 129 29 (w.1 1)) 129 30 (w.1 1)) := ((((e3.mono (by intro c k h; omega)).pI (by omega)).pI (by omega)).pI (by omega)).pI (by omega)
  generalize setI (setI (setI (setI m3 129 31 (nI 1)) 129 28 (nI 5)) 129 29 (w.1 1)) 129 30 (w.1 1) = m4 at *
  have f6 : Fr (fun c k => c = 129 ∧ (k = 48 ∨ k = 49)) m4 (setI (setI m4 129 48 (nI 2)) 129 49 p2) := (Fr.sI (by omega)).pI (by omega)
  have x5 := x3.fr f6 (fun c k _ => by omega)
  have x5c : CtM (setI (setI m4 129 48 (nI 2)) 129 49 p2) [0] := Or.inl ⟨by simp (disch := omega) only [i_0, i_1, i_2, i_3, i_4, i_5, i_6, i_7, i_8, i_9, i_10, i_11, i_12, i_13, i_14, i_15, i_16, i_17, i_18, i_19, i_20, i_21, i_22, i_23, i_24, i_25, i_26, i_27, i_31, i_32, i_40, i_42, i_45, i_48, i_51, i_52, i_56, i_58, i_59, i_60, i_61, i_62, i_63, i_64, i_85, i_90, i_100, i_112, i_120, i_121, i_127, i_128, i_130, i_144, i_171, i_192, i_193, i_197, i_200, i_207, i_235, i_240, i_248, i_252, i_254, i_255, i_256, i_512, i_544, i_768, i_769, i_793, i_1000, i_1023, i_1024, i_1200, i_1538, i_1541, i_1545, i_2046, i_2047, i_2049, i_2060, i_2736, i_2737, i_2817, i_2818, i_2819, i_2820, i_2821, i_2831, i_2832, i_3077, i_3085, i_3843, i_3849, i_3851, i_3852, i_4129, i_4353, i_4865, i_5121, i_5122, i_5123, i_6156, i_8192, i_12288, i_16383, i_32000, i_33280, i_49152, i_53247, i_60304, i_64000, i_64512, i_65521, i_65535, i_449838109, nI_add, pk_mul, pk_sub, nI_mm, nI_leI, nI_ltI, nI_eq, pk_div, jrem_N, jshl_N, jshr_N, jushr_N, jmin_N, jmax_N, an_1, an_3, an_7, an_15, an_31, an_63, an_127, an_255, an_1023, an_2047, an_16383, an_65535, nm, pfI, rdI, rdW, rdL, rdI2, rdW2, ldA_N, stA_N, stB_N, stZ_N, pfZ_0, pfZ_1, rtZ_0, rtZ_1, acp_N, Option.bind_some, wp_some_iff, true_and, and_true, false_and, and_false, or_true, true_or, or_false, false_or, not_true_eq_false, not_false_eq_true, if_true, if_false, if_pos, if_neg, lt_sub, le_sub, sub_lt3, sub_le3, Option.bind_assoc], rfl⟩
  generalize setI (setI m4 129 48 (nI 2)) 129 49 p2 = m5 at *
  refine wp_bind (ctl_M x5 x5c) (fun m6 ⟨h6, e6⟩ => ?_)
  have u8 : m6.1 129 35 = w.1 7 := h6.1.a.2.2.2.2.2.2.2.1
  simp (disch := omega) only [i_0, i_1, i_2, i_3, i_4, i_5, i_6, i_7, i_8, i_9, i_10, i_11, i_12, i_13, i_14, i_15, i_16, i_17, i_18, i_19, i_20, i_21, i_22, i_23, i_24, i_25, i_26, i_27, i_31, i_32, i_40, i_42, i_45, i_48, i_51, i_52, i_56, i_58, i_59, i_60, i_61, i_62, i_63, i_64, i_85, i_90, i_100, i_112, i_120, i_121, i_127, i_128, i_130, i_144, i_171, i_192, i_193, i_197, i_200, i_207, i_235, i_240, i_248, i_252, i_254, i_255, i_256, i_512, i_544, i_768, i_769, i_793, i_1000, i_1023, i_1024, i_1200, i_1538, i_1541, i_1545, i_2046, i_2047, i_2049, i_2060, i_2736, i_2737, i_2817, i_2818, i_2819, i_2820, i_2821, i_2831, i_2832, i_3077, i_3085, i_3843, i_3849, i_3851, i_3852, i_4129, i_4353, i_4865, i_5121, i_5122, i_5123, i_6156, i_8192, i_12288, i_16383, i_32000, i_33280, i_49152, i_53247, i_60304, i_64000, i_64512, i_65521, i_65535, i_449838109, nI_add, pk_mul, pk_sub, nI_mm, nI_leI, nI_ltI, nI_eq, pk_div, jrem_N, jshl_N, jshr_N, jushr_N, jmin_N, jmax_N, an_1, an_3, an_7, an_15, an_31, an_63, an_127, an_255, an_1023, an_2047, an_16383, an_65535, nm, pfI, rdI, rdW, rdL, rdI2, rdW2, ldA_N, stA_N, stB_N, stZ_N, pfZ_0, pfZ_1, rtZ_0, rtZ_1, acp_N, Option.bind_some, wp_some_iff, true_and, and_true, false_and, and_false, or_true, true_or, or_false, false_or, not_true_eq_false, not_false_eq_true, if_true, if_false, if_pos, if_neg, lt_sub, le_sub, sub_lt3, sub_le3, Option.bind_assoc, u8]
  have x7 := h6.st (k := 34) (i := 6) (x := w.1 7) rfl (by decide)
  refine ⟨x7.cg (fun i hi => ?_) rfl, (x5c.fr e6 (fun k _ => by omega)).fr (P := fun c k => c = 129 ∧ k = 34) (Fr.sI ⟨rfl, rfl⟩) (fun k _ => by omega), ((e5.tr f6 (fun _ _ q => q) (by intro c k h; omega)).tr e6 (fun _ _ q => q) (by intro c k h; omega)).pI (by omega)⟩
  show upL (upL (upL (upL (upL w.1 2 (w.1 1)) 9 (nI 0)) 3 (nI 1)) 6 (w.1 7)) 0 (nI 5) i = upL (upL (upL (upL (upL (upL (upL w.1 2 (w.1 1)) 9 (nI 0)) 3 (nI 1)) 0 (nI 5)) 1 (w.1 1)) 2 (w.1 1)) 6 (w.1 7) i
  unfold upL
  repeat' split
  all_goals first | rfl | omega | (subst_vars; rfl)
theorem d3_M {μ : Mem} {t v : Nat} {w : Wd} (hM : WM μ t w) (hI : WI w) (hv : v < 256) : wp (c286_193 (nI 3) (nI v) μ) (fun r => r.2 = nI 1 ∧ WM r.1 t (wd3 t v w) ∧ CtM r.1 [130, 0, v] ∧ Fr FDm2 μ r.1) := by
  unfold c286_193
  rw [i_3, if_neg (n3 (by decide))]
  refine wp_bind (lse_M hM hI) (fun m3 ⟨h3, e3⟩ => ?_)
  unfold c286_226 c286_243 c286_273 f274
  simp (disch := omega) only [i_0, i_1, i_2, i_3, i_4, i_5, i_6, i_7, i_8, i_9, i_10, i_11, i_12, i_13, i_14, i_15, i_16, i_17, i_18, i_19, i_20, i_21, i_22, i_23, i_24, i_25, i_26, i_27, i_31, i_32, i_40, i_42, i_45, i_48, i_51, i_52, i_56, i_58, i_59, i_60, i_61, i_62, i_63, i_64, i_85, i_90, i_100, i_112, i_120, i_121, i_127, i_128, i_130, i_144, i_171, i_192, i_193, i_197, i_200, i_207, i_235, i_240, i_248, i_252, i_254, i_255, i_256, i_512, i_544, i_768, i_769, i_793, i_1000, i_1023, i_1024, i_1200, i_1538, i_1541, i_1545, i_2046, i_2047, i_2049, i_2060, i_2736, i_2737, i_2817, i_2818, i_2819, i_2820, i_2821, i_2831, i_2832, i_3077, i_3085, i_3843, i_3849, i_3851, i_3852, i_4129, i_4353, i_4865, i_5121, i_5122, i_5123, i_6156, i_8192, i_12288, i_16383, i_32000, i_33280, i_49152, i_53247, i_60304, i_64000, i_64512, i_65521, i_65535, i_449838109, nI_add, pk_mul, pk_sub, nI_mm, nI_leI, nI_ltI, nI_eq, pk_div, jrem_N, jshl_N, jshr_N, jushr_N, jmin_N, jmax_N, an_1, an_3, an_7, an_15, an_31, an_63, an_127, an_255, an_1023, an_2047, an_16383, an_65535, nm, pfI, rdI, rdW, rdL, rdI2, rdW2, ldA_N, stA_N, stB_N, stZ_N, pfZ_0, pfZ_1, rtZ_0, rtZ_1, acp_N, Option.bind_some, wp_some_iff, true_and, and_true, false_and, and_false, or_true, true_or, or_false, false_or, not_true_eq_false, not_false_eq_true, if_true, if_false, if_pos, if_neg, lt_sub, le_sub, sub_lt3, sub_le3, Option.bind_assoc]
  have x3 := (((h3.st (k := 31) (i := 3) (x := nI 1) rfl (by decide)).st (k := 28) (i := 0) (x := nI 5) rfl (by decide)).st (k := 29) (i := 1) (x := nI v) rfl (by decide)).st (k := 30) (i := 2) (x := nI v) rfl (by decide)
  have e5 : Fr FDm2 μ (setI (setI (setI (setI m3 129 31 (nI 1)) 129 28 (nI 5)) 129 29 (nI v)) 129 30 (nI v)) := ((((e3.mono (by intro c k h; omega)).pI (by omega)).pI (by omega)).pI (by omega)).pI (by omega)
  generalize setI (setI (setI (setI m3 129 31 (nI 1)) 129 28 (nI 5)) 129 29 (nI v)) 129 30 (nI v) = m4 at *
  have f6 : Fr (fun c k => c = 129 ∧ (k = 48 ∨ k = 49)) m4 (setI (setI m4 129 48 (nI 3)) 129 49 (nI v)) := (Fr.sI (by omega)).pI (by omega)
  have x5 := x3.fr f6 (fun c k _ => by omega)
  have x5c : CtM (setI (setI m4 129 48 (nI 3)) 129 49 (nI v)) [130, 0, v] := Or.inr ⟨by simp (disch := omega) only [i_0, i_1, i_2, i_3, i_4, i_5, i_6, i_7, i_8, i_9, i_10, i_11, i_12, i_13, i_14, i_15, i_16, i_17, i_18, i_19, i_20, i_21, i_22, i_23, i_24, i_25, i_26, i_27, i_31, i_32, i_40, i_42, i_45, i_48, i_51, i_52, i_56, i_58, i_59, i_60, i_61, i_62, i_63, i_64, i_85, i_90, i_100, i_112, i_120, i_121, i_127, i_128, i_130, i_144, i_171, i_192, i_193, i_197, i_200, i_207, i_235, i_240, i_248, i_252, i_254, i_255, i_256, i_512, i_544, i_768, i_769, i_793, i_1000, i_1023, i_1024, i_1200, i_1538, i_1541, i_1545, i_2046, i_2047, i_2049, i_2060, i_2736, i_2737, i_2817, i_2818, i_2819, i_2820, i_2821, i_2831, i_2832, i_3077, i_3085, i_3843, i_3849, i_3851, i_3852, i_4129, i_4353, i_4865, i_5121, i_5122, i_5123, i_6156, i_8192, i_12288, i_16383, i_32000, i_33280, i_49152, i_53247, i_60304, i_64000, i_64512, i_65521, i_65535, i_449838109, nI_add, pk_mul, pk_sub, nI_mm, nI_leI, nI_ltI, nI_eq, pk_div, jrem_N, jshl_N, jshr_N, jushr_N, jmin_N, jmax_N, an_1, an_3, an_7, an_15, an_31, an_63, an_127, an_255, an_1023, an_2047, an_16383, an_65535, nm, pfI, rdI, rdW, rdL, rdI2, rdW2, ldA_N, stA_N, stB_N, stZ_N, pfZ_0, pfZ_1, rtZ_0, rtZ_1, acp_N, Option.bind_some, wp_some_iff, true_and, and_true, false_and, and_false, or_true, true_or, or_false, false_or, not_true_eq_false, not_false_eq_true, if_true, if_false, if_pos, if_neg, lt_sub, le_sub, sub_lt3, sub_le3, Option.bind_assoc], v, hv, by simp (disch := omega) only [i_0, i_1, i_2, i_3, i_4, i_5, i_6, i_7, i_8, i_9, i_10, i_11, i_12, i_13, i_14, i_15, i_16, i_17, i_18, i_19, i_20, i_21, i_22, i_23, i_24, i_25, i_26, i_27, i_31, i_32, i_40, i_42, i_45, i_48, i_51, i_52, i_56, i_58, i_59, i_60, i_61, i_62, i_63, i_64, i_85, i_90, i_100, i_112, i_120, i_121, i_127, i_128, i_130, i_144, i_171, i_192, i_193, i_197, i_200, i_207, i_235, i_240, i_248, i_252, i_254, i_255, i_256, i_512, i_544, i_768, i_769, i_793, i_1000, i_1023, i_1024, i_1200, i_1538, i_1541, i_1545, i_2046, i_2047, i_2049, i_2060, i_2736, i_2737, i_2817, i_2818, i_2819, i_2820, i_2821, i_2831, i_2832, i_3077, i_3085, i_3843, i_3849, i_3851, i_3852, i_4129, i_4353, i_4865, i_5121, i_5122, i_5123, i_6156, i_8192, i_12288, i_16383, i_32000, i_33280, i_49152, i_53247, i_60304, i_64000, i_64512, i_65521, i_65535, i_449838109, nI_add, pk_mul, pk_sub, nI_mm, nI_leI, nI_ltI, nI_eq, pk_div, jrem_N, jshl_N, jshr_N, jushr_N, jmin_N, jmax_N, an_1, an_3, an_7, an_15, an_31, an_63, an_127, an_255, an_1023, an_2047, an_16383, an_65535, nm, pfI, rdI, rdW, rdL, rdI2, rdW2, ldA_N, stA_N, stB_N, stZ_N, pfZ_0, pfZ_1, rtZ_0, rtZ_1, acp_N, Option.bind_some, wp_some_iff, true_and, and_true, false_and, and_false, or_true, true_or, or_false, false_or, not_true_eq_false, not_false_eq_true, if_true, if_false, if_pos, if_neg, lt_sub, le_sub, sub_lt3, sub_le3, Option.bind_assoc], rfl⟩
  generalize setI (setI m4 129 48 (nI 3)) 129 49 (nI v) = m5 at *
  refine wp_bind (ctl_M x5 x5c) (fun m6 ⟨h6, e6⟩ => ?_)
  have u8 : m6.1 129 35 = w.1 7 := h6.1.a.2.2.2.2.2.2.2.1
  simp (disch := omega) only [i_0, i_1, i_2, i_3, i_4, i_5, i_6, i_7, i_8, i_9, i_10, i_11, i_12, i_13, i_14, i_15, i_16, i_17, i_18, i_19, i_20, i_21, i_22, i_23, i_24, i_25, i_26, i_27, i_31, i_32, i_40, i_42, i_45, i_48, i_51, i_52, i_56, i_58, i_59, i_60, i_61, i_62, i_63, i_64, i_85, i_90, i_100, i_112, i_120, i_121, i_127, i_128, i_130, i_144, i_171, i_192, i_193, i_197, i_200, i_207, i_235, i_240, i_248, i_252, i_254, i_255, i_256, i_512, i_544, i_768, i_769, i_793, i_1000, i_1023, i_1024, i_1200, i_1538, i_1541, i_1545, i_2046, i_2047, i_2049, i_2060, i_2736, i_2737, i_2817, i_2818, i_2819, i_2820, i_2821, i_2831, i_2832, i_3077, i_3085, i_3843, i_3849, i_3851, i_3852, i_4129, i_4353, i_4865, i_5121, i_5122, i_5123, i_6156, i_8192, i_12288, i_16383, i_32000, i_33280, i_49152, i_53247, i_60304, i_64000, i_64512, i_65521, i_65535, i_449838109, nI_add, pk_mul, pk_sub, nI_mm, nI_leI, nI_ltI, nI_eq, pk_div, jrem_N, jshl_N, jshr_N, jushr_N, jmin_N, jmax_N, an_1, an_3, an_7, an_15, an_31, an_63, an_127, an_255, an_1023, an_2047, an_16383, an_65535, nm, pfI, rdI, rdW, rdL, rdI2, rdW2, ldA_N, stA_N, stB_N, stZ_N, pfZ_0, pfZ_1, rtZ_0, rtZ_1, acp_N, Option.bind_some, wp_some_iff, true_and, and_true, false_and, and_false, or_true, true_or, or_false, false_or, not_true_eq_false, not_false_eq_true, if_true, if_false, if_pos, if_neg, lt_sub, le_sub, sub_lt3, sub_le3, Option.bind_assoc, u8]
  have x7 := h6.st (k := 34) (i := 6) (x := w.1 7) rfl (by decide)
  refine ⟨x7.cg (fun i hi => ?_) rfl, (x5c.fr e6 (fun k _ => by omega)).fr (P := fun c k => c = 129 ∧ k = 34) (Fr.sI ⟨rfl, rfl⟩) (fun k _ => by omega), ((e5.tr f6 (fun _ _ q => q) (by intro c k h; omega)).tr e6 (fun _ _ q => q) (by intro c k h; omega)).pI (by omega)⟩
  show upL (upL (upL (upL (upL (upL (upL w.1 2 (w.1 1)) 9 (nI 0)) 3 (nI 1)) 6 (w.1 7)) 0 (nI 5)) 1 (nI v)) 2 (nI v) i = upL (upL (upL (upL (upL (upL (upL w.1 2 (w.1 1)) 9 (nI 0)) 3 (nI 1)) 0 (nI 5)) 1 (nI v)) 2 (nI v)) 6 (w.1 7) i
  unfold upL
  repeat' split
  all_goals first | rfl | omega | (subst_vars; rfl)
def DirQ (μ : Mem) (t : Nat) (a : Int32) (r2 : Mem × Int32) : Prop := r2.2 = a ∧ (∃ w' cl', Snd r2.1 t w' cl') ∧ Fr FD μ r2.1
theorem st_6 {μ : Mem} {n : Nat} (hn : n < 4) (h : μ.1 28 8 = nI 6) : f151 (nI n) μ = some (μ, nI 1) := by
  unfold f151
  simp (disch := omega) only [i_0, i_1, i_2, i_3, i_4, i_5, i_6, i_7, i_8, i_9, i_10, i_11, i_12, i_13, i_14, i_15, i_16, i_17, i_18, i_19, i_20, i_21, i_22, i_23, i_24, i_25, i_26, i_27, i_31, i_32, i_40, i_42, i_45, i_48, i_51, i_52, i_56, i_58, i_59, i_60, i_61, i_62, i_63, i_64, i_85, i_90, i_100, i_112, i_120, i_121, i_127, i_128, i_130, i_144, i_171, i_192, i_193, i_197, i_200, i_207, i_235, i_240, i_248, i_252, i_254, i_255, i_256, i_512, i_544, i_768, i_769, i_793, i_1000, i_1023, i_1024, i_1200, i_1538, i_1541, i_1545, i_2046, i_2047, i_2049, i_2060, i_2736, i_2737, i_2817, i_2818, i_2819, i_2820, i_2821, i_2831, i_2832, i_3077, i_3085, i_3843, i_3849, i_3851, i_3852, i_4129, i_4353, i_4865, i_5121, i_5122, i_5123, i_6156, i_8192, i_12288, i_16383, i_32000, i_33280, i_49152, i_53247, i_60304, i_64000, i_64512, i_65521, i_65535, i_449838109, nI_add, pk_mul, pk_sub, nI_mm, nI_leI, nI_ltI, nI_eq, pk_div, jrem_N, jshl_N, jshr_N, jushr_N, jmin_N, jmax_N, an_1, an_3, an_7, an_15, an_31, an_63, an_127, an_255, an_1023, an_2047, an_16383, an_65535, nm, pfI, rdI, rdW, rdL, rdI2, rdW2, ldA_N, stA_N, stB_N, stZ_N, pfZ_0, pfZ_1, rtZ_0, rtZ_1, acp_N, Option.bind_some, wp_some_iff, true_and, and_true, false_and, and_false, or_true, true_or, or_false, false_or, not_true_eq_false, not_false_eq_true, if_true, if_false, if_pos, if_neg, lt_sub, le_sub, sub_lt3, sub_le3, Option.bind_assoc, h]
theorem st_n {μ : Mem} {n : Nat} (hn : n < 4) (h : ¬ μ.1 28 8 = nI 6) : f151 (nI n) μ = some (μ, nI 0) := by
  unfold f151
  simp (disch := omega) only [i_0, i_1, i_2, i_3, i_4, i_5, i_6, i_7, i_8, i_9, i_10, i_11, i_12, i_13, i_14, i_15, i_16, i_17, i_18, i_19, i_20, i_21, i_22, i_23, i_24, i_25, i_26, i_27, i_31, i_32, i_40, i_42, i_45, i_48, i_51, i_52, i_56, i_58, i_59, i_60, i_61, i_62, i_63, i_64, i_85, i_90, i_100, i_112, i_120, i_121, i_127, i_128, i_130, i_144, i_171, i_192, i_193, i_197, i_200, i_207, i_235, i_240, i_248, i_252, i_254, i_255, i_256, i_512, i_544, i_768, i_769, i_793, i_1000, i_1023, i_1024, i_1200, i_1538, i_1541, i_1545, i_2046, i_2047, i_2049, i_2060, i_2736, i_2737, i_2817, i_2818, i_2819, i_2820, i_2821, i_2831, i_2832, i_3077, i_3085, i_3843, i_3849, i_3851, i_3852, i_4129, i_4353, i_4865, i_5121, i_5122, i_5123, i_6156, i_8192, i_12288, i_16383, i_32000, i_33280, i_49152, i_53247, i_60304, i_64000, i_64512, i_65521, i_65535, i_449838109, nI_add, pk_mul, pk_sub, nI_mm, nI_leI, nI_ltI, nI_eq, pk_div, jrem_N, jshl_N, jshr_N, jushr_N, jmin_N, jmax_N, an_1, an_3, an_7, an_15, an_31, an_63, an_127, an_255, an_1023, an_2047, an_16383, an_65535, nm, pfI, rdI, rdW, rdL, rdI2, rdW2, ldA_N, stA_N, stB_N, stZ_N, pfZ_0, pfZ_1, rtZ_0, rtZ_1, acp_N, Option.bind_some, wp_some_iff, true_and, and_true, false_and, and_false, or_true, true_or, or_false, false_or, not_true_eq_false, not_false_eq_true, if_true, if_false, if_pos, if_neg, lt_sub, le_sub, sub_lt3, sub_le3, Option.bind_assoc, h]
theorem dir_no {μ : Mem} {t : Nat} {w : Wd} {cl : List Nat} (h : Snd μ t w cl) {p1 p2 : Int32} {a : Int32} (e1 : f223 p1 p2 μ = some (μ, a)) (e2 : f286 p1 p2 μ = some (μ, a)) : wp (f223 p1 p2 μ) (fun r => wp (f286 p1 p2 r.1) (DirQ μ t r.2)) := by
  rw [e1]
  refine wp_some ?_
  rw [e2]
  exact wp_some ⟨rfl, ⟨w, cl, h⟩, Fr.rf⟩
theorem dir0 {μ : Mem} {t : Nat} {w : Wd} {cl : List Nat} (h : Snd μ t w cl) (p2 : Int32) : wp (f223 (nI 0) p2 μ) (fun r => wp (f286 (nI 0) p2 r.1) (DirQ μ t r.2)) := by
  have hS := h
  obtain ⟨hC, hM, hJ, hc⟩ := h
  have z0 := hC.2.1.a.1
  have y0 := hM.1.a.1
  by_cases p6 : w.1 0 = nI 6
  · rw [dC_0, st_6 (by decide) (z0.trans p6), Option.bind_some, if_neg (show ¬ nI 1 = nI 0 by decide)]
    refine wp_bind (d0_C hC hJ.1 p2) (fun r ⟨a1, a2, a3⟩ => ?_)
    rw [a1, if_pos rfl]
    refine wp_some ?_
    have hM2 := hM.fr a3 (fun c k _ => by omega)
    dsimp only
    rw [dM_0, if_pos (hM2.1.a.1.trans p6)]
    refine wp_mono (d0_M hM2 hJ.1 p2) (fun r2 ⟨b1, b2, b3⟩ => ⟨b1, ⟨_, cl, a2.fr b3 (fun c k _ => by omega), b2, ⟨stZ_I (stZ_I (lse_I hJ.1) (by decide)) (by decide), hJ.2.1.of ⟨rfl, Or.inl rfl⟩, fun e => absurd (show nI 1 = nI 6 from e) (by decide), show nI 0 ≠ nI 5 ∧ nI 0 ≠ nI 6 by decide, show nI 1 ≠ nI 0 by decide⟩, fun e => absurd (show nI 1 = nI 5 from e) (by decide)⟩, a3.tr b3 (by intro c k h; omega) (by intro c k h; omega)⟩)
  · refine dir_no hS (a := -nI 2) ?_ ?_
    · rw [dC_0, st_n (by decide) (fun e => p6 (z0.symm.trans e)), Option.bind_some, if_pos rfl]
    · rw [dM_0, if_neg (fun e => p6 (y0.symm.trans e))]
theorem dir1 {μ : Mem} {t : Nat} {w : Wd} {cl : List Nat} (h : Snd μ t w cl) (p2 : Int32) : wp (f223 (nI 1) p2 μ) (fun r => wp (f286 (nI 1) p2 r.1) (DirQ μ t r.2)) := by
  have hS := h
  obtain ⟨hC, hM, hJ, hc⟩ := h
  have z0 := hC.2.1.a.1
  have y0 := hM.1.a.1
  by_cases p6 : w.1 0 = nI 6
  · rw [dC_1, st_6 (by decide) (z0.trans p6), Option.bind_some, if_neg (show ¬ nI 1 = nI 0 by decide)]
    refine wp_bind (d1_C hC hJ.1 p2) (fun r ⟨a1, a2, a3⟩ => ?_)
    rw [a1, if_pos rfl]
    refine wp_some ?_
    have hM2 := hM.fr a3 (fun c k _ => by omega)
    dsimp only
    rw [dM_1, if_pos (hM2.1.a.1.trans p6)]
    refine wp_mono (d1_M hM2 hJ.1 p2) (fun r2 ⟨b1, b2, b3⟩ => ⟨b1, ⟨_, cl, a2.fr b3 (fun c k _ => by omega), b2, ⟨stZ_I (stZ_I (stZ_I (lse_I hJ.1) (by decide)) (by decide)) (by decide), hJ.2.1.of ⟨rfl, Or.inr (Or.inr rfl)⟩, fun e => absurd (show nI 4 = nI 6 from e) (by decide), show nI 0 ≠ nI 5 ∧ nI 0 ≠ nI 6 by decide, show nI 4 ≠ nI 0 by decide⟩, fun e => absurd (show nI 4 = nI 5 from e) (by decide)⟩, a3.tr b3 (by intro c k h; omega) (by intro c k h; omega)⟩)
  · refine dir_no hS (a := -nI 2) ?_ ?_
    · rw [dC_1, st_n (by decide) (fun e => p6 (z0.symm.trans e)), Option.bind_some, if_pos rfl]
    · rw [dM_1, if_neg (fun e => p6 (y0.symm.trans e))]
theorem dir2 {μ : Mem} {t : Nat} {w : Wd} {cl : List Nat} (h : Snd μ t w cl) (p2 : Int32) : wp (f223 (nI 2) p2 μ) (fun r => wp (f286 (nI 2) p2 r.1) (DirQ μ t r.2)) := by
  have hS := h
  obtain ⟨hC, hM, hJ, hc⟩ := h
  have z0 := hC.2.1.a.1
  have y0 := hM.1.a.1
  by_cases p6 : w.1 0 = nI 6
  · rw [dC_2, st_6 (by decide) (z0.trans p6), Option.bind_some, if_neg (show ¬ nI 1 = nI 0 by decide)]
    refine wp_bind (d2_C hC hJ.1 p2) (fun r ⟨a1, a2, a3, a4⟩ => ?_)
    rw [a1, if_pos rfl]
    refine wp_some ?_
    have hM2 := hM.fr a4 (fun c k _ => by omega)
    dsimp only
    rw [dM_2, if_pos (hM2.1.a.1.trans p6)]
    refine wp_mono (d2_M hM2 hJ.1 p2) (fun r2 ⟨b1, b2, b3, b4⟩ => ⟨b1, ⟨_, [0], a2.fr b4 (fun c k _ => by omega), b2, ⟨stZ_I (stZ_I (stZ_I (lse_I hJ.1) (by decide)) (by decide)) (by decide), hJ.2.1.of ⟨rfl, Or.inr (Or.inr rfl)⟩, fun e => absurd (show nI 5 = nI 6 from e) (by decide), show nI 0 ≠ nI 5 ∧ nI 0 ≠ nI 6 by decide, show nI 5 ≠ nI 0 by decide⟩, fun _ => ⟨a3.fr b4 (fun c k _ => by omega), b3⟩⟩, a4.tr b4 (by intro c k h; omega) (by intro c k h; omega)⟩)
  · refine dir_no hS (a := -nI 2) ?_ ?_
    · rw [dC_2, st_n (by decide) (fun e => p6 (z0.symm.trans e)), Option.bind_some, if_pos rfl]
    · rw [dM_2, if_neg (fun e => p6 (y0.symm.trans e))]
theorem dir3 {μ : Mem} {t v : Nat} {w : Wd} {cl : List Nat} (h : Snd μ t w cl) (hv : v < 256) : wp (f223 (nI 3) (nI v) μ) (fun r => wp (f286 (nI 3) (nI v) r.1) (DirQ μ t r.2)) := by
  have hS := h
  obtain ⟨hC, hM, hJ, hc⟩ := h
  have z0 := hC.2.1.a.1
  have y0 := hM.1.a.1
  by_cases p6 : w.1 0 = nI 6
  · rw [dC_3 hv, st_6 (by decide) (z0.trans p6), Option.bind_some, if_neg (show ¬ nI 1 = nI 0 by decide)]
    refine wp_bind (d3_C hC hJ.1 hv) (fun r ⟨a1, a2, a3, a4⟩ => ?_)
    rw [a1, if_pos rfl]
    refine wp_some ?_
    have hM2 := hM.fr a4 (fun c k _ => by omega)
    dsimp only
    rw [dM_3 hv, if_pos (hM2.1.a.1.trans p6)]
    have hI : WI (wd3 t v w) := by
      obtain ⟨i1, i2, s, a, k, hs, ha, hk2, hz1, hz2, hz5, hsa⟩ := hJ.1
      exact ⟨Pok_nil, Pok_nil, v, v, k, hv, hv, hk2, rfl, rfl, hz5, by show v = (v + 0) % 256; omega⟩
    refine wp_mono (d3_M hM2 hJ.1 hv) (fun r2 ⟨b1, b2, b3, b4⟩ => ⟨b1, ⟨_, [130, 0, v], a2.fr b4 (fun c k _ => by omega), b2, ⟨hI, hJ.2.1.of ⟨rfl, Or.inr (Or.inr rfl)⟩, fun e => absurd (show nI 5 = nI 6 from e) (by decide), show nI 0 ≠ nI 5 ∧ nI 0 ≠ nI 6 by decide, show nI 5 ≠ nI 0 by decide⟩, fun _ => ⟨a3.fr b4 (fun c k _ => by omega), b3⟩⟩, a4.tr b4 (by intro c k h; omega) (by intro c k h; omega)⟩)
  · refine dir_no hS (a := -nI 2) ?_ ?_
    · rw [dC_3 hv, st_n (by decide) (fun e => p6 (z0.symm.trans e)), Option.bind_some, if_pos rfl]
    · rw [dM_3 hv, if_neg (fun e => p6 (y0.symm.trans e))]
theorem st_4 {μ : Mem} : f151 (nI 4) μ = some (μ, nI 1) := by
  unfold f151
  simp (disch := omega) only [i_0, i_1, i_2, i_3, i_4, i_5, i_6, i_7, i_8, i_9, i_10, i_11, i_12, i_13, i_14, i_15, i_16, i_17, i_18, i_19, i_20, i_21, i_22, i_23, i_24, i_25, i_26, i_27, i_31, i_32, i_40, i_42, i_45, i_48, i_51, i_52, i_56, i_58, i_59, i_60, i_61, i_62, i_63, i_64, i_85, i_90, i_100, i_112, i_120, i_121, i_127, i_128, i_130, i_144, i_171, i_192, i_193, i_197, i_200, i_207, i_235, i_240, i_248, i_252, i_254, i_255, i_256, i_512, i_544, i_768, i_769, i_793, i_1000, i_1023, i_1024, i_1200, i_1538, i_1541, i_1545, i_2046, i_2047, i_2049, i_2060, i_2736, i_2737, i_2817, i_2818, i_2819, i_2820, i_2821, i_2831, i_2832, i_3077, i_3085, i_3843, i_3849, i_3851, i_3852, i_4129, i_4353, i_4865, i_5121, i_5122, i_5123, i_6156, i_8192, i_12288, i_16383, i_32000, i_33280, i_49152, i_53247, i_60304, i_64000, i_64512, i_65521, i_65535, i_449838109, nI_add, pk_mul, pk_sub, nI_mm, nI_leI, nI_ltI, nI_eq, pk_div, jrem_N, jshl_N, jshr_N, jushr_N, jmin_N, jmax_N, an_1, an_3, an_7, an_15, an_31, an_63, an_127, an_255, an_1023, an_2047, an_16383, an_65535, nm, pfI, rdI, rdW, rdL, rdI2, rdW2, ldA_N, stA_N, stB_N, stZ_N, pfZ_0, pfZ_1, rtZ_0, rtZ_1, acp_N, Option.bind_some, wp_some_iff, true_and, and_true, false_and, and_false, or_true, true_or, or_false, false_or, not_true_eq_false, not_false_eq_true, if_true, if_false, if_pos, if_neg, lt_sub, le_sub, sub_lt3, sub_le3, Option.bind_assoc]
theorem dir4 {μ : Mem} {t : Nat} {w : Wd} {cl : List Nat} (h : Snd μ t w cl) (p2 : Int32) : wp (f223 (nI 4) p2 μ) (fun r => wp (f286 (nI 4) p2 r.1) (DirQ μ t r.2)) := by
  obtain ⟨hC, hM, hJ, hc⟩ := h
  rw [dC_4, st_4, Option.bind_some, if_neg (show ¬ nI 1 = nI 0 by decide)]
  unfold f152
  simp (disch := omega) only [i_0, i_1, i_2, i_3, i_4, i_5, i_6, i_7, i_8, i_9, i_10, i_11, i_12, i_13, i_14, i_15, i_16, i_17, i_18, i_19, i_20, i_21, i_22, i_23, i_24, i_25, i_26, i_27, i_31, i_32, i_40, i_42, i_45, i_48, i_51, i_52, i_56, i_58, i_59, i_60, i_61, i_62, i_63, i_64, i_85, i_90, i_100, i_112, i_120, i_121, i_127, i_128, i_130, i_144, i_171, i_192, i_193, i_197, i_200, i_207, i_235, i_240, i_248, i_252, i_254, i_255, i_256, i_512, i_544, i_768, i_769, i_793, i_1000, i_1023, i_1024, i_1200, i_1538, i_1541, i_1545, i_2046, i_2047, i_2049, i_2060, i_2736, i_2737, i_2817, i_2818, i_2819, i_2820, i_2821, i_2831, i_2832, i_3077, i_3085, i_3843, i_3849, i_3851, i_3852, i_4129, i_4353, i_4865, i_5121, i_5122, i_5123, i_6156, i_8192, i_12288, i_16383, i_32000, i_33280, i_49152, i_53247, i_60304, i_64000, i_64512, i_65521, i_65535, i_449838109, nI_add, pk_mul, pk_sub, nI_mm, nI_leI, nI_ltI, nI_eq, pk_div, jrem_N, jshl_N, jshr_N, jushr_N, jmin_N, jmax_N, an_1, an_3, an_7, an_15, an_31, an_63, an_127, an_255, an_1023, an_2047, an_16383, an_65535, nm, pfI, rdI, rdW, rdL, rdI2, rdW2, ldA_N, stA_N, stB_N, stZ_N, pfZ_0, pfZ_1, rtZ_0, rtZ_1, acp_N, Option.bind_some, wp_some_iff, true_and, and_true, false_and, and_false, or_true, true_or, or_false, false_or, not_true_eq_false, not_false_eq_true, if_true, if_false, if_pos, if_neg, lt_sub, le_sub, sub_lt3, sub_le3, Option.bind_assoc]
  refine wp_bind (alm_C hC hJ.1) (fun m ⟨h1, e1⟩ => ?_)
  simp (disch := omega) only [i_0, i_1, i_2, i_3, i_4, i_5, i_6, i_7, i_8, i_9, i_10, i_11, i_12, i_13, i_14, i_15, i_16, i_17, i_18, i_19, i_20, i_21, i_22, i_23, i_24, i_25, i_26, i_27, i_31, i_32, i_40, i_42, i_45, i_48, i_51, i_52, i_56, i_58, i_59, i_60, i_61, i_62, i_63, i_64, i_85, i_90, i_100, i_112, i_120, i_121, i_127, i_128, i_130, i_144, i_171, i_192, i_193, i_197, i_200, i_207, i_235, i_240, i_248, i_252, i_254, i_255, i_256, i_512, i_544, i_768, i_769, i_793, i_1000, i_1023, i_1024, i_1200, i_1538, i_1541, i_1545, i_2046, i_2047, i_2049, i_2060, i_2736, i_2737, i_2817, i_2818, i_2819, i_2820, i_2821, i_2831, i_2832, i_3077, i_3085, i_3843, i_3849, i_3851, i_3852, i_4129, i_4353, i_4865, i_5121, i_5122, i_5123, i_6156, i_8192, i_12288, i_16383, i_32000, i_33280, i_49152, i_53247, i_60304, i_64000, i_64512, i_65521, i_65535, i_449838109, nI_add, pk_mul, pk_sub, nI_mm, nI_leI, nI_ltI, nI_eq, pk_div, jrem_N, jshl_N, jshr_N, jushr_N, jmin_N, jmax_N, an_1, an_3, an_7, an_15, an_31, an_63, an_127, an_255, an_1023, an_2047, an_16383, an_65535, nm, pfI, rdI, rdW, rdL, rdI2, rdW2, ldA_N, stA_N, stB_N, stZ_N, pfZ_0, pfZ_1, rtZ_0, rtZ_1, acp_N, Option.bind_some, wp_some_iff, true_and, and_true, false_and, and_false, or_true, true_or, or_false, false_or, not_true_eq_false, not_false_eq_true, if_true, if_false, if_pos, if_neg, lt_sub, le_sub, sub_lt3, sub_le3, Option.bind_assoc]
  rw [dM_4]
  unfold c286_193
  rw [i_3, if_pos ((nI_ltI (by decide) (by decide)).mpr (by decide)), i_4, if_pos rfl, i_7]
  refine wp_bind (alm_M (hM.fr e1 (fun c k _ => by omega)) hJ.1) (fun m2 ⟨h2, e2⟩ => ?_)
  have hj := alm_J (t := t) (v := nI 7) hJ.1 hJ.2.1
  exact wp_some ⟨rfl, ⟨almW t w (nI 7), cl, h1.fr e2 (fun c k _ => by omega), h2, hj.1, fun e => absurd (hj.2.symm.trans e) (by decide)⟩, e1.tr e2 (by intro c k h; omega) (by intro c k h; omega)⟩
theorem dir5 {μ : Mem} {t : Nat} {w : Wd} {cl : List Nat} (h : Snd μ t w cl) (p2 : Int32) : wp (f223 (nI 5) p2 μ) (fun r => wp (f286 (nI 5) p2 r.1) (DirQ μ t r.2)) := by
  have hS := h
  obtain ⟨hC, hM, hJ, hc⟩ := h
  obtain ⟨z0, z1, z2, z3, z4, z5, z6, z7, z8, z9, z10⟩ := hC.2.1.a
  obtain ⟨y0, y1, y2, y3, y4, y5, y6, y7, y8, y9, y10⟩ := hM.1.a
  by_cases p6 : w.1 0 = nI 6
  · by_cases p9 : w.1 9 = nI 0
    · refine dir_no hS (a := -nI 2) ?_ ?_
      · rw [dC_5]
        unfold f151
        simp (disch := omega) only [i_0, i_1, i_2, i_3, i_4, i_5, i_6, i_7, i_8, i_9, i_10, i_11, i_12, i_13, i_14, i_15, i_16, i_17, i_18, i_19, i_20, i_21, i_22, i_23, i_24, i_25, i_26, i_27, i_31, i_32, i_40, i_42, i_45, i_48, i_51, i_52, i_56, i_58, i_59, i_60, i_61, i_62, i_63, i_64, i_85, i_90, i_100, i_112, i_120, i_121, i_127, i_128, i_130, i_144, i_171, i_192, i_193, i_197, i_200, i_207, i_235, i_240, i_248, i_252, i_254, i_255, i_256, i_512, i_544, i_768, i_769, i_793, i_1000, i_1023, i_1024, i_1200, i_1538, i_1541, i_1545, i_2046, i_2047, i_2049, i_2060, i_2736, i_2737, i_2817, i_2818, i_2819, i_2820, i_2821, i_2831, i_2832, i_3077, i_3085, i_3843, i_3849, i_3851, i_3852, i_4129, i_4353, i_4865, i_5121, i_5122, i_5123, i_6156, i_8192, i_12288, i_16383, i_32000, i_33280, i_49152, i_53247, i_60304, i_64000, i_64512, i_65521, i_65535, i_449838109, nI_add, pk_mul, pk_sub, nI_mm, nI_leI, nI_ltI, nI_eq, pk_div, jrem_N, jshl_N, jshr_N, jushr_N, jmin_N, jmax_N, an_1, an_3, an_7, an_15, an_31, an_63, an_127, an_255, an_1023, an_2047, an_16383, an_65535, nm, pfI, rdI, rdW, rdL, rdI2, rdW2, ldA_N, stA_N, stB_N, stZ_N, pfZ_0, pfZ_1, rtZ_0, rtZ_1, acp_N, Option.bind_some, wp_some_iff, true_and, and_true, false_and, and_false, or_true, true_or, or_false, false_or, not_true_eq_false, not_false_eq_true, if_true, if_false, if_pos, if_neg, lt_sub, le_sub, sub_lt3, sub_le3, Option.bind_assoc, z0, z9, p6, p9]
      · rw [dM_5, if_pos (y0.trans p6), if_pos (y9.trans p9)]
    · have e1 : f151 (nI 5) μ = some (μ, nI 1) := by
        unfold f151
        simp (disch := omega) only [i_0, i_1, i_2, i_3, i_4, i_5, i_6, i_7, i_8, i_9, i_10, i_11, i_12, i_13, i_14, i_15, i_16, i_17, i_18, i_19, i_20, i_21, i_22, i_23, i_24, i_25, i_26, i_27, i_31, i_32, i_40, i_42, i_45, i_48, i_51, i_52, i_56, i_58, i_59, i_60, i_61, i_62, i_63, i_64, i_85, i_90, i_100, i_112, i_120, i_121, i_127, i_128, i_130, i_144, i_171, i_192, i_193, i_197, i_200, i_207, i_235, i_240, i_248, i_252, i_254, i_255, i_256, i_512, i_544, i_768, i_769, i_793, i_1000, i_1023, i_1024, i_1200, i_1538, i_1541, i_1545, i_2046, i_2047, i_2049, i_2060, i_2736, i_2737, i_2817, i_2818, i_2819, i_2820, i_2821, i_2831, i_2832, i_3077, i_3085, i_3843, i_3849, i_3851, i_3852, i_4129, i_4353, i_4865, i_5121, i_5122, i_5123, i_6156, i_8192, i_12288, i_16383, i_32000, i_33280, i_49152, i_53247, i_60304, i_64000, i_64512, i_65521, i_65535, i_449838109, nI_add, pk_mul, pk_sub, nI_mm, nI_leI, nI_ltI, nI_eq, pk_div, jrem_N, jshl_N, jshr_N, jushr_N, jmin_N, jmax_N, an_1, an_3, an_7, an_15, an_31, an_63, an_127, an_255, an_1023, an_2047, an_16383, an_65535, nm, pfI, rdI, rdW, rdL, rdI2, rdW2, ldA_N, stA_N, stB_N, stZ_N, pfZ_0, pfZ_1, rtZ_0, rtZ_1, acp_N, Option.bind_some, wp_some_iff, true_and, and_true, false_and, and_false, or_true, true_or, or_false, false_or, not_true_eq_false, not_false_eq_true, if_true, if_false, if_pos, if_neg, lt_sub, le_sub, sub_lt3, sub_le3, Option.bind_assoc, z0, z9, p6, p9]
      have hI : WI (stZw (stZw (stZw w 0 (w.1 9)) 9 (nI 0)) 6 (w.1 7)) := stZ_I (stZ_I (stZ_I hJ.1 (by decide)) (by decide)) (by decide)
      rw [dC_5, e1, Option.bind_some, if_neg (show ¬ nI 1 = nI 0 by decide)]
      unfold f152
      simp (disch := omega) only [i_0, i_1, i_2, i_3, i_4, i_5, i_6, i_7, i_8, i_9, i_10, i_11, i_12, i_13, i_14, i_15, i_16, i_17, i_18, i_19, i_20, i_21, i_22, i_23, i_24, i_25, i_26, i_27, i_31, i_32, i_40, i_42, i_45, i_48, i_51, i_52, i_56, i_58, i_59, i_60, i_61, i_62, i_63, i_64, i_85, i_90, i_100, i_112, i_120, i_121, i_127, i_128, i_130, i_144, i_171, i_192, i_193, i_197, i_200, i_207, i_235, i_240, i_248, i_252, i_254, i_255, i_256, i_512, i_544, i_768, i_769, i_793, i_1000, i_1023, i_1024, i_1200, i_1538, i_1541, i_1545, i_2046, i_2047, i_2049, i_2060, i_2736, i_2737, i_2817, i_2818, i_2819, i_2820, i_2821, i_2831, i_2832, i_3077, i_3085, i_3843, i_3849, i_3851, i_3852, i_4129, i_4353, i_4865, i_5121, i_5122, i_5123, i_6156, i_8192, i_12288, i_16383, i_32000, i_33280, i_49152, i_53247, i_60304, i_64000, i_64512, i_65521, i_65535, i_449838109, nI_add, pk_mul, pk_sub, nI_mm, nI_leI, nI_ltI, nI_eq, pk_div, jrem_N, jshl_N, jshr_N, jushr_N, jmin_N, jmax_N, an_1, an_3, an_7, an_15, an_31, an_63, an_127, an_255, an_1023, an_2047, an_16383, an_65535, nm, pfI, rdI, rdW, rdL, rdI2, rdW2, ldA_N, stA_N, stB_N, stZ_N, pfZ_0, pfZ_1, rtZ_0, rtZ_1, acp_N, Option.bind_some, wp_some_iff, true_and, and_true, false_and, and_false, or_true, true_or, or_false, false_or, not_true_eq_false, not_false_eq_true, if_true, if_false, if_pos, if_neg, lt_sub, le_sub, sub_lt3, sub_le3, Option.bind_assoc, z7, z9]
      have x1 := ((hC.st (k := 8) (i := 0) (x := w.1 9) rfl).st (k := 17) (i := 9) (x := nI 0) rfl).st (k := 14) (i := 6) (x := w.1 7) rfl
      have f1 : Fr FG μ (setI (setI (setI μ 28 8 (w.1 9)) 28 17 (nI 0)) 28 14 (w.1 7)) := ((Fr.sI (by omega)).pI (by omega)).pI (by omega)
      generalize setI (setI (setI μ 28 8 (w.1 9)) 28 17 (nI 0)) 28 14 (w.1 7) = m1 at *
      refine wp_bind (go_C x1 hI) (fun m2 ⟨h2, e2⟩ => ?_)
      simp (disch := omega) only [i_0, i_1, i_2, i_3, i_4, i_5, i_6, i_7, i_8, i_9, i_10, i_11, i_12, i_13, i_14, i_15, i_16, i_17, i_18, i_19, i_20, i_21, i_22, i_23, i_24, i_25, i_26, i_27, i_31, i_32, i_40, i_42, i_45, i_48, i_51, i_52, i_56, i_58, i_59, i_60, i_61, i_62, i_63, i_64, i_85, i_90, i_100, i_112, i_120, i_121, i_127, i_128, i_130, i_144, i_171, i_192, i_193, i_197, i_200, i_207, i_235, i_240, i_248, i_252, i_254, i_255, i_256, i_512, i_544, i_768, i_769, i_793, i_1000, i_1023, i_1024, i_1200, i_1538, i_1541, i_1545, i_2046, i_2047, i_2049, i_2060, i_2736, i_2737, i_2817, i_2818, i_2819, i_2820, i_2821, i_2831, i_2832, i_3077, i_3085, i_3843, i_3849, i_3851, i_3852, i_4129, i_4353, i_4865, i_5121, i_5122, i_5123, i_6156, i_8192, i_12288, i_16383, i_32000, i_33280, i_49152, i_53247, i_60304, i_64000, i_64512, i_65521, i_65535, i_449838109, nI_add, pk_mul, pk_sub, nI_mm, nI_leI, nI_ltI, nI_eq, pk_div, jrem_N, jshl_N, jshr_N, jushr_N, jmin_N, jmax_N, an_1, an_3, an_7, an_15, an_31, an_63, an_127, an_255, an_1023, an_2047, an_16383, an_65535, nm, pfI, rdI, rdW, rdL, rdI2, rdW2, ldA_N, stA_N, stB_N, stZ_N, pfZ_0, pfZ_1, rtZ_0, rtZ_1, acp_N, Option.bind_some, wp_some_iff, true_and, and_true, false_and, and_false, or_true, true_or, or_false, false_or, not_true_eq_false, not_false_eq_true, if_true, if_false, if_pos, if_neg, lt_sub, le_sub, sub_lt3, sub_le3, Option.bind_assoc]
      have hM2 := hM.fr (f1.tr' e2) (fun c k _ => by omega)
      obtain ⟨v0, v1, v2, v3, v4, v5, v6, v7, v8, v9, v10⟩ := hM2.1.a
      rw [dM_5, if_pos (v0.trans p6), if_neg (fun e => p9 (v9.symm.trans e))]
      unfold c286_193 f274
      rw [i_3, if_pos ((nI_ltI (by decide) (by decide)).mpr (by decide)), i_4, if_neg (s_ne (by decide) (by decide) (by decide)), i_5, if_pos rfl, i_0, v9]
      have x2 := ((hM2.st (k := 28) (i := 0) (x := w.1 9) rfl (by decide)).st (k := 37) (i := 9) (x := nI 0) rfl (by decide)).st (k := 34) (i := 6) (x := w.1 7) rfl (by decide)
      have f3 : Fr FGM m2 (setI (setI (setI m2 129 28 (w.1 9)) 129 37 (nI 0)) 129 34 (w.1 7)) := ((Fr.sI (by omega)).pI (by omega)).pI (by omega)
      have e7 : (setI (setI m2 129 28 (w.1 9)) 129 37 (nI 0)).1 129 35 = w.1 7 := by simp (disch := omega) only [i_0, i_1, i_2, i_3, i_4, i_5, i_6, i_7, i_8, i_9, i_10, i_11, i_12, i_13, i_14, i_15, i_16, i_17, i_18, i_19, i_20, i_21, i_22, i_23, i_24, i_25, i_26, i_27, i_31, i_32, i_40, i_42, i_45, i_48, i_51, i_52, i_56, i_58, i_59, i_60, i_61, i_62, i_63, i_64, i_85, i_90, i_100, i_112, i_120, i_121, i_127, i_128, i_130, i_144, i_171, i_192, i_193, i_197, i_200, i_207, i_235, i_240, i_248, i_252, i_254, i_255, i_256, i_512, i_544, i_768, i_769, i_793, i_1000, i_1023, i_1024, i_1200, i_1538, i_1541, i_1545, i_2046, i_2047, i_2049, i_2060, i_2736, i_2737, i_2817, i_2818, i_2819, i_2820, i_2821, i_2831, i_2832, i_3077, i_3085, i_3843, i_3849, i_3851, i_3852, i_4129, i_4353, i_4865, i_5121, i_5122, i_5123, i_6156, i_8192, i_12288, i_16383, i_32000, i_33280, i_49152, i_53247, i_60304, i_64000, i_64512, i_65521, i_65535, i_449838109, nI_add, pk_mul, pk_sub, nI_mm, nI_leI, nI_ltI, nI_eq, pk_div, jrem_N, jshl_N, jshr_N, jushr_N, jmin_N, jmax_N, an_1, an_3, an_7, an_15, an_31, an_63, an_127, an_255, an_1023, an_2047, an_16383, an_65535, nm, pfI, rdI, rdW, rdL, rdI2, rdW2, ldA_N, stA_N, stB_N, stZ_N, pfZ_0, pfZ_1, rtZ_0, rtZ_1, acp_N, Option.bind_some, wp_some_iff, true_and, and_true, false_and, and_false, or_true, true_or, or_false, false_or, not_true_eq_false, not_false_eq_true, if_true, if_false, if_pos, if_neg, lt_sub, le_sub, sub_lt3, sub_le3, Option.bind_assoc, v7]
      rw [pfI, Option.bind_some, pfI, Option.bind_some, pfI, e7, Option.bind_some, Option.bind_some]
      generalize setI (setI (setI m2 129 28 (w.1 9)) 129 37 (nI 0)) 129 34 (w.1 7) = m3 at *
      refine wp_bind (go_M x2 hI) (fun m4 ⟨h4, e4⟩ => ?_)
      have e0 : (stZw (stZw (stZw w 0 (w.1 9)) 9 (nI 0)) 6 (w.1 7)).1 0 = w.1 9 := rfl
      have e9 : (stZw (stZw (stZw w 0 (w.1 9)) 9 (nI 0)) 6 (w.1 7)).1 9 = nI 0 := rfl
      have hj := go_J (t := t) hI (hJ.2.1.of ⟨rfl, Or.inr (Or.inr rfl)⟩) (by rw [e0]; exact hJ.2.2.2.1.2) (by rw [e0]; exact p9) (by rw [e9]; decide)
      exact wp_some ⟨rfl, ⟨_, cl, (h2.fr f3 (fun c k _ => by omega)).fr e4 (fun c k _ => by omega), h4, hj.1, fun e => absurd ((hj.2.trans e0).symm.trans e) hJ.2.2.2.1.1⟩, ((f1.tr' e2).tr f3 (by intro c k h; omega) (by intro c k h; omega)).tr e4 (fun _ _ q => q) (by intro c k h; omega)⟩
  · refine dir_no hS (a := -nI 2) ?_ ?_
    · rw [dC_5]
      unfold f151
      simp (disch := omega) only [i_0, i_1, i_2, i_3, i_4, i_5, i_6, i_7, i_8, i_9, i_10, i_11, i_12, i_13, i_14, i_15, i_16, i_17, i_18, i_19, i_20, i_21, i_22, i_23, i_24, i_25, i_26, i_27, i_31, i_32, i_40, i_42, i_45, i_48, i_51, i_52, i_56, i_58, i_59, i_60, i_61, i_62, i_63, i_64, i_85, i_90, i_100, i_112, i_120, i_121, i_127, i_128, i_130, i_144, i_171, i_192, i_193, i_197, i_200, i_207, i_235, i_240, i_248, i_252, i_254, i_255, i_256, i_512, i_544, i_768, i_769, i_793, i_1000, i_1023, i_1024, i_1200, i_1538, i_1541, i_1545, i_2046, i_2047, i_2049, i_2060, i_2736, i_2737, i_2817, i_2818, i_2819, i_2820, i_2821, i_2831, i_2832, i_3077, i_3085, i_3843, i_3849, i_3851, i_3852, i_4129, i_4353, i_4865, i_5121, i_5122, i_5123, i_6156, i_8192, i_12288, i_16383, i_32000, i_33280, i_49152, i_53247, i_60304, i_64000, i_64512, i_65521, i_65535, i_449838109, nI_add, pk_mul, pk_sub, nI_mm, nI_leI, nI_ltI, nI_eq, pk_div, jrem_N, jshl_N, jshr_N, jushr_N, jmin_N, jmax_N, an_1, an_3, an_7, an_15, an_31, an_63, an_127, an_255, an_1023, an_2047, an_16383, an_65535, nm, pfI, rdI, rdW, rdL, rdI2, rdW2, ldA_N, stA_N, stB_N, stZ_N, pfZ_0, pfZ_1, rtZ_0, rtZ_1, acp_N, Option.bind_some, wp_some_iff, true_and, and_true, false_and, and_false, or_true, true_or, or_false, false_or, not_true_eq_false, not_false_eq_true, if_true, if_false, if_pos, if_neg, lt_sub, le_sub, sub_lt3, sub_le3, Option.bind_assoc, z0, p6]
    · rw [dM_5, if_neg (fun e => p6 (y0.symm.trans e))]
theorem dir6 {μ : Mem} {t v : Nat} {w : Wd} {cl : List Nat} (h : Snd μ t w cl) (hv : v < 256) : wp (f223 (nI 6) (nI v) μ) (fun r => wp (f286 (nI 6) (nI v) r.1) (DirQ μ t r.2)) := by
  have hS := h
  obtain ⟨hC, hM, hJ, hc⟩ := h
  obtain ⟨z0, z1, z2, z3, z4, z5, z6, z7, z8, z9, z10⟩ := hC.2.1.a
  obtain ⟨y0, y1, y2, y3, y4, y5, y6, y7, y8, y9, y10⟩ := hM.1.a
  by_cases p6 : w.1 0 = nI 6
  · by_cases p9 : w.1 9 = nI 0
    · have hps := (hJ.2.2.1 p6).2 p9
      have e1 : f151 (nI 6) μ = some (μ, nI 1) := by
        unfold f151
        simp (disch := omega) only [i_0, i_1, i_2, i_3, i_4, i_5, i_6, i_7, i_8, i_9, i_10, i_11, i_12, i_13, i_14, i_15, i_16, i_17, i_18, i_19, i_20, i_21, i_22, i_23, i_24, i_25, i_26, i_27, i_31, i_32, i_40, i_42, i_45, i_48, i_51, i_52, i_56, i_58, i_59, i_60, i_61, i_62, i_63, i_64, i_85, i_90, i_100, i_112, i_120, i_121, i_127, i_128, i_130, i_144, i_171, i_192, i_193, i_197, i_200, i_207, i_235, i_240, i_248, i_252, i_254, i_255, i_256, i_512, i_544, i_768, i_769, i_793, i_1000, i_1023, i_1024, i_1200, i_1538, i_1541, i_1545, i_2046, i_2047, i_2049, i_2060, i_2736, i_2737, i_2817, i_2818, i_2819, i_2820, i_2821, i_2831, i_2832, i_3077, i_3085, i_3843, i_3849, i_3851, i_3852, i_4129, i_4353, i_4865, i_5121, i_5122, i_5123, i_6156, i_8192, i_12288, i_16383, i_32000, i_33280, i_49152, i_53247, i_60304, i_64000, i_64512, i_65521, i_65535, i_449838109, nI_add, pk_mul, pk_sub, nI_mm, nI_leI, nI_ltI, nI_eq, pk_div, jrem_N, jshl_N, jshr_N, jushr_N, jmin_N, jmax_N, an_1, an_3, an_7, an_15, an_31, an_63, an_127, an_255, an_1023, an_2047, an_16383, an_65535, nm, pfI, rdI, rdW, rdL, rdI2, rdW2, ldA_N, stA_N, stB_N, stZ_N, pfZ_0, pfZ_1, rtZ_0, rtZ_1, acp_N, Option.bind_some, wp_some_iff, true_and, and_true, false_and, and_false, or_true, true_or, or_false, false_or, not_true_eq_false, not_false_eq_true, if_true, if_false, if_pos, if_neg, lt_sub, le_sub, sub_lt3, sub_le3, Option.bind_assoc, z0, z9, p6, p9]
      rw [dC_6 hv, e1, Option.bind_some, if_neg (show ¬ nI 1 = nI 0 by decide)]
      unfold f152
      simp (disch := omega) only [i_0, i_1, i_2, i_3, i_4, i_5, i_6, i_7, i_8, i_9, i_10, i_11, i_12, i_13, i_14, i_15, i_16, i_17, i_18, i_19, i_20, i_21, i_22, i_23, i_24, i_25, i_26, i_27, i_31, i_32, i_40, i_42, i_45, i_48, i_51, i_52, i_56, i_58, i_59, i_60, i_61, i_62, i_63, i_64, i_85, i_90, i_100, i_112, i_120, i_121, i_127, i_128, i_130, i_144, i_171, i_192, i_193, i_197, i_200, i_207, i_235, i_240, i_248, i_252, i_254, i_255, i_256, i_512, i_544, i_768, i_769, i_793, i_1000, i_1023, i_1024, i_1200, i_1538, i_1541, i_1545, i_2046, i_2047, i_2049, i_2060, i_2736, i_2737, i_2817, i_2818, i_2819, i_2820, i_2821, i_2831, i_2832, i_3077, i_3085, i_3843, i_3849, i_3851, i_3852, i_4129, i_4353, i_4865, i_5121, i_5122, i_5123, i_6156, i_8192, i_12288, i_16383, i_32000, i_33280, i_49152, i_53247, i_60304, i_64000, i_64512, i_65521, i_65535, i_449838109, nI_add, pk_mul, pk_sub, nI_mm, nI_leI, nI_ltI, nI_eq, pk_div, jrem_N, jshl_N, jshr_N, jushr_N, jmin_N, jmax_N, an_1, an_3, an_7, an_15, an_31, an_63, an_127, an_255, an_1023, an_2047, an_16383, an_65535, nm, pfI, rdI, rdW, rdL, rdI2, rdW2, ldA_N, stA_N, stB_N, stZ_N, pfZ_0, pfZ_1, rtZ_0, rtZ_1, acp_N, Option.bind_some, wp_some_iff, true_and, and_true, false_and, and_false, or_true, true_or, or_false, false_or, not_true_eq_false, not_false_eq_true, if_true, if_false, if_pos, if_neg, lt_sub, le_sub, sub_lt3, sub_le3, Option.bind_assoc]
      have x1 := (hC.st (k := 9) (i := 1) (x := nI v) rfl).st (k := 10) (i := 2) (x := nI v) rfl
      have f1 : Fr FG μ (setI (setI μ 28 9 (nI v)) 28 10 (nI v)) := (Fr.sI (by omega)).pI (by omega)
      have hM2 := hM.fr f1 (fun c k _ => by omega)
      generalize setI (setI μ 28 9 (nI v)) 28 10 (nI v) = m1 at *
      rw [dM_6 hv, if_pos (hM2.1.a.1.trans p6), if_pos (hM2.1.a.2.2.2.2.2.2.2.2.2.1.trans p9)]
      unfold c286_193
      rw [i_3, if_pos ((nI_ltI (by decide) (by decide)).mpr (by decide)), i_4, if_neg (s_ne (by decide) (by decide) (by decide)), i_5, if_neg (s_ne (by decide) (by decide) (by decide)), i_6, if_pos rfl, pfI, Option.bind_some, pfI, Option.bind_some]
      have x2 := (hM2.st (k := 29) (i := 1) (x := nI v) rfl (by decide)).st (k := 30) (i := 2) (x := nI v) rfl (by decide)
      have f3 : Fr FGM m1 (setI (setI m1 129 29 (nI v)) 129 30 (nI v)) := (Fr.sI (by omega)).pI (by omega)
      obtain ⟨i1, i2, s, a, k, hs, ha, hk2, hz1, hz2, hz5, hsa⟩ := hJ.1
      refine wp_some ⟨rfl, ⟨stZw (stZw w 1 (nI v)) 2 (nI v), cl, x1.fr f3 (fun c k _ => by omega), x2, ⟨⟨i1, i2, v, v, k, hv, hv, hk2, rfl, rfl, hz5, ?_⟩, hJ.2.1, hJ.2.2⟩, fun e => absurd ((show w.1 0 = nI 5 from e).symm.trans p6) (by decide)⟩, f1.tr f3 (by intro c k h; omega) (by intro c k h; omega)⟩
      show v = (v + w.2.1.length) % 256
      rw [hps]
      show v = (v + 0) % 256
      omega
    · refine dir_no hS (a := -nI 2) ?_ ?_
      · rw [dC_6 hv]
        unfold f151
        simp (disch := omega) only [i_0, i_1, i_2, i_3, i_4, i_5, i_6, i_7, i_8, i_9, i_10, i_11, i_12, i_13, i_14, i_15, i_16, i_17, i_18, i_19, i_20, i_21, i_22, i_23, i_24, i_25, i_26, i_27, i_31, i_32, i_40, i_42, i_45, i_48, i_51, i_52, i_56, i_58, i_59, i_60, i_61, i_62, i_63, i_64, i_85, i_90, i_100, i_112, i_120, i_121, i_127, i_128, i_130, i_144, i_171, i_192, i_193, i_197, i_200, i_207, i_235, i_240, i_248, i_252, i_254, i_255, i_256, i_512, i_544, i_768, i_769, i_793, i_1000, i_1023, i_1024, i_1200, i_1538, i_1541, i_1545, i_2046, i_2047, i_2049, i_2060, i_2736, i_2737, i_2817, i_2818, i_2819, i_2820, i_2821, i_2831, i_2832, i_3077, i_3085, i_3843, i_3849, i_3851, i_3852, i_4129, i_4353, i_4865, i_5121, i_5122, i_5123, i_6156, i_8192, i_12288, i_16383, i_32000, i_33280, i_49152, i_53247, i_60304, i_64000, i_64512, i_65521, i_65535, i_449838109, nI_add, pk_mul, pk_sub, nI_mm, nI_leI, nI_ltI, nI_eq, pk_div, jrem_N, jshl_N, jshr_N, jushr_N, jmin_N, jmax_N, an_1, an_3, an_7, an_15, an_31, an_63, an_127, an_255, an_1023, an_2047, an_16383, an_65535, nm, pfI, rdI, rdW, rdL, rdI2, rdW2, ldA_N, stA_N, stB_N, stZ_N, pfZ_0, pfZ_1, rtZ_0, rtZ_1, acp_N, Option.bind_some, wp_some_iff, true_and, and_true, false_and, and_false, or_true, true_or, or_false, false_or, not_true_eq_false, not_false_eq_true, if_true, if_false, if_pos, if_neg, lt_sub, le_sub, sub_lt3, sub_le3, Option.bind_assoc, z0, z9, p6, p9]
      · rw [dM_6 hv, if_pos (y0.trans p6), if_neg (fun e => p9 (y9.symm.trans e))]
  · refine dir_no hS (a := -nI 2) ?_ ?_
    · rw [dC_6 hv]
      unfold f151
      simp (disch := omega) only [i_0, i_1, i_2, i_3, i_4, i_5, i_6, i_7, i_8, i_9, i_10, i_11, i_12, i_13, i_14, i_15, i_16, i_17, i_18, i_19, i_20, i_21, i_22, i_23, i_24, i_25, i_26, i_27, i_31, i_32, i_40, i_42, i_45, i_48, i_51, i_52, i_56, i_58, i_59, i_60, i_61, i_62, i_63, i_64, i_85, i_90, i_100, i_112, i_120, i_121, i_127, i_128, i_130, i_144, i_171, i_192, i_193, i_197, i_200, i_207, i_235, i_240, i_248, i_252, i_254, i_255, i_256, i_512, i_544, i_768, i_769, i_793, i_1000, i_1023, i_1024, i_1200, i_1538, i_1541, i_1545, i_2046, i_2047, i_2049, i_2060, i_2736, i_2737, i_2817, i_2818, i_2819, i_2820, i_2821, i_2831, i_2832, i_3077, i_3085, i_3843, i_3849, i_3851, i_3852, i_4129, i_4353, i_4865, i_5121, i_5122, i_5123, i_6156, i_8192, i_12288, i_16383, i_32000, i_33280, i_49152, i_53247, i_60304, i_64000, i_64512, i_65521, i_65535, i_449838109, nI_add, pk_mul, pk_sub, nI_mm, nI_leI, nI_ltI, nI_eq, pk_div, jrem_N, jshl_N, jshr_N, jushr_N, jmin_N, jmax_N, an_1, an_3, an_7, an_15, an_31, an_63, an_127, an_255, an_1023, an_2047, an_16383, an_65535, nm, pfI, rdI, rdW, rdL, rdI2, rdW2, ldA_N, stA_N, stB_N, stZ_N, pfZ_0, pfZ_1, rtZ_0, rtZ_1, acp_N, Option.bind_some, wp_some_iff, true_and, and_true, false_and, and_false, or_true, true_or, or_false, false_or, not_true_eq_false, not_false_eq_true, if_true, if_false, if_pos, if_neg, lt_sub, le_sub, sub_lt3, sub_le3, Option.bind_assoc, z0, p6]
    · rw [dM_6 hv, if_neg (fun e => p6 (y0.symm.trans e))]
def KV (n : Nat) (x : Int32) : Prop := ∃ v, v ≤ n ∧ x = nI v
theorem dirS {μ : Mem} {t k i : Nat} {w : Wd} {cl : List Nat} {x : Int32} (h : Snd μ t w cl) (hk : k = 8 + i) (hi : i = 4 ∨ i = 5 ∨ i = 7 ∨ i = 8) (h5 : i = 5 → KV 32 x) (h7 : i = 7 → KV 1000 x) : (∃ w' cl', Snd (setI (setI μ 28 k x) 129 (k + 20) x) t w' cl') ∧ Fr FD μ (setI (setI μ 28 k x) 129 (k + 20) x) := by
  subst hk
  obtain ⟨hC, hM, hJ, hc⟩ := h
  have f1 : Fr (fun c k' => c = 28 ∧ k' = 8 + i) μ (setI μ 28 (8 + i) x) := Fr.sI ⟨rfl, rfl⟩
  have f2 : Fr (fun c k' => c = 129 ∧ k' = 8 + i + 20) (setI μ 28 (8 + i) x) (setI (setI μ 28 (8 + i) x) 129 (8 + i + 20) x) := Fr.sI ⟨rfl, rfl⟩
  have xC := (hC.st (k := 8 + i) (x := x) rfl).fr f2 (fun c k' _ => by omega)
  have xM := (hM.fr f1 (fun c k' _ => by omega)).st (k := 8 + i + 20) (i := i) (x := x) (by omega) (by omega)
  refine ⟨⟨stZw w i x, cl, xC, xM, ⟨?_, ⟨?_, ?_⟩, fun e => ?_, ?_, ?_⟩, fun e => ?_⟩, f1.tr f2 (by intro c k h; omega) (by intro c k h; omega)⟩
  · obtain ⟨i1, i2, s, a, k', hs, ha, hk2, hz1, hz2, hz5, hsa⟩ := hJ.1
    by_cases e : i = 5
    · obtain ⟨v, hv, rfl⟩ := h5 e
      exact ⟨i1, i2, s, a, v, hs, ha, hv, by show upL _ _ _ 1 = _; rw [upL_o (by omega)]; exact hz1, by show upL _ _ _ 2 = _; rw [upL_o (by omega)]; exact hz2, by show upL _ _ _ 5 = _; rw [e, upL_s], hsa⟩
    · exact stZ_I hJ.1 (by omega)
  · show ∃ n, n ≤ 1000 ∧ upL _ _ _ 6 = _
    rw [upL_o (by omega)]
    exact hJ.2.1.1
  · show ∃ n, n ≤ 1000 ∧ upL _ _ _ 7 = _
    by_cases e : i = 7
    · rw [e, upL_s]
      exact h7 e
    · rw [upL_o (by omega)]
      exact hJ.2.1.2
  · have e' : w.1 0 = nI 6 := by rw [← e]; exact (upL_o (by omega)).symm
    have := hJ.2.2.1 e'
    refine ⟨by show upL _ _ _ 6 = _; rw [upL_o (by omega)]; exact this.1, fun q => this.2 ?_⟩
    rw [← q]
    exact (upL_o (by omega)).symm
  · show upL _ _ _ 9 ≠ _ ∧ upL _ _ _ 9 ≠ _
    rw [upL_o (by omega)]
    exact hJ.2.2.2.1
  · show upL _ _ _ 0 ≠ _
    rw [upL_o (by omega)]
    exact hJ.2.2.2.2
  · have e' : w.1 0 = nI 5 := by rw [← e]; exact (upL_o (by omega)).symm
    have := hc e'
    exact ⟨(this.1.fr f1 (fun c k' _ => by omega)).fr f2 (fun c k' _ => by omega), (this.2.fr f1 (fun k' _ => by omega)).fr f2 (fun k' _ => by omega)⟩
abbrev FDW : Nat → Nat → Prop := fun c k => FD c k ∨ c = 9 ∧ k = 16 ∨ c = 129 ∧ k = 24
theorem direct_CM {μ : Mem} {t : Nat} {w : Wd} {cl : List Nat} (h : Snd μ t w cl) (hu : UW μ) (p1 p2 : Int32) : wp (f223 p1 p2 μ) (fun r => wp (f286 p1 p2 r.1) (fun r2 => r2.2 = r.2 ∧ (∃ w' cl', Snd r2.1 t w' cl') ∧ UW r2.1 ∧ Fr FDW μ r2.1)) := by
  have lift : ∀ q1 q2, wp (f223 q1 q2 μ) (fun r => wp (f286 q1 q2 r.1) (DirQ μ t r.2)) → wp (f223 q1 q2 μ) (fun r => wp (f286 q1 q2 r.1) (fun r2 => r2.2 = r.2 ∧ (∃ w' cl', Snd r2.1 t w' cl') ∧ UW r2.1 ∧ Fr FDW μ r2.1)) := by
    intro q1 q2 H
    exact wp_mono H (fun r H2 => wp_mono H2 (fun r2 ⟨a1, a2, a3⟩ => ⟨a1, a2, hu.fr a3 (by omega) (by omega), a3.mono (fun c k q => Or.inl q)⟩))
  have no : ∀ q1 q2, f223 q1 q2 μ = some (μ, -nI 1) ∧ f286 q1 q2 μ = some (μ, -nI 1) → wp (f223 q1 q2 μ) (fun r => wp (f286 q1 q2 r.1) (fun r2 => r2.2 = r.2 ∧ (∃ w' cl', Snd r2.1 t w' cl') ∧ UW r2.1 ∧ Fr FDW μ r2.1)) := fun q1 q2 e => lift _ _ (dir_no h e.1 e.2)
  have sets : ∀ (n k i v : Nat), k = 8 + i → (i = 4 ∨ i = 5 ∨ i = 7 ∨ i = 8) → (i = 5 → v ≤ 32) → (i = 7 → v ≤ 1000) → (∀ m : Mem, f223 (nI n) (nI v) m = some (setI m 28 k (nI v), nI 1) ∧ f286 (nI n) (nI v) m = some (setI m 129 (k + 20) (nI v), nI 1)) → wp (f223 (nI n) (nI v) μ) (fun r => wp (f286 (nI n) (nI v) r.1) (fun r2 => r2.2 = r.2 ∧ (∃ w' cl', Snd r2.1 t w' cl') ∧ UW r2.1 ∧ Fr FDW μ r2.1)) := by
    intro n k i v a1 a2 a3 a4 e
    have a5 := dirS (x := nI v) h a1 a2 (fun q => ⟨v, a3 q, rfl⟩) (fun q => ⟨v, a4 q, rfl⟩)
    rw [(e μ).1]
    refine wp_some ?_
    dsimp only
    rw [(e _).2]
    exact wp_some ⟨rfl, a5.1, hu.fr a5.2 (by omega) (by omega), a5.2.mono (fun c k q => Or.inl q)⟩
  rcases neg_or p1 with hneg | ⟨n, hn, rfl⟩
  · exact no _ _ (d_neg hneg p2 μ)
  · by_cases q12 : 12 ≤ n
    · exact no _ _ (d_big q12 hn p2 μ)
    · have cs : n = 0 ∨ n = 1 ∨ n = 2 ∨ n = 3 ∨ n = 4 ∨ n = 5 ∨ n = 6 ∨ n = 7 ∨ n = 8 ∨ n = 9 ∨ n = 10 ∨ n = 11 := by omega
      have cv : ∀ lo hi : Nat, lo < 2 ^ 30 → (p2 < nI lo ∨ ∃ v, v < 2 ^ 31 ∧ hi < v ∧ p2 = nI v) ∨ ∃ v, lo ≤ v ∧ v ≤ hi ∧ p2 = nI v := by
        intro lo hi hlo
        rcases neg_or p2 with hneg | ⟨v, hv, e⟩
        · by_cases z : lo = 0
          · exact Or.inl (Or.inl (by rw [z]; exact hneg))
          · exact Or.inl (Or.inl (lt0_lt hneg (by omega) (by omega)))
        · by_cases z1 : v < lo
          · exact Or.inl (Or.inl (by rw [e]; exact (nI_ltI (by omega) (by omega)).mpr z1))
          · by_cases z2 : hi < v
            · exact Or.inl (Or.inr ⟨v, hv, z2, e⟩)
            · exact Or.inr ⟨v, by omega, by omega, e⟩
      rcases cs with rfl | rfl | rfl | rfl | rfl | rfl | rfl | rfl | rfl | rfl | rfl | rfl
      · exact lift _ _ (dir0 h p2)
      · exact lift _ _ (dir1 h p2)
      · exact lift _ _ (dir2 h p2)
      · rcases cv 0 255 (by decide) with q | ⟨v, _, q, rfl⟩
        · exact no _ _ (d_bad3 q μ)
        · exact lift _ _ (dir3 h (by omega))
      · exact lift _ _ (dir4 h p2)
      · exact lift _ _ (dir5 h p2)
      · rcases cv 0 255 (by decide) with q | ⟨v, _, q, rfl⟩
        · exact no _ _ (d_bad6 q μ)
        · exact lift _ _ (dir6 h (by omega))
      · rcases cv 1 32 (by decide) with q | ⟨v, q1, q2, rfl⟩
        · exact no _ _ (d_bad7 q μ)
        · exact sets 7 13 5 v rfl (by omega) (fun _ => q2) (fun e => by omega) (fun m => d_7 q1 q2 m)
      · rcases cv 1 1000 (by decide) with q | ⟨v, q1, q2, rfl⟩
        · exact no _ _ (d_bad8 q μ)
        · exact sets 8 15 7 v rfl (by omega) (fun e => by omega) (fun _ => q2) (fun m => d_8 q1 q2 m)
      · rcases cv 1 15 (by decide) with q | ⟨v, q1, q2, rfl⟩
        · exact no _ _ (d_bad9 q μ)
        · exact sets 9 12 4 v rfl (by omega) (fun e => by omega) (fun e => by omega) (fun m => d_9 q1 q2 m)
      · rcases cv 0 1 (by decide) with q | ⟨v, q1, q2, rfl⟩
        · exact no _ _ (d_bad10 q μ)
        · exact sets 10 16 8 v rfl (by omega) (fun e => by omega) (fun e => by omega) (fun m => d_10 q1 q2 m)
      · rcases cv 2 254 (by decide) with q | ⟨v, q1, q2, rfl⟩
        · exact no _ _ (d_bad11 q μ)
        · by_cases q3 : v % 2 = 0
          · rw [(d_11 q1 q2 q3 μ).1]
            refine wp_some ?_
            dsimp only
            rw [(d_11 q1 q2 q3 _).2]
            have f1 : Fr (fun c k => c = 9 ∧ k = 16 ∨ c = 129 ∧ k = 24) μ (setI (setI μ 9 16 (nI v)) 129 24 (nI v)) := (Fr.sI (by omega)).pI (by omega)
            exact wp_some ⟨rfl, ⟨w, cl, h.fr f1 (fun c k _ => by omega)⟩, ⟨v, by omega, by omega, q3, by simp (disch := omega) only [i_0, i_1, i_2, i_3, i_4, i_5, i_6, i_7, i_8, i_9, i_10, i_11, i_12, i_13, i_14, i_15, i_16, i_17, i_18, i_19, i_20, i_21, i_22, i_23, i_24, i_25, i_26, i_27, i_31, i_32, i_40, i_42, i_45, i_48, i_51, i_52, i_56, i_58, i_59, i_60, i_61, i_62, i_63, i_64, i_85, i_90, i_100, i_112, i_120, i_121, i_127, i_128, i_130, i_144, i_171, i_192, i_193, i_197, i_200, i_207, i_235, i_240, i_248, i_252, i_254, i_255, i_256, i_512, i_544, i_768, i_769, i_793, i_1000, i_1023, i_1024, i_1200, i_1538, i_1541, i_1545, i_2046, i_2047, i_2049, i_2060, i_2736, i_2737, i_2817, i_2818, i_2819, i_2820, i_2821, i_2831, i_2832, i_3077, i_3085, i_3843, i_3849, i_3851, i_3852, i_4129, i_4353, i_4865, i_5121, i_5122, i_5123, i_6156, i_8192, i_12288, i_16383, i_32000, i_33280, i_49152, i_53247, i_60304, i_64000, i_64512, i_65521, i_65535, i_449838109, nI_add, pk_mul, pk_sub, nI_mm, nI_leI, nI_ltI, nI_eq, pk_div, jrem_N, jshl_N, jshr_N, jushr_N, jmin_N, jmax_N, an_1, an_3, an_7, an_15, an_31, an_63, an_127, an_255, an_1023, an_2047, an_16383, an_65535, nm, pfI, rdI, rdW, rdL, rdI2, rdW2, ldA_N, stA_N, stB_N, stZ_N, pfZ_0, pfZ_1, rtZ_0, rtZ_1, acp_N, Option.bind_some, wp_some_iff, true_and, and_true, false_and, and_false, or_true, true_or, or_false, false_or, not_true_eq_false, not_false_eq_true, if_true, if_false, if_pos, if_neg, lt_sub, le_sub, sub_lt3, sub_le3, Option.bind_assoc], by simp (disch := omega) only [i_0, i_1, i_2, i_3, i_4, i_5, i_6, i_7, i_8, i_9, i_10, i_11, i_12, i_13, i_14, i_15, i_16, i_17, i_18, i_19, i_20, i_21, i_22, i_23, i_24, i_25, i_26, i_27, i_31, i_32, i_40, i_42, i_45, i_48, i_51, i_52, i_56, i_58, i_59, i_60, i_61, i_62, i_63, i_64, i_85, i_90, i_100, i_112, i_120, i_121, i_127, i_128, i_130, i_144, i_171, i_192, i_193, i_197, i_200, i_207, i_235, i_240, i_248, i_252, i_254, i_255, i_256, i_512, i_544, i_768, i_769, i_793, i_1000, i_1023, i_1024, i_1200, i_1538, i_1541, i_1545, i_2046, i_2047, i_2049, i_2060, i_2736, i_2737, i_2817, i_2818, i_2819, i_2820, i_2821, i_2831, i_2832, i_3077, i_3085, i_3843, i_3849, i_3851, i_3852, i_4129, i_4353, i_4865, i_5121, i_5122, i_5123, i_6156, i_8192, i_12288, i_16383, i_32000, i_33280, i_49152, i_53247, i_60304, i_64000, i_64512, i_65521, i_65535, i_449838109, nI_add, pk_mul, pk_sub, nI_mm, nI_leI, nI_ltI, nI_eq, pk_div, jrem_N, jshl_N, jshr_N, jushr_N, jmin_N, jmax_N, an_1, an_3, an_7, an_15, an_31, an_63, an_127, an_255, an_1023, an_2047, an_16383, an_65535, nm, pfI, rdI, rdW, rdL, rdI2, rdW2, ldA_N, stA_N, stB_N, stZ_N, pfZ_0, pfZ_1, rtZ_0, rtZ_1, acp_N, Option.bind_some, wp_some_iff, true_and, and_true, false_and, and_false, or_true, true_or, or_false, false_or, not_true_eq_false, not_false_eq_true, if_true, if_false, if_pos, if_neg, lt_sub, le_sub, sub_lt3, sub_le3, Option.bind_assoc]⟩, f1.mono (fun c k q => Or.inr q)⟩
          · exact no _ _ (d_odd q1 q2 (by omega) μ)
/-! machine -/
theorem mkd_C {μ : Mem} {ps : List Pk} (h : Shf μ 29 ps) (hm : ∀ i, i < ps.length → (pk ps i).2.2 = nI 0 ∨ (pk ps i).2.2 = nI 1) : wp (f156 μ) (fun r => r = (μ, nI (mkN ps ps.length))) := by
  have hl := h.len
  have g : gln (29 + 2) = 32 := gl_31
  unfold f156 l156_4
  simp (disch := omega) only [i_0, i_1, i_2, i_3, i_4, i_5, i_6, i_7, i_8, i_9, i_10, i_11, i_12, i_13, i_14, i_15, i_16, i_17, i_18, i_19, i_20, i_21, i_22, i_23, i_24, i_25, i_26, i_27, i_31, i_32, i_40, i_42, i_45, i_48, i_51, i_52, i_56, i_58, i_59, i_60, i_61, i_62, i_63, i_64, i_85, i_90, i_100, i_112, i_120, i_121, i_127, i_128, i_130, i_144, i_171, i_192, i_193, i_197, i_200, i_207, i_235, i_240, i_248, i_252, i_254, i_255, i_256, i_512, i_544, i_768, i_769, i_793, i_1000, i_1023, i_1024, i_1200, i_1538, i_1541, i_1545, i_2046, i_2047, i_2049, i_2060, i_2736, i_2737, i_2817, i_2818, i_2819, i_2820, i_2821, i_2831, i_2832, i_3077, i_3085, i_3843, i_3849, i_3851, i_3852, i_4129, i_4353, i_4865, i_5121, i_5122, i_5123, i_6156, i_8192, i_12288, i_16383, i_32000, i_33280, i_49152, i_53247, i_60304, i_64000, i_64512, i_65521, i_65535, i_449838109, nI_add, pk_mul, pk_sub, nI_mm, nI_leI, nI_ltI, nI_eq, pk_div, jrem_N, jshl_N, jshr_N, jushr_N, jmin_N, jmax_N, an_1, an_3, an_7, an_15, an_31, an_63, an_127, an_255, an_1023, an_2047, an_16383, an_65535, nm, pfI, rdI, rdW, rdL, rdI2, rdW2, ldA_N, stA_N, stB_N, stZ_N, pfZ_0, pfZ_1, rtZ_0, rtZ_1, acp_N, Option.bind_some, wp_some_iff, true_and, and_true, false_and, and_false, or_true, true_or, or_false, false_or, not_true_eq_false, not_false_eq_true, if_true, if_false, if_pos, if_neg, lt_sub, le_sub, sub_lt3, sub_le3, Option.bind_assoc]
  refine wp_for (fun i m => (nI (mkN ps i), nI i, m)) (fun i m => m = μ) ps.length (by omega) μ _ rfl rfl (fun self i m hi y1 hk => ?_) (fun self m y1 => ?_)
  · subst y1
    have hb := mkN_le ps i
    unfold b156_4
    simp (disch := omega) only [i_0, i_1, i_2, i_3, i_4, i_5, i_6, i_7, i_8, i_9, i_10, i_11, i_12, i_13, i_14, i_15, i_16, i_17, i_18, i_19, i_20, i_21, i_22, i_23, i_24, i_25, i_26, i_27, i_31, i_32, i_40, i_42, i_45, i_48, i_51, i_52, i_56, i_58, i_59, i_60, i_61, i_62, i_63, i_64, i_85, i_90, i_100, i_112, i_120, i_121, i_127, i_128, i_130, i_144, i_171, i_192, i_193, i_197, i_200, i_207, i_235, i_240, i_248, i_252, i_254, i_255, i_256, i_512, i_544, i_768, i_769, i_793, i_1000, i_1023, i_1024, i_1200, i_1538, i_1541, i_1545, i_2046, i_2047, i_2049, i_2060, i_2736, i_2737, i_2817, i_2818, i_2819, i_2820, i_2821, i_2831, i_2832, i_3077, i_3085, i_3843, i_3849, i_3851, i_3852, i_4129, i_4353, i_4865, i_5121, i_5122, i_5123, i_6156, i_8192, i_12288, i_16383, i_32000, i_33280, i_49152, i_53247, i_60304, i_64000, i_64512, i_65521, i_65535, i_449838109, nI_add, pk_mul, pk_sub, nI_mm, nI_leI, nI_ltI, nI_eq, pk_div, jrem_N, jshl_N, jshr_N, jushr_N, jmin_N, jmax_N, an_1, an_3, an_7, an_15, an_31, an_63, an_127, an_255, an_1023, an_2047, an_16383, an_65535, nm, pfI, rdI, rdW, rdL, rdI2, rdW2, ldA_N, stA_N, stB_N, stZ_N, pfZ_0, pfZ_1, rtZ_0, rtZ_1, acp_N, Option.bind_some, wp_some_iff, true_and, and_true, false_and, and_false, or_true, true_or, or_false, false_or, not_true_eq_false, not_false_eq_true, if_true, if_false, if_pos, if_neg, lt_sub, le_sub, sub_lt3, sub_le3, Option.bind_assoc, h.1, markOf_y h hi]
    rcases hm i hi with e | e
    · rw [e]
      simp (disch := omega) only [i_0, i_1, i_2, i_3, i_4, i_5, i_6, i_7, i_8, i_9, i_10, i_11, i_12, i_13, i_14, i_15, i_16, i_17, i_18, i_19, i_20, i_21, i_22, i_23, i_24, i_25, i_26, i_27, i_31, i_32, i_40, i_42, i_45, i_48, i_51, i_52, i_56, i_58, i_59, i_60, i_61, i_62, i_63, i_64, i_85, i_90, i_100, i_112, i_120, i_121, i_127, i_128, i_130, i_144, i_171, i_192, i_193, i_197, i_200, i_207, i_235, i_240, i_248, i_252, i_254, i_255, i_256, i_512, i_544, i_768, i_769, i_793, i_1000, i_1023, i_1024, i_1200, i_1538, i_1541, i_1545, i_2046, i_2047, i_2049, i_2060, i_2736, i_2737, i_2817, i_2818, i_2819, i_2820, i_2821, i_2831, i_2832, i_3077, i_3085, i_3843, i_3849, i_3851, i_3852, i_4129, i_4353, i_4865, i_5121, i_5122, i_5123, i_6156, i_8192, i_12288, i_16383, i_32000, i_33280, i_49152, i_53247, i_60304, i_64000, i_64512, i_65521, i_65535, i_449838109, nI_add, pk_mul, pk_sub, nI_mm, nI_leI, nI_ltI, nI_eq, pk_div, jrem_N, jshl_N, jshr_N, jushr_N, jmin_N, jmax_N, an_1, an_3, an_7, an_15, an_31, an_63, an_127, an_255, an_1023, an_2047, an_16383, an_65535, nm, pfI, rdI, rdW, rdL, rdI2, rdW2, ldA_N, stA_N, stB_N, stZ_N, pfZ_0, pfZ_1, rtZ_0, rtZ_1, acp_N, Option.bind_some, wp_some_iff, true_and, and_true, false_and, and_false, or_true, true_or, or_false, false_or, not_true_eq_false, not_false_eq_true, if_true, if_false, if_pos, if_neg, lt_sub, le_sub, sub_lt3, sub_le3, Option.bind_assoc]
      have := hk m rfl
      rw [mkN, if_pos e] at this
      exact this
    · rw [e]
      simp (disch := omega) only [i_0, i_1, i_2, i_3, i_4, i_5, i_6, i_7, i_8, i_9, i_10, i_11, i_12, i_13, i_14, i_15, i_16, i_17, i_18, i_19, i_20, i_21, i_22, i_23, i_24, i_25, i_26, i_27, i_31, i_32, i_40, i_42, i_45, i_48, i_51, i_52, i_56, i_58, i_59, i_60, i_61, i_62, i_63, i_64, i_85, i_90, i_100, i_112, i_120, i_121, i_127, i_128, i_130, i_144, i_171, i_192, i_193, i_197, i_200, i_207, i_235, i_240, i_248, i_252, i_254, i_255, i_256, i_512, i_544, i_768, i_769, i_793, i_1000, i_1023, i_1024, i_1200, i_1538, i_1541, i_1545, i_2046, i_2047, i_2049, i_2060, i_2736, i_2737, i_2817, i_2818, i_2819, i_2820, i_2821, i_2831, i_2832, i_3077, i_3085, i_3843, i_3849, i_3851, i_3852, i_4129, i_4353, i_4865, i_5121, i_5122, i_5123, i_6156, i_8192, i_12288, i_16383, i_32000, i_33280, i_49152, i_53247, i_60304, i_64000, i_64512, i_65521, i_65535, i_449838109, nI_add, pk_mul, pk_sub, nI_mm, nI_leI, nI_ltI, nI_eq, pk_div, jrem_N, jshl_N, jshr_N, jushr_N, jmin_N, jmax_N, an_1, an_3, an_7, an_15, an_31, an_63, an_127, an_255, an_1023, an_2047, an_16383, an_65535, nm, pfI, rdI, rdW, rdL, rdI2, rdW2, ldA_N, stA_N, stB_N, stZ_N, pfZ_0, pfZ_1, rtZ_0, rtZ_1, acp_N, Option.bind_some, wp_some_iff, true_and, and_true, false_and, and_false, or_true, true_or, or_false, false_or, not_true_eq_false, not_false_eq_true, if_true, if_false, if_pos, if_neg, lt_sub, le_sub, sub_lt3, sub_le3, Option.bind_assoc]
      have := hk m rfl
      rw [mkN, if_neg (by rw [e]; decide)] at this
      exact this
  · subst y1
    unfold b156_4
    simp (disch := omega) only [i_0, i_1, i_2, i_3, i_4, i_5, i_6, i_7, i_8, i_9, i_10, i_11, i_12, i_13, i_14, i_15, i_16, i_17, i_18, i_19, i_20, i_21, i_22, i_23, i_24, i_25, i_26, i_27, i_31, i_32, i_40, i_42, i_45, i_48, i_51, i_52, i_56, i_58, i_59, i_60, i_61, i_62, i_63, i_64, i_85, i_90, i_100, i_112, i_120, i_121, i_127, i_128, i_130, i_144, i_171, i_192, i_193, i_197, i_200, i_207, i_235, i_240, i_248, i_252, i_254, i_255, i_256, i_512, i_544, i_768, i_769, i_793, i_1000, i_1023, i_1024, i_1200, i_1538, i_1541, i_1545, i_2046, i_2047, i_2049, i_2060, i_2736, i_2737, i_2817, i_2818, i_2819, i_2820, i_2821, i_2831, i_2832, i_3077, i_3085, i_3843, i_3849, i_3851, i_3852, i_4129, i_4353, i_4865, i_5121, i_5122, i_5123, i_6156, i_8192, i_12288, i_16383, i_32000, i_33280, i_49152, i_53247, i_60304, i_64000, i_64512, i_65521, i_65535, i_449838109, nI_add, pk_mul, pk_sub, nI_mm, nI_leI, nI_ltI, nI_eq, pk_div, jrem_N, jshl_N, jshr_N, jushr_N, jmin_N, jmax_N, an_1, an_3, an_7, an_15, an_31, an_63, an_127, an_255, an_1023, an_2047, an_16383, an_65535, nm, pfI, rdI, rdW, rdL, rdI2, rdW2, ldA_N, stA_N, stB_N, stZ_N, pfZ_0, pfZ_1, rtZ_0, rtZ_1, acp_N, Option.bind_some, wp_some_iff, true_and, and_true, false_and, and_false, or_true, true_or, or_false, false_or, not_true_eq_false, not_false_eq_true, if_true, if_false, if_pos, if_neg, lt_sub, le_sub, sub_lt3, sub_le3, Option.bind_assoc, h.1]
def mchA (w : Wd) (p : Int32) : Int32 := if p = nI 0 then w.1 0 else if p = nI 1 then w.1 1 else if p = nI 2 then w.1 2 else if p = nI 3 then w.1 3 else if p = nI 4 then w.1 6 else if p = nI 5 then w.1 9 else if p = nI 6 then w.1 10 else if p = nI 7 then nI w.2.1.length else if p = nI 8 then nI w.2.2.1.length else if p = nI 9 then nI (mkN w.2.1 w.2.1.length) else if p = nI 10 then w.1 4 else if p = nI 11 then w.1 5 else if p = nI 12 then w.1 7 else if p = nI 13 then w.1 8 else -nI 1
theorem some_ite {α β : Type} {c : Prop} [Decidable c] {m : α} {a b : β} : some (m, if c then a else b) = if c then some (m, a) else some (m, b) := by
  by_cases h : c
  · rw [if_pos h, if_pos h]
  · rw [if_neg h, if_neg h]
theorem machine_CM {μ : Mem} {t : Nat} {w : Wd} {cl : List Nat} (h : Snd μ t w cl) (p : Int32) : f225 p μ = some (μ, mchA w p) ∧ f287 p μ = some (μ, mchA w p) := by
  obtain ⟨hC, hM, hJ, hc⟩ := h
  obtain ⟨z0, z1, z2, z3, z4, z5, z6, z7, z8, z9, z10⟩ := hC.2.1.a
  obtain ⟨y0, y1, y2, y3, y4, y5, y6, y7, y8, y9, y10⟩ := hM.1.a
  have hil := hJ.1.1.1
  have g1 := gl_142
  have hm := fun i hi => (hJ.1.1.2 i hi).2.2
  have e9 := wp_eq (mkd_C hC.2.2.1 hm)
  refine ⟨?_, ?_⟩
  · have : f155 p μ = some (μ, mchA w p) := by
      unfold f155 mchA
      simp only [some_ite, i_0, i_1, i_2, i_3, i_4, i_5, i_6, i_7, i_8, i_9, i_10, i_11, i_12, i_13, z0, z1, z2, z3, z4, z5, z6, z7, z8, z9, z10, hC.2.2.1.1, hC.2.2.2.1.1, e9, Option.bind_some]
    unfold f225
    rw [this]
    rfl
  · apply wp_eq
    unfold f287 l287_4
    rw [i_0]
    refine wp_for (fun i m => (p, nI (mkN w.2.1 i), nI i, m)) (fun i m => m = μ) w.2.1.length (by omega) μ _ rfl rfl (fun self i m hi y1 hk => ?_) (fun self m y1 => ?_)
    · subst y1
      have hb := mkN_le w.2.1 i
      have e1 := hM.2.1.2.2.2 i (Nat.zero_le _) hi
      dsimp only at e1
      have hk' := hk m rfl
      unfold mkN at hk'
      unfold b287_4 c287_27
      simp (disch := omega) only [i_0, i_1, i_2, i_3, i_4, i_5, i_6, i_7, i_8, i_9, i_10, i_11, i_12, i_13, i_14, i_15, i_16, i_17, i_18, i_19, i_20, i_21, i_22, i_23, i_24, i_25, i_26, i_27, i_31, i_32, i_40, i_42, i_45, i_48, i_51, i_52, i_56, i_58, i_59, i_60, i_61, i_62, i_63, i_64, i_85, i_90, i_100, i_112, i_120, i_121, i_127, i_128, i_130, i_144, i_171, i_192, i_193, i_197, i_200, i_207, i_235, i_240, i_248, i_252, i_254, i_255, i_256, i_512, i_544, i_768, i_769, i_793, i_1000, i_1023, i_1024, i_1200, i_1538, i_1541, i_1545, i_2046, i_2047, i_2049, i_2060, i_2736, i_2737, i_2817, i_2818, i_2819, i_2820, i_2821, i_2831, i_2832, i_3077, i_3085, i_3843, i_3849, i_3851, i_3852, i_4129, i_4353, i_4865, i_5121, i_5122, i_5123, i_6156, i_8192, i_12288, i_16383, i_32000, i_33280, i_49152, i_53247, i_60304, i_64000, i_64512, i_65521, i_65535, i_449838109, nI_add, pk_mul, pk_sub, nI_mm, nI_leI, nI_ltI, nI_eq, pk_div, jrem_N, jshl_N, jshr_N, jushr_N, jmin_N, jmax_N, an_1, an_3, an_7, an_15, an_31, an_63, an_127, an_255, an_1023, an_2047, an_16383, an_65535, nm, pfI, rdI, rdW, rdL, rdI2, rdW2, ldA_N, stA_N, stB_N, stZ_N, pfZ_0, pfZ_1, rtZ_0, rtZ_1, acp_N, Option.bind_some, wp_some_iff, true_and, and_true, false_and, and_false, or_true, true_or, or_false, false_or, not_true_eq_false, not_false_eq_true, if_true, if_false, if_pos, if_neg, lt_sub, le_sub, sub_lt3, sub_le3, Option.bind_assoc, hM.2.1.1, e1]
      by_cases e : (pk w.2.1 i).2.2 = nI 0
      · rw [if_pos e]
        rw [if_pos e, Nat.add_zero] at hk'
        exact hk'
      · rw [if_neg e]
        rw [if_neg e] at hk'
        exact hk'
    · have y11 := y1
      subst y11
      have hb : ∀ kl, b287_4 kl p (nI (mkN w.2.1 w.2.1.length)) (nI w.2.1.length) m = some (m, mchA w p) := by
        intro kl
        unfold b287_4 mchA
        rw [if_pos (by rw [hM.2.1.1]; exact nI_le (Nat.le_refl _) (by omega))]
        simp only [some_ite, i_0, i_1, i_2, i_3, i_4, i_5, i_6, i_7, i_8, i_9, i_10, i_11, i_12, i_13, y0, y2, y3, y4, y5, y6, y7, y8, y9, y10, hM.1.a.2.1, hM.2.1.1, hM.2.2.1.1]
      rw [hb]
      exact wp_some rfl
