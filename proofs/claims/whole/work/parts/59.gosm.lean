/-! ===== GO in the reference ===== -/
theorem LM.set_o {μ : Mem} {n : Nat → Nat} {g : Nat → Nat → Bool} {c k : Nat} {x : Int32} (h : LM μ n g) (h1 : c < 134 ∨ 136 < c) : LM (setI μ c k x) n g := h.fr (P := fun c' _ => c' = c) (Fr.sI rfl) (fun c' k' q1 q2 => by omega)
theorem SM.set_o {μ : Mem} {z : Nat → Int32} {c k : Nat} {x : Int32} (h : SM μ z) (h1 : c ≠ 129 ∨ k < 28 ∨ 38 < k) : SM (setI μ c k x) z := h.fr (P := fun c' k' => c' = c ∧ k' = k) (Fr.sI ⟨rfl, rfl⟩) (fun k' q1 q2 => by omega)
theorem ReqM.set_o {μ : Mem} {t c k : Nat} {q : Nat → Rq} {x : Int32} (h : ReqM μ t q) (h1 : (c ≠ 129 ∨ k ≠ 58) ∧ (c < 152 ∨ 155 < c)) : ReqM (setI μ c k x) t q := h.fr (P := fun c' k' => c' = c ∧ k' = k) (Fr.sI ⟨rfl, rfl⟩) (by omega) (fun c' k' q1 q2 => by omega)
def SntM (μ : Mem) (ps : List Pk) : Prop := μ.1 129 41 = nI ps.length ∧ QF μ 144 145 60 0 ps.length (fun i => (pk ps i).1) ∧ TF μ 141 0 ps.length (fun i => (pk ps i).2.1) ∧ TF μ 142 0 ps.length (fun i => (pk ps i).2.2)
def WtM (μ : Mem) (ps : List Pk) : Prop := μ.1 129 43 = nI ps.length ∧ QF μ 146 147 60 0 ps.length (fun i => (pk ps i).1) ∧ TF μ 143 0 ps.length (fun i => (pk ps i).2.1)
def WM (μ : Mem) (t : Nat) (w : Wd) : Prop := SM μ w.1 ∧ SntM μ w.2.1 ∧ WtM μ w.2.2.1 ∧ ReqM μ t w.2.2.2.1 ∧ LnM μ w.2.2.2.2
theorem SntM.fr {μ m : Mem} {ps : List Pk} {P : Nat → Nat → Prop} (h : SntM μ ps) (ho : Fr P μ m) (h0 : ¬ P 129 41) (h1 : ∀ c k, c = 141 ∨ c = 142 ∨ c = 144 ∨ c = 145 → ¬ P c k) : SntM m ps :=
  ⟨by rw [ho.1 _ _ h0]; exact h.1, h.2.1.fr ho (fun k => h1 _ k (by decide)) (fun k => h1 _ k (by decide)), h.2.2.1.fr ho (fun k => h1 _ k (by decide)), h.2.2.2.fr ho (fun k => h1 _ k (by decide))⟩
theorem WtM.fr {μ m : Mem} {ps : List Pk} {P : Nat → Nat → Prop} (h : WtM μ ps) (ho : Fr P μ m) (h0 : ¬ P 129 43) (h1 : ∀ c k, c = 143 ∨ c = 146 ∨ c = 147 → ¬ P c k) : WtM m ps :=
  ⟨by rw [ho.1 _ _ h0]; exact h.1, h.2.1.fr ho (fun k => h1 _ k (by decide)) (fun k => h1 _ k (by decide)), h.2.2.fr ho (fun k => h1 _ k (by decide))⟩
abbrev FGM : Nat → Nat → Prop := fun c k => c = 129 ∧ 28 ≤ k ∧ k ≤ 43 ∨ 131 ≤ c ∧ c ≤ 134 ∨ c = 136 ∨ 141 ≤ c ∧ c ≤ 148 ∨ c = 152
theorem upL_self {α : Type} {f : Nat → α} {i : Nat} {x : α} (h : f i = x) : upL f i x = f := by
  funext j
  unfold upL
  by_cases e : j = i
  · rw [if_pos e, e, h]
  · rw [if_neg e]
theorem SntM.unm {μ : Mem} {ps : List Pk} {i : Nat} (h : SntM μ ps) (hi : i < ps.length) (x : Int32) : SntM (setI μ 142 i x) (ps.set i ((pk ps i).1, (pk ps i).2.1, x)) := by
  have e : ∀ j, (pk (ps.set i ((pk ps i).1, (pk ps i).2.1, x)) j) = if j = i then ((pk ps i).1, (pk ps i).2.1, x) else pk ps j := fun j => pk_set hi
  refine ⟨by rw [List.length_set]; simp (disch := omega) only [i_0, i_1, i_2, i_3, i_4, i_5, i_6, i_7, i_8, i_9, i_10, i_11, i_12, i_13, i_14, i_15, i_16, i_17, i_18, i_19, i_20, i_21, i_22, i_23, i_24, i_25, i_26, i_27, i_31, i_32, i_40, i_42, i_45, i_48, i_51, i_52, i_56, i_58, i_59, i_60, i_61, i_62, i_63, i_64, i_85, i_90, i_100, i_112, i_120, i_121, i_127, i_128, i_130, i_144, i_171, i_192, i_193, i_197, i_200, i_207, i_235, i_240, i_248, i_252, i_254, i_255, i_256, i_512, i_544, i_768, i_769, i_793, i_1000, i_1023, i_1024, i_1200, i_1538, i_1541, i_1545, i_2046, i_2047, i_2049, i_2060, i_2736, i_2737, i_2817, i_2818, i_2819, i_2820, i_2821, i_2831, i_2832, i_3077, i_3085, i_3843, i_3849, i_3851, i_3852, i_4129, i_4353, i_4865, i_5121, i_5122, i_5123, i_6156, i_8192, i_12288, i_16383, i_32000, i_33280, i_49152, i_53247, i_60304, i_64000, i_64512, i_65521, i_65535, i_449838109, nI_add, pk_mul, pk_sub, nI_mm, nI_leI, nI_ltI, nI_eq, pk_div, jrem_N, jshl_N, jshr_N, jushr_N, jmin_N, jmax_N, an_1, an_3, an_7, an_15, an_31, an_63, an_127, an_255, an_1023, an_2047, an_16383, an_65535, nm, pfI, rdI, rdW, rdL, rdI2, rdW2, ldA_N, stA_N, stB_N, stZ_N, pfZ_0, pfZ_1, rtZ_0, rtZ_1, acp_N, Option.bind_some, wp_some_iff, true_and, and_true, false_and, and_false, or_true, true_or, or_false, false_or, not_true_eq_false, not_false_eq_true, if_true, if_false, if_pos, if_neg, lt_sub, le_sub, sub_lt3, sub_le3, h.1], ?_, ?_, ?_⟩
  · rw [List.length_set]
    refine (h.2.1.set_o (by decide) (by decide)).cg (Nat.le_refl _) (fun j _ _ => ?_)
    rw [e]
    by_cases q : j = i
    · rw [if_pos q, q]
    · rw [if_neg q]
  · rw [List.length_set]
    refine (h.2.2.1.set_o (by decide)).cg (Nat.le_refl _) (fun j _ _ => ?_)
    rw [e]
    by_cases q : j = i
    · rw [if_pos q, q]
    · rw [if_neg q]
  · rw [List.length_set]
    refine (h.2.2.2.put (Or.inl (Nat.le_refl _))).cg (Nat.le_refl _) (fun j _ _ => ?_)
    rw [e]
    unfold upL
    by_cases q : j = i
    · rw [if_pos q, if_pos q]
    · rw [if_neg q, if_neg q]
theorem launch_M {μ : Mem} {t : Nat} {z : Nat → Int32} {ps ws : List Pk} {q : Nat → Rq} {L : Ls} {s k : Nat} (h1 : SM μ z) (h2 : SntM μ ps) (h3 : WtM μ ws) (h4 : ReqM μ t q) (h5 : LnM μ L) (hz1 : z 1 = nI s) (hs : s < 256) (hz5 : z 5 = nI k) (hk : ps.length < k) (hk2 : k ≤ 32) (hws : 0 < ws.length) (hp : Pok ps) (hw : Pok ws) (kl : Int32 → Mem → Option Mem) (Q : Mem → Prop)
    (hQ : ∀ m, WM m t (lz z ps.length s, ps ++ [((pk ws 0).1, (pk ws 0).2.1, nI 0)], ws.eraseIdx 0, setSt t q (nt (pk ws 0).2.1) (nI 2), txL L 0 (unitL (frmL 0 s (pk ws 0).1))) → Fr FGM μ m → wp (kl (nI 1) m) Q) : wp (c275_51 kl (nI 1) (nI ps.length) μ) Q := by
  obtain ⟨z0, z1, z2, z3, z4, z5, z6, z7, z8, z9, z10⟩ := h1.a
  obtain ⟨hx1, ⟨r0, hr0, hx2⟩, hx3⟩ := hw.2 0 hws
  have g1 := gl_141
  have g2 := gl_142
  have g3 := gl_143
  have g4 := gl_144
  have g5 := gl_145
  have g6 := gl_146
  have g7 := gl_147
  have hwl := hw.1
  have t0 := h3.2.2 0 (Nat.le_refl _) hws
  obtain ⟨t1, t2, t3⟩ := h3.2.1 0 (Nat.le_refl _) hws
  rw [Nat.mul_zero] at t3
  dsimp only at t0 t1 t2 t3
  unfold c275_51
  simp (disch := omega) only [i_0, i_1, i_2, i_3, i_4, i_5, i_6, i_7, i_8, i_9, i_10, i_11, i_12, i_13, i_14, i_15, i_16, i_17, i_18, i_19, i_20, i_21, i_22, i_23, i_24, i_25, i_26, i_27, i_31, i_32, i_40, i_42, i_45, i_48, i_51, i_52, i_56, i_58, i_59, i_60, i_61, i_62, i_63, i_64, i_85, i_90, i_100, i_112, i_120, i_121, i_127, i_128, i_130, i_144, i_171, i_192, i_193, i_197, i_200, i_207, i_235, i_240, i_248, i_252, i_254, i_255, i_256, i_512, i_544, i_768, i_769, i_793, i_1000, i_1023, i_1024, i_1200, i_1538, i_1541, i_1545, i_2046, i_2047, i_2049, i_2060, i_2736, i_2737, i_2817, i_2818, i_2819, i_2820, i_2821, i_2831, i_2832, i_3077, i_3085, i_3843, i_3849, i_3851, i_3852, i_4129, i_4353, i_4865, i_5121, i_5122, i_5123, i_6156, i_8192, i_12288, i_16383, i_32000, i_33280, i_49152, i_53247, i_60304, i_64000, i_64512, i_65521, i_65535, i_449838109, nI_add, pk_mul, pk_sub, nI_mm, nI_leI, nI_ltI, nI_eq, pk_div, jrem_N, jshl_N, jshr_N, jushr_N, jmin_N, jmax_N, an_1, an_3, an_7, an_15, an_31, an_63, an_127, an_255, an_1023, an_2047, an_16383, an_65535, nm, pfI, rdI, rdW, rdL, rdI2, rdW2, ldA_N, stA_N, stB_N, stZ_N, pfZ_0, pfZ_1, rtZ_0, rtZ_1, acp_N, Option.bind_some, wp_some_iff, true_and, and_true, false_and, and_false, or_true, true_or, or_false, false_or, not_true_eq_false, not_false_eq_true, if_true, if_false, if_pos, if_neg, lt_sub, le_sub, sub_lt3, sub_le3, h2.1, h3.1, z5, hz5, t0, t1]
  refine wp_bind (move_M (t3.set_o (a := 145) (j := ps.length) (x := nI (pk ws 0).1.length) (by omega)) rfl (by omega) (by omega) (by omega) (by omega)) (fun m1 ⟨s1, e1⟩ => ?_)
  have qs : QF m1 144 145 60 0 (ps.length + 1) (upL (fun i => (pk ps i).1) ps.length (pk ws 0).1) := h2.2.1.put hx1 s1 e1 (by decide) (Or.inr ⟨rfl, rfl⟩)
  have f1 : Fr (fun c _ => c = 144 ∨ c = 145) μ m1 := (Fr.sI (Or.inr rfl)).tr e1 (fun _ _ q => q) (by intro c k h; omega)
  have h3' : WtM m1 ws := h3.fr f1 (by omega) (fun c k _ => by omega)
  simp (disch := omega) only [i_0, i_1, i_2, i_3, i_4, i_5, i_6, i_7, i_8, i_9, i_10, i_11, i_12, i_13, i_14, i_15, i_16, i_17, i_18, i_19, i_20, i_21, i_22, i_23, i_24, i_25, i_26, i_27, i_31, i_32, i_40, i_42, i_45, i_48, i_51, i_52, i_56, i_58, i_59, i_60, i_61, i_62, i_63, i_64, i_85, i_90, i_100, i_112, i_120, i_121, i_127, i_128, i_130, i_144, i_171, i_192, i_193, i_197, i_200, i_207, i_235, i_240, i_248, i_252, i_254, i_255, i_256, i_512, i_544, i_768, i_769, i_793, i_1000, i_1023, i_1024, i_1200, i_1538, i_1541, i_1545, i_2046, i_2047, i_2049, i_2060, i_2736, i_2737, i_2817, i_2818, i_2819, i_2820, i_2821, i_2831, i_2832, i_3077, i_3085, i_3843, i_3849, i_3851, i_3852, i_4129, i_4353, i_4865, i_5121, i_5122, i_5123, i_6156, i_8192, i_12288, i_16383, i_32000, i_33280, i_49152, i_53247, i_60304, i_64000, i_64512, i_65521, i_65535, i_449838109, nI_add, pk_mul, pk_sub, nI_mm, nI_leI, nI_ltI, nI_eq, pk_div, jrem_N, jshl_N, jshr_N, jushr_N, jmin_N, jmax_N, an_1, an_3, an_7, an_15, an_31, an_63, an_127, an_255, an_1023, an_2047, an_16383, an_65535, nm, pfI, rdI, rdW, rdL, rdI2, rdW2, ldA_N, stA_N, stB_N, stZ_N, pfZ_0, pfZ_1, rtZ_0, rtZ_1, acp_N, Option.bind_some, wp_some_iff, true_and, and_true, false_and, and_false, or_true, true_or, or_false, false_or, not_true_eq_false, not_false_eq_true, if_true, if_false, if_pos, if_neg, lt_sub, le_sub, sub_lt3, sub_le3, h3'.1]
  generalize hm2 : setI m1 129 43 (nI (ws.length - 1)) = m2
  have f2 : Fr (fun c k => c = 129 ∧ k = 43) m1 m2 := by subst hm2; exact Fr.sI ⟨rfl, rfl⟩
  have c2 : m2.1 129 43 = nI (ws.length - 1) := by subst hm2; simp (disch := omega) only [i_0, i_1, i_2, i_3, i_4, i_5, i_6, i_7, i_8, i_9, i_10, i_11, i_12, i_13, i_14, i_15, i_16, i_17, i_18, i_19, i_20, i_21, i_22, i_23, i_24, i_25, i_26, i_27, i_31, i_32, i_40, i_42, i_45, i_48, i_51, i_52, i_56, i_58, i_59, i_60, i_61, i_62, i_63, i_64, i_85, i_90, i_100, i_112, i_120, i_121, i_127, i_128, i_130, i_144, i_171, i_192, i_193, i_197, i_200, i_207, i_235, i_240, i_248, i_252, i_254, i_255, i_256, i_512, i_544, i_768, i_769, i_793, i_1000, i_1023, i_1024, i_1200, i_1538, i_1541, i_1545, i_2046, i_2047, i_2049, i_2060, i_2736, i_2737, i_2817, i_2818, i_2819, i_2820, i_2821, i_2831, i_2832, i_3077, i_3085, i_3843, i_3849, i_3851, i_3852, i_4129, i_4353, i_4865, i_5121, i_5122, i_5123, i_6156, i_8192, i_12288, i_16383, i_32000, i_33280, i_49152, i_53247, i_60304, i_64000, i_64512, i_65521, i_65535, i_449838109, nI_add, pk_mul, pk_sub, nI_mm, nI_leI, nI_ltI, nI_eq, pk_div, jrem_N, jshl_N, jshr_N, jushr_N, jmin_N, jmax_N, an_1, an_3, an_7, an_15, an_31, an_63, an_127, an_255, an_1023, an_2047, an_16383, an_65535, nm, pfI, rdI, rdW, rdL, rdI2, rdW2, ldA_N, stA_N, stB_N, stZ_N, pfZ_0, pfZ_1, rtZ_0, rtZ_1, acp_N, Option.bind_some, wp_some_iff, true_and, and_true, false_and, and_false, or_true, true_or, or_false, false_or, not_true_eq_false, not_false_eq_true, if_true, if_false, if_pos, if_neg, lt_sub, le_sub, sub_lt3, sub_le3]
  unfold l275_172
  refine wp_for (fun i m => (nI 1, (pk ws 0).2.1, nI i, m)) (fun i m => QF m 146 147 60 0 ws.length (shf 1 (fun i => (pk ws i).1) i) ∧ TF m 143 0 ws.length (shf 1 (fun i => (pk ws i).2.1) i) ∧ Fr (fun c k => c = 143 ∨ c = 146 ∨ c = 147) m2 m) (ws.length - 1) (by omega) m2 _ rfl ⟨by rw [shf_0]; exact h3'.2.1.fr f2 (fun k => by omega) (fun k => by omega), by rw [shf_0]; exact h3'.2.2.fr f2 (fun k => by omega), Fr.rf⟩ (fun self i m hi ⟨y1, y2, y3⟩ hk => ?_) (fun self m ⟨y1, y2, y3⟩ => ?_)
  · have c3 : m.1 129 43 = nI (ws.length - 1) := by rw [y3.1 _ _ (by omega)]; exact c2
    have u1 := y2 (i + 1) (Nat.zero_le _) (by omega)
    obtain ⟨u2, u3, u4⟩ := y1 (i + 1) (Nat.zero_le _) (by omega)
    rw [shf_ge (by omega)] at u1 u2 u3 u4
    unfold b275_172
    simp (disch := omega) only [i_0, i_1, i_2, i_3, i_4, i_5, i_6, i_7, i_8, i_9, i_10, i_11, i_12, i_13, i_14, i_15, i_16, i_17, i_18, i_19, i_20, i_21, i_22, i_23, i_24, i_25, i_26, i_27, i_31, i_32, i_40, i_42, i_45, i_48, i_51, i_52, i_56, i_58, i_59, i_60, i_61, i_62, i_63, i_64, i_85, i_90, i_100, i_112, i_120, i_121, i_127, i_128, i_130, i_144, i_171, i_192, i_193, i_197, i_200, i_207, i_235, i_240, i_248, i_252, i_254, i_255, i_256, i_512, i_544, i_768, i_769, i_793, i_1000, i_1023, i_1024, i_1200, i_1538, i_1541, i_1545, i_2046, i_2047, i_2049, i_2060, i_2736, i_2737, i_2817, i_2818, i_2819, i_2820, i_2821, i_2831, i_2832, i_3077, i_3085, i_3843, i_3849, i_3851, i_3852, i_4129, i_4353, i_4865, i_5121, i_5122, i_5123, i_6156, i_8192, i_12288, i_16383, i_32000, i_33280, i_49152, i_53247, i_60304, i_64000, i_64512, i_65521, i_65535, i_449838109, nI_add, pk_mul, pk_sub, nI_mm, nI_leI, nI_ltI, nI_eq, pk_div, jrem_N, jshl_N, jshr_N, jushr_N, jmin_N, jmax_N, an_1, an_3, an_7, an_15, an_31, an_63, an_127, an_255, an_1023, an_2047, an_16383, an_65535, nm, pfI, rdI, rdW, rdL, rdI2, rdW2, ldA_N, stA_N, stB_N, stZ_N, pfZ_0, pfZ_1, rtZ_0, rtZ_1, acp_N, Option.bind_some, wp_some_iff, true_and, and_true, false_and, and_false, or_true, true_or, or_false, false_or, not_true_eq_false, not_false_eq_true, if_true, if_false, if_pos, if_neg, lt_sub, le_sub, sub_lt3, sub_le3, c3, u1, u2]
    refine wp_bind (move_M ((u4.set_o (a := 143) (j := i) (x := (pk ws (i + 1)).2.1) (by omega)).set_o (a := 147) (j := i) (x := nI (pk ws (i + 1)).1.length) (by omega)) rfl (by omega) (by omega) (by omega) (by omega)) (fun m3 ⟨s3, e3⟩ => ?_)
    refine hk m3 ⟨?_, ?_, ?_⟩
    · rw [← shf_up]
      exact QF.put (y1.set_o (by decide) (by decide)) u3 s3 e3 (by decide) (Or.inl (Nat.le_refl _))
    · rw [← shf_up]
      exact ((y2.put (Or.inl (Nat.le_refl _))).set_o (by decide)).fr e3 (fun k => by omega)
    · exact ((y3.pI (by omega)).pI (by omega)).tr e3 (fun _ _ q => q) (by intro c k h; omega)
  · have c3 : m.1 129 43 = nI (ws.length - 1) := by rw [y3.1 _ _ (by omega)]; exact c2
    have d1 : m.1 129 41 = nI ps.length := by rw [y3.1 _ _ (by omega), f2.1 _ _ (by omega), f1.1 _ _ (by omega)]; exact h2.1
    have d2 : m.1 129 31 = z 3 := by rw [y3.1 _ _ (by omega), f2.1 _ _ (by omega), f1.1 _ _ (by omega)]; exact z3
    have fA : Fr (fun c k => c = 129 ∧ k = 43 ∨ 143 ≤ c ∧ c ≤ 147) μ m := (f1.tr f2 (by intro c k h; omega) (by intro c k h; omega)).tr y3 (fun _ _ q => q) (by intro c k h; omega)
    have qs3 : QF m 144 145 60 0 (ps.length + 1) (upL (fun i => (pk ps i).1) ps.length (pk ws 0).1) := (qs.fr f2 (fun k => by omega) (fun k => by omega)).fr y3 (fun k => by omega) (fun k => by omega)
    have key : ∀ x : Int32, x = (if ps.length = 0 then nI 1 else z 3) → wp (c275_265 kl (nI 1) (pk ws 0).2.1 x m) Q := by
      intro x hx
      have a1 : SM (setI m 129 31 x) (if ps.length = 0 then upL z 3 (nI 1) else z) := by
        have b1 := (h1.fr fA (fun k _ _ => by omega)).up (k := 31) (i := 3) (x := x) rfl
        by_cases e : ps.length = 0
        · rw [if_pos e] at hx ⊢
          rw [hx] at b1 ⊢
          exact b1
        · rw [if_neg e] at hx ⊢
          rw [upL_self hx.symm] at b1
          exact b1
      have v1 : (if ps.length = 0 then upL z 3 (nI 1) else z) 1 = nI s := by
        by_cases e : ps.length = 0
        · rw [if_pos e, upL_o (by decide)]; exact hz1
        · rw [if_neg e]; exact hz1
      have v7 : (if ps.length = 0 then upL z 3 (nI 1) else z) 7 = z 7 := by
        by_cases e : ps.length = 0
        · rw [if_pos e, upL_o (by decide)]
        · rw [if_neg e]
      obtain ⟨w0, w1, w2, w3, w4, w5, w6, w7, w8, w9, w10⟩ := a1.a
      have qs4 := qs3.set_o (a := 129) (k := 31) (x := x) (by decide) (by decide)
      obtain ⟨o1, o2, o3⟩ := qs4 ps.length (Nat.zero_le _) (by omega)
      rw [upL_s] at o1 o2 o3
      have d3 : (setI m 129 31 x).1 129 41 = nI ps.length := by simp (disch := omega) only [i_0, i_1, i_2, i_3, i_4, i_5, i_6, i_7, i_8, i_9, i_10, i_11, i_12, i_13, i_14, i_15, i_16, i_17, i_18, i_19, i_20, i_21, i_22, i_23, i_24, i_25, i_26, i_27, i_31, i_32, i_40, i_42, i_45, i_48, i_51, i_52, i_56, i_58, i_59, i_60, i_61, i_62, i_63, i_64, i_85, i_90, i_100, i_112, i_120, i_121, i_127, i_128, i_130, i_144, i_171, i_192, i_193, i_197, i_200, i_207, i_235, i_240, i_248, i_252, i_254, i_255, i_256, i_512, i_544, i_768, i_769, i_793, i_1000, i_1023, i_1024, i_1200, i_1538, i_1541, i_1545, i_2046, i_2047, i_2049, i_2060, i_2736, i_2737, i_2817, i_2818, i_2819, i_2820, i_2821, i_2831, i_2832, i_3077, i_3085, i_3843, i_3849, i_3851, i_3852, i_4129, i_4353, i_4865, i_5121, i_5122, i_5123, i_6156, i_8192, i_12288, i_16383, i_32000, i_33280, i_49152, i_53247, i_60304, i_64000, i_64512, i_65521, i_65535, i_449838109, nI_add, pk_mul, pk_sub, nI_mm, nI_leI, nI_ltI, nI_eq, pk_div, jrem_N, jshl_N, jshr_N, jushr_N, jmin_N, jmax_N, an_1, an_3, an_7, an_15, an_31, an_63, an_127, an_255, an_1023, an_2047, an_16383, an_65535, nm, pfI, rdI, rdW, rdL, rdI2, rdW2, ldA_N, stA_N, stB_N, stZ_N, pfZ_0, pfZ_1, rtZ_0, rtZ_1, acp_N, Option.bind_some, wp_some_iff, true_and, and_true, false_and, and_false, or_true, true_or, or_false, false_or, not_true_eq_false, not_false_eq_true, if_true, if_false, if_pos, if_neg, lt_sub, le_sub, sub_lt3, sub_le3, d1]
      have l4 : LnM (setI m 129 31 x) L := LM.set_o (h5.fr fA (fun c k _ _ => by omega)) (by omega)
      have h4' : ReqM (setI m 129 31 x) t q := (h4.fr fA (by omega) (fun c k _ _ => by omega)).set_o (by omega)
      have fA' : Fr FGM μ (setI m 129 31 x) := (fA.mono (by intro c k h; omega)).pI (by omega)
      have ts1 : TF (setI m 129 31 x) 141 0 ps.length (fun i => (pk ps i).2.1) := (h2.2.2.1.fr fA (fun k => by omega)).set_o (by decide)
      have ts2 : TF (setI m 129 31 x) 142 0 ps.length (fun i => (pk ps i).2.2) := (h2.2.2.2.fr fA (fun k => by omega)).set_o (by decide)
      have cw : (setI m 129 31 x).1 129 43 = nI (ws.length - 1) := by simp (disch := omega) only [i_0, i_1, i_2, i_3, i_4, i_5, i_6, i_7, i_8, i_9, i_10, i_11, i_12, i_13, i_14, i_15, i_16, i_17, i_18, i_19, i_20, i_21, i_22, i_23, i_24, i_25, i_26, i_27, i_31, i_32, i_40, i_42, i_45, i_48, i_51, i_52, i_56, i_58, i_59, i_60, i_61, i_62, i_63, i_64, i_85, i_90, i_100, i_112, i_120, i_121, i_127, i_128, i_130, i_144, i_171, i_192, i_193, i_197, i_200, i_207, i_235, i_240, i_248, i_252, i_254, i_255, i_256, i_512, i_544, i_768, i_769, i_793, i_1000, i_1023, i_1024, i_1200, i_1538, i_1541, i_1545, i_2046, i_2047, i_2049, i_2060, i_2736, i_2737, i_2817, i_2818, i_2819, i_2820, i_2821, i_2831, i_2832, i_3077, i_3085, i_3843, i_3849, i_3851, i_3852, i_4129, i_4353, i_4865, i_5121, i_5122, i_5123, i_6156, i_8192, i_12288, i_16383, i_32000, i_33280, i_49152, i_53247, i_60304, i_64000, i_64512, i_65521, i_65535, i_449838109, nI_add, pk_mul, pk_sub, nI_mm, nI_leI, nI_ltI, nI_eq, pk_div, jrem_N, jshl_N, jshr_N, jushr_N, jmin_N, jmax_N, an_1, an_3, an_7, an_15, an_31, an_63, an_127, an_255, an_1023, an_2047, an_16383, an_65535, nm, pfI, rdI, rdW, rdL, rdI2, rdW2, ldA_N, stA_N, stB_N, stZ_N, pfZ_0, pfZ_1, rtZ_0, rtZ_1, acp_N, Option.bind_some, wp_some_iff, true_and, and_true, false_and, and_false, or_true, true_or, or_false, false_or, not_true_eq_false, not_false_eq_true, if_true, if_false, if_pos, if_neg, lt_sub, le_sub, sub_lt3, sub_le3, c3]
      have tw1 := y1.set_o (a := 129) (k := 31) (x := x) (by decide) (by decide)
      have tw2 := y2.set_o (a := 129) (k := 31) (x := x) (by decide)
      unfold c275_265
      rw [pfI, Option.bind_some]
      generalize setI m 129 31 x = m4 at *
      simp (disch := omega) only [i_0, i_1, i_2, i_3, i_4, i_5, i_6, i_7, i_8, i_9, i_10, i_11, i_12, i_13, i_14, i_15, i_16, i_17, i_18, i_19, i_20, i_21, i_22, i_23, i_24, i_25, i_26, i_27, i_31, i_32, i_40, i_42, i_45, i_48, i_51, i_52, i_56, i_58, i_59, i_60, i_61, i_62, i_63, i_64, i_85, i_90, i_100, i_112, i_120, i_121, i_127, i_128, i_130, i_144, i_171, i_192, i_193, i_197, i_200, i_207, i_235, i_240, i_248, i_252, i_254, i_255, i_256, i_512, i_544, i_768, i_769, i_793, i_1000, i_1023, i_1024, i_1200, i_1538, i_1541, i_1545, i_2046, i_2047, i_2049, i_2060, i_2736, i_2737, i_2817, i_2818, i_2819, i_2820, i_2821, i_2831, i_2832, i_3077, i_3085, i_3843, i_3849, i_3851, i_3852, i_4129, i_4353, i_4865, i_5121, i_5122, i_5123, i_6156, i_8192, i_12288, i_16383, i_32000, i_33280, i_49152, i_53247, i_60304, i_64000, i_64512, i_65521, i_65535, i_449838109, nI_add, pk_mul, pk_sub, nI_mm, nI_leI, nI_ltI, nI_eq, pk_div, jrem_N, jshl_N, jshr_N, jushr_N, jmin_N, jmax_N, an_1, an_3, an_7, an_15, an_31, an_63, an_127, an_255, an_1023, an_2047, an_16383, an_65535, nm, pfI, rdI, rdW, rdL, rdI2, rdW2, ldA_N, stA_N, stB_N, stZ_N, pfZ_0, pfZ_1, rtZ_0, rtZ_1, acp_N, Option.bind_some, wp_some_iff, true_and, and_true, false_and, and_false, or_true, true_or, or_false, false_or, not_true_eq_false, not_false_eq_true, if_true, if_false, if_pos, if_neg, lt_sub, le_sub, sub_lt3, sub_le3, d3, o1, w1, v1]
      refine wp_bind (tx_M (fl := 0) (num := s) l4 o3 rfl (by omega) (by omega) (by omega) (by decide)) (fun m5 ⟨h6, e6⟩ => ?_)
      have d5 : m5.1 129 41 = nI ps.length := by rw [e6.1 _ _ (by omega)]; exact d3
      have d6 : m5.1 129 29 = nI s := by rw [e6.1 _ _ (by omega), w1]; exact v1
      simp (disch := omega) only [i_0, i_1, i_2, i_3, i_4, i_5, i_6, i_7, i_8, i_9, i_10, i_11, i_12, i_13, i_14, i_15, i_16, i_17, i_18, i_19, i_20, i_21, i_22, i_23, i_24, i_25, i_26, i_27, i_31, i_32, i_40, i_42, i_45, i_48, i_51, i_52, i_56, i_58, i_59, i_60, i_61, i_62, i_63, i_64, i_85, i_90, i_100, i_112, i_120, i_121, i_127, i_128, i_130, i_144, i_171, i_192, i_193, i_197, i_200, i_207, i_235, i_240, i_248, i_252, i_254, i_255, i_256, i_512, i_544, i_768, i_769, i_793, i_1000, i_1023, i_1024, i_1200, i_1538, i_1541, i_1545, i_2046, i_2047, i_2049, i_2060, i_2736, i_2737, i_2817, i_2818, i_2819, i_2820, i_2821, i_2831, i_2832, i_3077, i_3085, i_3843, i_3849, i_3851, i_3852, i_4129, i_4353, i_4865, i_5121, i_5122, i_5123, i_6156, i_8192, i_12288, i_16383, i_32000, i_33280, i_49152, i_53247, i_60304, i_64000, i_64512, i_65521, i_65535, i_449838109, nI_add, pk_mul, pk_sub, nI_mm, nI_leI, nI_ltI, nI_eq, pk_div, jrem_N, jshl_N, jshr_N, jushr_N, jmin_N, jmax_N, an_1, an_3, an_7, an_15, an_31, an_63, an_127, an_255, an_1023, an_2047, an_16383, an_65535, nm, pfI, rdI, rdW, rdL, rdI2, rdW2, ldA_N, stA_N, stB_N, stZ_N, pfZ_0, pfZ_1, rtZ_0, rtZ_1, acp_N, Option.bind_some, wp_some_iff, true_and, and_true, false_and, and_false, or_true, true_or, or_false, false_or, not_true_eq_false, not_false_eq_true, if_true, if_false, if_pos, if_neg, lt_sub, le_sub, sub_lt3, sub_le3, d5, d6]
      rw [hx2]
      generalize hm7 : setI (setI (setI (setI m5 141 ps.length (nI r0)) 142 ps.length (nI 0)) 129 41 (nI (ps.length + 1))) 129 29 (nI ((s + 1) % 256)) = m7
      have f7 : Fr (fun c k => c = 141 ∨ c = 142 ∨ c = 129 ∧ k = 41 ∨ c = 129 ∧ k = 29) m5 m7 := by
        subst hm7
        exact (((Fr.sI (by omega)).pI (by omega)).pI (by omega)).pI (by omega)
      refine wp_bind (setSt_M ((h4'.fr e6 (by omega) (fun c k _ _ => by omega)).fr f7 (by omega) (fun c k _ _ => by omega)) (by omega)) (fun m8 ⟨h8, e8⟩ => ?_)
      have d8 : m8.1 129 35 = z 7 := by rw [e8.1 _ _ (by omega), f7.1 _ _ (by omega), e6.1 _ _ (by omega), w7]; exact v7
      unfold f274 c275_356
      simp (disch := omega) only [i_0, i_1, i_2, i_3, i_4, i_5, i_6, i_7, i_8, i_9, i_10, i_11, i_12, i_13, i_14, i_15, i_16, i_17, i_18, i_19, i_20, i_21, i_22, i_23, i_24, i_25, i_26, i_27, i_31, i_32, i_40, i_42, i_45, i_48, i_51, i_52, i_56, i_58, i_59, i_60, i_61, i_62, i_63, i_64, i_85, i_90, i_100, i_112, i_120, i_121, i_127, i_128, i_130, i_144, i_171, i_192, i_193, i_197, i_200, i_207, i_235, i_240, i_248, i_252, i_254, i_255, i_256, i_512, i_544, i_768, i_769, i_793, i_1000, i_1023, i_1024, i_1200, i_1538, i_1541, i_1545, i_2046, i_2047, i_2049, i_2060, i_2736, i_2737, i_2817, i_2818, i_2819, i_2820, i_2821, i_2831, i_2832, i_3077, i_3085, i_3843, i_3849, i_3851, i_3852, i_4129, i_4353, i_4865, i_5121, i_5122, i_5123, i_6156, i_8192, i_12288, i_16383, i_32000, i_33280, i_49152, i_53247, i_60304, i_64000, i_64512, i_65521, i_65535, i_449838109, nI_add, pk_mul, pk_sub, nI_mm, nI_leI, nI_ltI, nI_eq, pk_div, jrem_N, jshl_N, jshr_N, jushr_N, jmin_N, jmax_N, an_1, an_3, an_7, an_15, an_31, an_63, an_127, an_255, an_1023, an_2047, an_16383, an_65535, nm, pfI, rdI, rdW, rdL, rdI2, rdW2, ldA_N, stA_N, stB_N, stZ_N, pfZ_0, pfZ_1, rtZ_0, rtZ_1, acp_N, Option.bind_some, wp_some_iff, true_and, and_true, false_and, and_false, or_true, true_or, or_false, false_or, not_true_eq_false, not_false_eq_true, if_true, if_false, if_pos, if_neg, lt_sub, le_sub, sub_lt3, sub_le3, d8]
      have fE : Fr FGM μ m8 := ((fA'.tr e6 (fun _ _ q => q) (by intro c k h; omega)).tr f7 (fun _ _ q => q) (by intro c k h; omega)).tr e8 (fun _ _ q => q) (by intro c k h; omega)
      have ap : ∀ j, j < ps.length + 1 → pk (ps ++ [((pk ws 0).1, (pk ws 0).2.1, nI 0)]) j = if j = ps.length then ((pk ws 0).1, (pk ws 0).2.1, nI 0) else pk ps j := by
        intro j hj
        rw [pk_app]
        by_cases e : j = ps.length
        · rw [if_neg (by omega), if_pos e, if_pos e]
        · rw [if_pos (by omega), if_neg e]
      have hal : (ps ++ [((pk ws 0).1, (pk ws 0).2.1, nI 0)]).length = ps.length + 1 := by rw [List.length_append]; rfl
      refine hQ _ ⟨?_, ⟨?_, ?_, ?_, ?_⟩, ⟨?_, ?_, ?_⟩, ?_, ?_⟩ (fE.pI (by omega))
      · have b7 : SM m7 (upL (if ps.length = 0 then upL z 3 (nI 1) else z) 1 (nI ((s + 1) % 256))) := by
          subst hm7
          exact ((((a1.fr e6 (fun k _ _ => by omega)).set_o (by omega)).set_o (by omega)).set_o (by omega)).up rfl
        exact (b7.fr e8 (fun k _ _ => by omega)).up rfl
      · show (setI m8 129 34 (z 7)).1 129 41 = nI (ps ++ [_]).length
        rw [hal]
        simp (disch := omega) only [i_0, i_1, i_2, i_3, i_4, i_5, i_6, i_7, i_8, i_9, i_10, i_11, i_12, i_13, i_14, i_15, i_16, i_17, i_18, i_19, i_20, i_21, i_22, i_23, i_24, i_25, i_26, i_27, i_31, i_32, i_40, i_42, i_45, i_48, i_51, i_52, i_56, i_58, i_59, i_60, i_61, i_62, i_63, i_64, i_85, i_90, i_100, i_112, i_120, i_121, i_127, i_128, i_130, i_144, i_171, i_192, i_193, i_197, i_200, i_207, i_235, i_240, i_248, i_252, i_254, i_255, i_256, i_512, i_544, i_768, i_769, i_793, i_1000, i_1023, i_1024, i_1200, i_1538, i_1541, i_1545, i_2046, i_2047, i_2049, i_2060, i_2736, i_2737, i_2817, i_2818, i_2819, i_2820, i_2821, i_2831, i_2832, i_3077, i_3085, i_3843, i_3849, i_3851, i_3852, i_4129, i_4353, i_4865, i_5121, i_5122, i_5123, i_6156, i_8192, i_12288, i_16383, i_32000, i_33280, i_49152, i_53247, i_60304, i_64000, i_64512, i_65521, i_65535, i_449838109, nI_add, pk_mul, pk_sub, nI_mm, nI_leI, nI_ltI, nI_eq, pk_div, jrem_N, jshl_N, jshr_N, jushr_N, jmin_N, jmax_N, an_1, an_3, an_7, an_15, an_31, an_63, an_127, an_255, an_1023, an_2047, an_16383, an_65535, nm, pfI, rdI, rdW, rdL, rdI2, rdW2, ldA_N, stA_N, stB_N, stZ_N, pfZ_0, pfZ_1, rtZ_0, rtZ_1, acp_N, Option.bind_some, wp_some_iff, true_and, and_true, false_and, and_false, or_true, true_or, or_false, false_or, not_true_eq_false, not_false_eq_true, if_true, if_false, if_pos, if_neg, lt_sub, le_sub, sub_lt3, sub_le3]
        rw [e8.1 _ _ (by omega)]
        subst hm7
        simp (disch := omega) only [i_0, i_1, i_2, i_3, i_4, i_5, i_6, i_7, i_8, i_9, i_10, i_11, i_12, i_13, i_14, i_15, i_16, i_17, i_18, i_19, i_20, i_21, i_22, i_23, i_24, i_25, i_26, i_27, i_31, i_32, i_40, i_42, i_45, i_48, i_51, i_52, i_56, i_58, i_59, i_60, i_61, i_62, i_63, i_64, i_85, i_90, i_100, i_112, i_120, i_121, i_127, i_128, i_130, i_144, i_171, i_192, i_193, i_197, i_200, i_207, i_235, i_240, i_248, i_252, i_254, i_255, i_256, i_512, i_544, i_768, i_769, i_793, i_1000, i_1023, i_1024, i_1200, i_1538, i_1541, i_1545, i_2046, i_2047, i_2049, i_2060, i_2736, i_2737, i_2817, i_2818, i_2819, i_2820, i_2821, i_2831, i_2832, i_3077, i_3085, i_3843, i_3849, i_3851, i_3852, i_4129, i_4353, i_4865, i_5121, i_5122, i_5123, i_6156, i_8192, i_12288, i_16383, i_32000, i_33280, i_49152, i_53247, i_60304, i_64000, i_64512, i_65521, i_65535, i_449838109, nI_add, pk_mul, pk_sub, nI_mm, nI_leI, nI_ltI, nI_eq, pk_div, jrem_N, jshl_N, jshr_N, jushr_N, jmin_N, jmax_N, an_1, an_3, an_7, an_15, an_31, an_63, an_127, an_255, an_1023, an_2047, an_16383, an_65535, nm, pfI, rdI, rdW, rdL, rdI2, rdW2, ldA_N, stA_N, stB_N, stZ_N, pfZ_0, pfZ_1, rtZ_0, rtZ_1, acp_N, Option.bind_some, wp_some_iff, true_and, and_true, false_and, and_false, or_true, true_or, or_false, false_or, not_true_eq_false, not_false_eq_true, if_true, if_false, if_pos, if_neg, lt_sub, le_sub, sub_lt3, sub_le3]
      · show QF _ 144 145 60 0 (ps ++ [_]).length _
        rw [hal]
        refine ((((qs4.fr e6 (fun k => by omega) (fun k => by omega)).fr f7 (fun k => by omega) (fun k => by omega)).fr e8 (fun k => by omega) (fun k => by omega)).set_o (by decide) (by decide)).cg (Nat.le_refl _) (fun j _ hj => ?_)
        dsimp only
        rw [ap j hj]
        unfold upL
        by_cases e : j = ps.length
        · rw [if_pos e, if_pos e]
        · rw [if_neg e, if_neg e]
      · show TF _ 141 0 (ps ++ [_]).length _
        rw [hal]
        have b7 : TF m7 141 0 (ps.length + 1) (upL (fun i => (pk ps i).2.1) ps.length (nI r0)) := by
          subst hm7
          exact ((((ts1.fr e6 (fun k => by omega)).put (Or.inr ⟨rfl, rfl⟩)).set_o (by decide)).set_o (by decide)).set_o (by decide)
        refine ((b7.fr e8 (fun k => by omega)).set_o (by decide)).cg (Nat.le_refl _) (fun j _ hj => ?_)
        dsimp only
        rw [ap j hj]
        unfold upL
        by_cases e : j = ps.length
        · rw [if_pos e, if_pos e]
          exact hx2
        · rw [if_neg e, if_neg e]
      · show TF _ 142 0 (ps ++ [_]).length _
        rw [hal]
        have b7 : TF m7 142 0 (ps.length + 1) (upL (fun i => (pk ps i).2.2) ps.length (nI 0)) := by
          subst hm7
          exact ((((ts2.fr e6 (fun k => by omega)).set_o (by decide)).put (Or.inr ⟨rfl, rfl⟩)).set_o (by decide)).set_o (by decide)
        refine ((b7.fr e8 (fun k => by omega)).set_o (by decide)).cg (Nat.le_refl _) (fun j _ hj => ?_)
        dsimp only
        rw [ap j hj]
        unfold upL
        by_cases e : j = ps.length
        · rw [if_pos e, if_pos e]
        · rw [if_neg e, if_neg e]
      · show (setI m8 129 34 (z 7)).1 129 43 = nI (ws.eraseIdx 0).length
        rw [era_len hws]
        simp (disch := omega) only [i_0, i_1, i_2, i_3, i_4, i_5, i_6, i_7, i_8, i_9, i_10, i_11, i_12, i_13, i_14, i_15, i_16, i_17, i_18, i_19, i_20, i_21, i_22, i_23, i_24, i_25, i_26, i_27, i_31, i_32, i_40, i_42, i_45, i_48, i_51, i_52, i_56, i_58, i_59, i_60, i_61, i_62, i_63, i_64, i_85, i_90, i_100, i_112, i_120, i_121, i_127, i_128, i_130, i_144, i_171, i_192, i_193, i_197, i_200, i_207, i_235, i_240, i_248, i_252, i_254, i_255, i_256, i_512, i_544, i_768, i_769, i_793, i_1000, i_1023, i_1024, i_1200, i_1538, i_1541, i_1545, i_2046, i_2047, i_2049, i_2060, i_2736, i_2737, i_2817, i_2818, i_2819, i_2820, i_2821, i_2831, i_2832, i_3077, i_3085, i_3843, i_3849, i_3851, i_3852, i_4129, i_4353, i_4865, i_5121, i_5122, i_5123, i_6156, i_8192, i_12288, i_16383, i_32000, i_33280, i_49152, i_53247, i_60304, i_64000, i_64512, i_65521, i_65535, i_449838109, nI_add, pk_mul, pk_sub, nI_mm, nI_leI, nI_ltI, nI_eq, pk_div, jrem_N, jshl_N, jshr_N, jushr_N, jmin_N, jmax_N, an_1, an_3, an_7, an_15, an_31, an_63, an_127, an_255, an_1023, an_2047, an_16383, an_65535, nm, pfI, rdI, rdW, rdL, rdI2, rdW2, ldA_N, stA_N, stB_N, stZ_N, pfZ_0, pfZ_1, rtZ_0, rtZ_1, acp_N, Option.bind_some, wp_some_iff, true_and, and_true, false_and, and_false, or_true, true_or, or_false, false_or, not_true_eq_false, not_false_eq_true, if_true, if_false, if_pos, if_neg, lt_sub, le_sub, sub_lt3, sub_le3]
        rw [e8.1 _ _ (by omega), f7.1 _ _ (by omega), e6.1 _ _ (by omega)]
        exact cw
      · show QF _ 146 147 60 0 (ws.eraseIdx 0).length _
        rw [era_len hws]
        refine ((((tw1.fr e6 (fun k => by omega) (fun k => by omega)).fr f7 (fun k => by omega) (fun k => by omega)).fr e8 (fun k => by omega) (fun k => by omega)).set_o (by decide) (by decide)).cg (by omega) (fun j _ hj => ?_)
        dsimp only
        rw [pk_era, if_neg (by omega), shf_lt hj]
      · show TF _ 143 0 (ws.eraseIdx 0).length _
        rw [era_len hws]
        refine (((tw2.fr e6 (fun k => by omega)).fr f7 (fun k => by omega)).fr e8 (fun k => by omega)).set_o (by decide) |>.cg (by omega) (fun j _ hj => ?_)
        dsimp only
        rw [pk_era, if_neg (by omega), shf_lt hj]
      · dsimp only
        rw [hx2, nt_nI (by omega)]
        exact h8.set_o (by omega)
      · exact LM.set_o ((h6.fr f7 (fun c k _ _ => by omega)).fr e8 (fun c k _ _ => by omega)) (by omega)
    unfold b275_172
    simp (disch := omega) only [i_0, i_1, i_2, i_3, i_4, i_5, i_6, i_7, i_8, i_9, i_10, i_11, i_12, i_13, i_14, i_15, i_16, i_17, i_18, i_19, i_20, i_21, i_22, i_23, i_24, i_25, i_26, i_27, i_31, i_32, i_40, i_42, i_45, i_48, i_51, i_52, i_56, i_58, i_59, i_60, i_61, i_62, i_63, i_64, i_85, i_90, i_100, i_112, i_120, i_121, i_127, i_128, i_130, i_144, i_171, i_192, i_193, i_197, i_200, i_207, i_235, i_240, i_248, i_252, i_254, i_255, i_256, i_512, i_544, i_768, i_769, i_793, i_1000, i_1023, i_1024, i_1200, i_1538, i_1541, i_1545, i_2046, i_2047, i_2049, i_2060, i_2736, i_2737, i_2817, i_2818, i_2819, i_2820, i_2821, i_2831, i_2832, i_3077, i_3085, i_3843, i_3849, i_3851, i_3852, i_4129, i_4353, i_4865, i_5121, i_5122, i_5123, i_6156, i_8192, i_12288, i_16383, i_32000, i_33280, i_49152, i_53247, i_60304, i_64000, i_64512, i_65521, i_65535, i_449838109, nI_add, pk_mul, pk_sub, nI_mm, nI_leI, nI_ltI, nI_eq, pk_div, jrem_N, jshl_N, jshr_N, jushr_N, jmin_N, jmax_N, an_1, an_3, an_7, an_15, an_31, an_63, an_127, an_255, an_1023, an_2047, an_16383, an_65535, nm, pfI, rdI, rdW, rdL, rdI2, rdW2, ldA_N, stA_N, stB_N, stZ_N, pfZ_0, pfZ_1, rtZ_0, rtZ_1, acp_N, Option.bind_some, wp_some_iff, true_and, and_true, false_and, and_false, or_true, true_or, or_false, false_or, not_true_eq_false, not_false_eq_true, if_true, if_false, if_pos, if_neg, lt_sub, le_sub, sub_lt3, sub_le3, c3, d1, d2]
    by_cases e : ps.length = 0
    · rw [if_pos (by rw [e])]
      exact key _ (by rw [if_pos e])
    · rw [if_neg e]
      exact key _ (by rw [if_neg e])
theorem step_M {μ : Mem} {t : Nat} {w : Wd} (hw : WM μ t w) (hi : WI w) (kl : Int32 → Mem → Option Mem) (Q : Mem → Prop) (hS : ∀ w' m, stp t w = some w' → WM m t w' → Fr FGM μ m → wp (kl (nI 1) m) Q) (hN : stp t w = none → wp (kl (nI 0) μ) Q) : wp (l275_28 kl gF (nI 1, nI 0, μ)) Q := by
  obtain ⟨i1, i2, s, a, k, hs, ha, hk2, hz1, hz2, hz5, hsa⟩ := hi
  obtain ⟨w1, w2, w3, w4, w5⟩ := hw
  have hil := i1.1
  have hwl := i2.1
  have g1 := gl_142
  have g2 := gl_145
  have g3 := gl_144
  have hnt1 : nt (w.1 1) = s := by rw [hz1, nt_nI (by omega)]
  have hnt2 : nt (w.1 2) = a := by rw [hz2, nt_nI (by omega)]
  have hnt5 : nt (w.1 5) = k := by rw [hz5, nt_nI (by omega)]
  obtain ⟨z0, z1, z2, z3, z4, z5, z6, z7, z8, z9, z10⟩ := w1.a
  unfold l275_28
  refine wp_for (fun i m => (nI 1, nI i, m)) (fun i m => m = μ ∧ ∀ j, j < i → (pk w.2.1 j).2.2 = nI 0) w.2.1.length (by omega) μ _ rfl ⟨rfl, fun j hj => by omega⟩ (fun self i m hi ⟨y1, y2⟩ hk => ?_) (fun self m ⟨y1, y2⟩ => ?_)
  · subst y1
    unfold b275_28
    have e2 := w2.2.2.2 i (Nat.zero_le _) hi
    dsimp only at e2
    simp (disch := omega) only [i_0, i_1, i_2, i_3, i_4, i_5, i_6, i_7, i_8, i_9, i_10, i_11, i_12, i_13, i_14, i_15, i_16, i_17, i_18, i_19, i_20, i_21, i_22, i_23, i_24, i_25, i_26, i_27, i_31, i_32, i_40, i_42, i_45, i_48, i_51, i_52, i_56, i_58, i_59, i_60, i_61, i_62, i_63, i_64, i_85, i_90, i_100, i_112, i_120, i_121, i_127, i_128, i_130, i_144, i_171, i_192, i_193, i_197, i_200, i_207, i_235, i_240, i_248, i_252, i_254, i_255, i_256, i_512, i_544, i_768, i_769, i_793, i_1000, i_1023, i_1024, i_1200, i_1538, i_1541, i_1545, i_2046, i_2047, i_2049, i_2060, i_2736, i_2737, i_2817, i_2818, i_2819, i_2820, i_2821, i_2831, i_2832, i_3077, i_3085, i_3843, i_3849, i_3851, i_3852, i_4129, i_4353, i_4865, i_5121, i_5122, i_5123, i_6156, i_8192, i_12288, i_16383, i_32000, i_33280, i_49152, i_53247, i_60304, i_64000, i_64512, i_65521, i_65535, i_449838109, nI_add, pk_mul, pk_sub, nI_mm, nI_leI, nI_ltI, nI_eq, pk_div, jrem_N, jshl_N, jshr_N, jushr_N, jmin_N, jmax_N, an_1, an_3, an_7, an_15, an_31, an_63, an_127, an_255, an_1023, an_2047, an_16383, an_65535, nm, pfI, rdI, rdW, rdL, rdI2, rdW2, ldA_N, stA_N, stB_N, stZ_N, pfZ_0, pfZ_1, rtZ_0, rtZ_1, acp_N, Option.bind_some, wp_some_iff, true_and, and_true, false_and, and_false, or_true, true_or, or_false, false_or, not_true_eq_false, not_false_eq_true, if_true, if_false, if_pos, if_neg, lt_sub, le_sub, sub_lt3, sub_le3, w2.1, e2]
    by_cases e : (pk w.2.1 i).2.2 = nI 0
    · rw [if_pos e]
      refine hk _ ⟨rfl, fun j hj => ?_⟩
      by_cases e2 : j = i
      · rw [e2]; exact e
      · exact y2 j (by omega)
    · rw [if_neg e]
      have hfm := fm_eq w.2.1 i y2 (Or.inr ⟨hi, e⟩)
      obtain ⟨o1, o2, o3⟩ := w2.2.1 i (Nat.zero_le _) hi
      dsimp only at o1 o2 o3
      unfold c275_51 c275_356
      simp (disch := omega) only [i_0, i_1, i_2, i_3, i_4, i_5, i_6, i_7, i_8, i_9, i_10, i_11, i_12, i_13, i_14, i_15, i_16, i_17, i_18, i_19, i_20, i_21, i_22, i_23, i_24, i_25, i_26, i_27, i_31, i_32, i_40, i_42, i_45, i_48, i_51, i_52, i_56, i_58, i_59, i_60, i_61, i_62, i_63, i_64, i_85, i_90, i_100, i_112, i_120, i_121, i_127, i_128, i_130, i_144, i_171, i_192, i_193, i_197, i_200, i_207, i_235, i_240, i_248, i_252, i_254, i_255, i_256, i_512, i_544, i_768, i_769, i_793, i_1000, i_1023, i_1024, i_1200, i_1538, i_1541, i_1545, i_2046, i_2047, i_2049, i_2060, i_2736, i_2737, i_2817, i_2818, i_2819, i_2820, i_2821, i_2831, i_2832, i_3077, i_3085, i_3843, i_3849, i_3851, i_3852, i_4129, i_4353, i_4865, i_5121, i_5122, i_5123, i_6156, i_8192, i_12288, i_16383, i_32000, i_33280, i_49152, i_53247, i_60304, i_64000, i_64512, i_65521, i_65535, i_449838109, nI_add, pk_mul, pk_sub, nI_mm, nI_leI, nI_ltI, nI_eq, pk_div, jrem_N, jshl_N, jshr_N, jushr_N, jmin_N, jmax_N, an_1, an_3, an_7, an_15, an_31, an_63, an_127, an_255, an_1023, an_2047, an_16383, an_65535, nm, pfI, rdI, rdW, rdL, rdI2, rdW2, ldA_N, stA_N, stB_N, stZ_N, pfZ_0, pfZ_1, rtZ_0, rtZ_1, acp_N, Option.bind_some, wp_some_iff, true_and, and_true, false_and, and_false, or_true, true_or, or_false, false_or, not_true_eq_false, not_false_eq_true, if_true, if_false, if_pos, if_neg, lt_sub, le_sub, sub_lt3, sub_le3, w2.1, o1, z2, hz2]
      refine wp_bind (tx_M (fl := 0) (num := a + i) (w5.set_o (c := 142) (k := i) (x := nI 0) (by omega)) (o3.set_o (by omega)) rfl (by omega) (by omega) (by omega) (by decide)) (fun m5 ⟨h6, e6⟩ => ?_)
      have hst : stp t w = some _ := if_pos (by rw [hfm]; exact hi)
      rw [hfm, hnt2] at hst
      refine hS _ m5 hst ⟨(w1.set_o (by omega)).fr e6 (fun k _ _ => by omega), (w2.unm hi (nI 0)).fr e6 (by omega) (fun c k _ => by omega), (w3.fr (P := fun c _ => c = 142) (Fr.sI rfl) (by omega) (fun c k _ => by omega)).fr e6 (by omega) (fun c k _ => by omega), (w4.set_o (by omega)).fr e6 (by omega) (fun c k _ _ => by omega), h6⟩ ((Fr.sI (by omega)).tr e6 (fun _ _ q => q) (by intro c k h; omega))
  · subst y1
    unfold b275_28
    simp (disch := omega) only [i_0, i_1, i_2, i_3, i_4, i_5, i_6, i_7, i_8, i_9, i_10, i_11, i_12, i_13, i_14, i_15, i_16, i_17, i_18, i_19, i_20, i_21, i_22, i_23, i_24, i_25, i_26, i_27, i_31, i_32, i_40, i_42, i_45, i_48, i_51, i_52, i_56, i_58, i_59, i_60, i_61, i_62, i_63, i_64, i_85, i_90, i_100, i_112, i_120, i_121, i_127, i_128, i_130, i_144, i_171, i_192, i_193, i_197, i_200, i_207, i_235, i_240, i_248, i_252, i_254, i_255, i_256, i_512, i_544, i_768, i_769, i_793, i_1000, i_1023, i_1024, i_1200, i_1538, i_1541, i_1545, i_2046, i_2047, i_2049, i_2060, i_2736, i_2737, i_2817, i_2818, i_2819, i_2820, i_2821, i_2831, i_2832, i_3077, i_3085, i_3843, i_3849, i_3851, i_3852, i_4129, i_4353, i_4865, i_5121, i_5122, i_5123, i_6156, i_8192, i_12288, i_16383, i_32000, i_33280, i_49152, i_53247, i_60304, i_64000, i_64512, i_65521, i_65535, i_449838109, nI_add, pk_mul, pk_sub, nI_mm, nI_leI, nI_ltI, nI_eq, pk_div, jrem_N, jshl_N, jshr_N, jushr_N, jmin_N, jmax_N, an_1, an_3, an_7, an_15, an_31, an_63, an_127, an_255, an_1023, an_2047, an_16383, an_65535, nm, pfI, rdI, rdW, rdL, rdI2, rdW2, ldA_N, stA_N, stB_N, stZ_N, pfZ_0, pfZ_1, rtZ_0, rtZ_1, acp_N, Option.bind_some, wp_some_iff, true_and, and_true, false_and, and_false, or_true, true_or, or_false, false_or, not_true_eq_false, not_false_eq_true, if_true, if_false, if_pos, if_neg, lt_sub, le_sub, sub_lt3, sub_le3, w2.1]
    have hfm := fm_eq w.2.1 _ y2 (Or.inl rfl)
    by_cases q2 : 0 < w.2.2.1.length ∧ w.2.1.length < k
    · refine launch_M w1 w2 w3 w4 w5 hz1 hs hz5 q2.2 hk2 q2.1 i1 i2 _ _ (fun m x1 x2 => ?_)
      refine hS _ m ?_ x1 x2
      unfold stp
      rw [if_neg (by omega), if_pos (by rw [hnt5]; exact q2), hnt1]
    · have hst : stp t w = none := by
        unfold stp
        rw [if_neg (by omega), if_neg (by rw [hnt5]; exact q2)]
      unfold c275_51 c275_354 c275_356
      by_cases q3 : w.2.2.1.length = 0
      · simp (disch := omega) only [i_0, i_1, i_2, i_3, i_4, i_5, i_6, i_7, i_8, i_9, i_10, i_11, i_12, i_13, i_14, i_15, i_16, i_17, i_18, i_19, i_20, i_21, i_22, i_23, i_24, i_25, i_26, i_27, i_31, i_32, i_40, i_42, i_45, i_48, i_51, i_52, i_56, i_58, i_59, i_60, i_61, i_62, i_63, i_64, i_85, i_90, i_100, i_112, i_120, i_121, i_127, i_128, i_130, i_144, i_171, i_192, i_193, i_197, i_200, i_207, i_235, i_240, i_248, i_252, i_254, i_255, i_256, i_512, i_544, i_768, i_769, i_793, i_1000, i_1023, i_1024, i_1200, i_1538, i_1541, i_1545, i_2046, i_2047, i_2049, i_2060, i_2736, i_2737, i_2817, i_2818, i_2819, i_2820, i_2821, i_2831, i_2832, i_3077, i_3085, i_3843, i_3849, i_3851, i_3852, i_4129, i_4353, i_4865, i_5121, i_5122, i_5123, i_6156, i_8192, i_12288, i_16383, i_32000, i_33280, i_49152, i_53247, i_60304, i_64000, i_64512, i_65521, i_65535, i_449838109, nI_add, pk_mul, pk_sub, nI_mm, nI_leI, nI_ltI, nI_eq, pk_div, jrem_N, jshl_N, jshr_N, jushr_N, jmin_N, jmax_N, an_1, an_3, an_7, an_15, an_31, an_63, an_127, an_255, an_1023, an_2047, an_16383, an_65535, nm, pfI, rdI, rdW, rdL, rdI2, rdW2, ldA_N, stA_N, stB_N, stZ_N, pfZ_0, pfZ_1, rtZ_0, rtZ_1, acp_N, Option.bind_some, wp_some_iff, true_and, and_true, false_and, and_false, or_true, true_or, or_false, false_or, not_true_eq_false, not_false_eq_true, if_true, if_false, if_pos, if_neg, lt_sub, le_sub, sub_lt3, sub_le3, w2.1, w3.1]
        exact hN hst
      · simp (disch := omega) only [i_0, i_1, i_2, i_3, i_4, i_5, i_6, i_7, i_8, i_9, i_10, i_11, i_12, i_13, i_14, i_15, i_16, i_17, i_18, i_19, i_20, i_21, i_22, i_23, i_24, i_25, i_26, i_27, i_31, i_32, i_40, i_42, i_45, i_48, i_51, i_52, i_56, i_58, i_59, i_60, i_61, i_62, i_63, i_64, i_85, i_90, i_100, i_112, i_120, i_121, i_127, i_128, i_130, i_144, i_171, i_192, i_193, i_197, i_200, i_207, i_235, i_240, i_248, i_252, i_254, i_255, i_256, i_512, i_544, i_768, i_769, i_793, i_1000, i_1023, i_1024, i_1200, i_1538, i_1541, i_1545, i_2046, i_2047, i_2049, i_2060, i_2736, i_2737, i_2817, i_2818, i_2819, i_2820, i_2821, i_2831, i_2832, i_3077, i_3085, i_3843, i_3849, i_3851, i_3852, i_4129, i_4353, i_4865, i_5121, i_5122, i_5123, i_6156, i_8192, i_12288, i_16383, i_32000, i_33280, i_49152, i_53247, i_60304, i_64000, i_64512, i_65521, i_65535, i_449838109, nI_add, pk_mul, pk_sub, nI_mm, nI_leI, nI_ltI, nI_eq, pk_div, jrem_N, jshl_N, jshr_N, jushr_N, jmin_N, jmax_N, an_1, an_3, an_7, an_15, an_31, an_63, an_127, an_255, an_1023, an_2047, an_16383, an_65535, nm, pfI, rdI, rdW, rdL, rdI2, rdW2, ldA_N, stA_N, stB_N, stZ_N, pfZ_0, pfZ_1, rtZ_0, rtZ_1, acp_N, Option.bind_some, wp_some_iff, true_and, and_true, false_and, and_false, or_true, true_or, or_false, false_or, not_true_eq_false, not_false_eq_true, if_true, if_false, if_pos, if_neg, lt_sub, le_sub, sub_lt3, sub_le3, w2.1, w3.1, z5, hz5]
        exact hN hst
def mkc : List Pk → Nat
  | [] => 0
  | p :: ps => (if p.2.2 = nI 0 then 0 else 1) + mkc ps
theorem mkc_le : ∀ ps : List Pk, mkc ps ≤ ps.length
  | [] => Nat.le_refl _
  | p :: ps => by
    have := mkc_le ps
    unfold mkc
    rw [List.length_cons]
    by_cases e : p.2.2 = nI 0
    · rw [if_pos e]; omega
    · rw [if_neg e]; omega
theorem mkc_app : ∀ (ps : List Pk) (p : Pk), p.2.2 = nI 0 → mkc (ps ++ [p]) = mkc ps
  | [], p, h => by show (if p.2.2 = nI 0 then 0 else 1) + 0 = 0; rw [if_pos h]
  | a :: ps, p, h => by
    show (if a.2.2 = nI 0 then 0 else 1) + mkc (ps ++ [p]) = (if a.2.2 = nI 0 then 0 else 1) + mkc ps
    rw [mkc_app ps p h]
theorem mkc_set : ∀ (ps : List Pk) (x : List Nat) (y : Int32), fm ps < ps.length → mkc (ps.set (fm ps) (x, y, nI 0)) + 1 = mkc ps
  | [], x, y, h => absurd h (Nat.not_lt_zero _)
  | a :: ps, x, y, h => by
    unfold fm at h ⊢
    by_cases e : a.2.2 = nI 0
    · rw [if_pos e] at h ⊢
      rw [List.length_cons] at h
      have := mkc_set ps x y (by omega)
      show (if a.2.2 = nI 0 then 0 else 1) + mkc (ps.set (fm ps) (x, y, nI 0)) + 1 = (if a.2.2 = nI 0 then 0 else 1) + mkc ps
      rw [if_pos e]
      omega
    · rw [if_neg e]
      show (if nI 0 = nI 0 then 0 else 1) + mkc ps + 1 = (if a.2.2 = nI 0 then 0 else 1) + mkc ps
      rw [if_neg e, if_pos rfl]
      omega
theorem stp_m {t : Nat} {w w' : Wd} (h : stp t w = some w') : mkc w'.2.1 + w'.2.2.1.length + 1 = mkc w.2.1 + w.2.2.1.length := by
  unfold stp at h
  by_cases q1 : fm w.2.1 < w.2.1.length
  · rw [if_pos q1] at h
    cases h
    have := mkc_set w.2.1 (pk w.2.1 (fm w.2.1)).1 (pk w.2.1 (fm w.2.1)).2.1 q1
    dsimp only
    omega
  · rw [if_neg q1] at h
    by_cases q2 : 0 < w.2.2.1.length ∧ w.2.1.length < nt (w.1 5)
    · rw [if_pos q2] at h
      cases h
      dsimp only
      rw [mkc_app _ _ rfl, era_len q2.1]
      omega
    · rw [if_neg q2] at h
      cases h
theorem go_M {μ : Mem} {t : Nat} {w : Wd} (hw : WM μ t w) (hi : WI w) : wp (f275 μ) (fun m => WM m t (goW t w) ∧ Fr FGM μ m) := by
  obtain ⟨z0, z1, z2, z3, z4, z5, z6, z7, z8, z9, z10⟩ := hw.1.a
  have key : ∀ v : Int32, v = (if w.1 0 = nI 1 ∨ w.1 0 = nI 2 then nI 1 else nI 0) → wp (c275_21 v μ) (fun m => WM m t (goW t w) ∧ Fr FGM μ m) := by
    intro v hv
    unfold c275_21 l275_22
    by_cases q0 : w.1 0 = nI 1 ∨ w.1 0 = nI 2
    · rw [if_pos q0] at hv
      subst hv
      rw [goW, if_pos q0]
      have hm0 : mkc w.2.1 + w.2.2.1.length ≤ 64 := by
        have := mkc_le w.2.1
        have := hi.1.1
        have := hi.2.1.1
        omega
      refine wp_for (γ := Int32 × Mem) (fun i x => x) (fun i x => (i ≤ 64 ∧ x.1 = nI 1 ∧ ∃ w', WM x.2 t w' ∧ WI w' ∧ goF t (64 - i) w' = goF t 64 w ∧ mkc w'.2.1 + w'.2.2.1.length ≤ 64 - i ∧ Fr FGM μ x.2) ∨ x.1 = nI 0 ∧ WM x.2 t (goF t 64 w) ∧ Fr FGM μ x.2) 65 (by omega) (nI 1, μ) _ rfl (Or.inl ⟨by omega, rfl, w, hw, hi, rfl, hm0, Fr.rf⟩) (fun self i x hi2 y hk => ?_) (fun self x y => ?_)
      · obtain ⟨v, m⟩ := x
        unfold b275_22
        dsimp only at y ⊢
        rcases y with ⟨q1, rfl, w', y1, y2, y3, y4, y5⟩ | ⟨rfl, y1, y2⟩
        · simp (disch := omega) only [i_0, i_1, i_2, i_3, i_4, i_5, i_6, i_7, i_8, i_9, i_10, i_11, i_12, i_13, i_14, i_15, i_16, i_17, i_18, i_19, i_20, i_21, i_22, i_23, i_24, i_25, i_26, i_27, i_31, i_32, i_40, i_42, i_45, i_48, i_51, i_52, i_56, i_58, i_59, i_60, i_61, i_62, i_63, i_64, i_85, i_90, i_100, i_112, i_120, i_121, i_127, i_128, i_130, i_144, i_171, i_192, i_193, i_197, i_200, i_207, i_235, i_240, i_248, i_252, i_254, i_255, i_256, i_512, i_544, i_768, i_769, i_793, i_1000, i_1023, i_1024, i_1200, i_1538, i_1541, i_1545, i_2046, i_2047, i_2049, i_2060, i_2736, i_2737, i_2817, i_2818, i_2819, i_2820, i_2821, i_2831, i_2832, i_3077, i_3085, i_3843, i_3849, i_3851, i_3852, i_4129, i_4353, i_4865, i_5121, i_5122, i_5123, i_6156, i_8192, i_12288, i_16383, i_32000, i_33280, i_49152, i_53247, i_60304, i_64000, i_64512, i_65521, i_65535, i_449838109, nI_add, pk_mul, pk_sub, nI_mm, nI_leI, nI_ltI, nI_eq, pk_div, jrem_N, jshl_N, jshr_N, jushr_N, jmin_N, jmax_N, an_1, an_3, an_7, an_15, an_31, an_63, an_127, an_255, an_1023, an_2047, an_16383, an_65535, nm, pfI, rdI, rdW, rdL, rdI2, rdW2, ldA_N, stA_N, stB_N, stZ_N, pfZ_0, pfZ_1, rtZ_0, rtZ_1, acp_N, Option.bind_some, wp_some_iff, true_and, and_true, false_and, and_false, or_true, true_or, or_false, false_or, not_true_eq_false, not_false_eq_true, if_true, if_false, if_pos, if_neg, lt_sub, le_sub, sub_lt3, sub_le3]
          refine step_M y1 y2 _ _ (fun w2 m2 x1 x2 x3 => ?_) (fun x1 => ?_)
          · have := stp_m x1
            refine hk (nI 1, m2) (Or.inl ⟨by omega, rfl, w2, x2, stp_I y2 x1, ?_, by omega, y5.tr' x3⟩)
            rw [← y3, show 64 - i = (64 - (i + 1)) + 1 by omega, goF_s x1]
          · rw [goF_n x1] at y3
            exact hk (nI 0, m) (Or.inr ⟨rfl, by rw [← y3]; exact y1, y5⟩)
        · simp (disch := omega) only [i_0, i_1, i_2, i_3, i_4, i_5, i_6, i_7, i_8, i_9, i_10, i_11, i_12, i_13, i_14, i_15, i_16, i_17, i_18, i_19, i_20, i_21, i_22, i_23, i_24, i_25, i_26, i_27, i_31, i_32, i_40, i_42, i_45, i_48, i_51, i_52, i_56, i_58, i_59, i_60, i_61, i_62, i_63, i_64, i_85, i_90, i_100, i_112, i_120, i_121, i_127, i_128, i_130, i_144, i_171, i_192, i_193, i_197, i_200, i_207, i_235, i_240, i_248, i_252, i_254, i_255, i_256, i_512, i_544, i_768, i_769, i_793, i_1000, i_1023, i_1024, i_1200, i_1538, i_1541, i_1545, i_2046, i_2047, i_2049, i_2060, i_2736, i_2737, i_2817, i_2818, i_2819, i_2820, i_2821, i_2831, i_2832, i_3077, i_3085, i_3843, i_3849, i_3851, i_3852, i_4129, i_4353, i_4865, i_5121, i_5122, i_5123, i_6156, i_8192, i_12288, i_16383, i_32000, i_33280, i_49152, i_53247, i_60304, i_64000, i_64512, i_65521, i_65535, i_449838109, nI_add, pk_mul, pk_sub, nI_mm, nI_leI, nI_ltI, nI_eq, pk_div, jrem_N, jshl_N, jshr_N, jushr_N, jmin_N, jmax_N, an_1, an_3, an_7, an_15, an_31, an_63, an_127, an_255, an_1023, an_2047, an_16383, an_65535, nm, pfI, rdI, rdW, rdL, rdI2, rdW2, ldA_N, stA_N, stB_N, stZ_N, pfZ_0, pfZ_1, rtZ_0, rtZ_1, acp_N, Option.bind_some, wp_some_iff, true_and, and_true, false_and, and_false, or_true, true_or, or_false, false_or, not_true_eq_false, not_false_eq_true, if_true, if_false, if_pos, if_neg, lt_sub, le_sub, sub_lt3, sub_le3]
          exact ⟨y1, y2⟩
      · obtain ⟨v, m⟩ := x
        unfold b275_22
        dsimp only at y ⊢
        rcases y with ⟨q1, _⟩ | ⟨rfl, y1, y2⟩
        · omega
        · simp (disch := omega) only [i_0, i_1, i_2, i_3, i_4, i_5, i_6, i_7, i_8, i_9, i_10, i_11, i_12, i_13, i_14, i_15, i_16, i_17, i_18, i_19, i_20, i_21, i_22, i_23, i_24, i_25, i_26, i_27, i_31, i_32, i_40, i_42, i_45, i_48, i_51, i_52, i_56, i_58, i_59, i_60, i_61, i_62, i_63, i_64, i_85, i_90, i_100, i_112, i_120, i_121, i_127, i_128, i_130, i_144, i_171, i_192, i_193, i_197, i_200, i_207, i_235, i_240, i_248, i_252, i_254, i_255, i_256, i_512, i_544, i_768, i_769, i_793, i_1000, i_1023, i_1024, i_1200, i_1538, i_1541, i_1545, i_2046, i_2047, i_2049, i_2060, i_2736, i_2737, i_2817, i_2818, i_2819, i_2820, i_2821, i_2831, i_2832, i_3077, i_3085, i_3843, i_3849, i_3851, i_3852, i_4129, i_4353, i_4865, i_5121, i_5122, i_5123, i_6156, i_8192, i_12288, i_16383, i_32000, i_33280, i_49152, i_53247, i_60304, i_64000, i_64512, i_65521, i_65535, i_449838109, nI_add, pk_mul, pk_sub, nI_mm, nI_leI, nI_ltI, nI_eq, pk_div, jrem_N, jshl_N, jshr_N, jushr_N, jmin_N, jmax_N, an_1, an_3, an_7, an_15, an_31, an_63, an_127, an_255, an_1023, an_2047, an_16383, an_65535, nm, pfI, rdI, rdW, rdL, rdI2, rdW2, ldA_N, stA_N, stB_N, stZ_N, pfZ_0, pfZ_1, rtZ_0, rtZ_1, acp_N, Option.bind_some, wp_some_iff, true_and, and_true, false_and, and_false, or_true, true_or, or_false, false_or, not_true_eq_false, not_false_eq_true, if_true, if_false, if_pos, if_neg, lt_sub, le_sub, sub_lt3, sub_le3]
          exact ⟨y1, y2⟩
    · rw [if_neg q0] at hv
      subst hv
      rw [goW, if_neg q0]
      refine wp_for (fun i m => (nI 0, m)) (fun i m => m = μ) 1 (by omega) μ _ rfl rfl (fun self i m hi2 y1 hk => ?_) (fun self m y1 => ?_)
      · subst y1
        unfold b275_22
        simp (disch := omega) only [i_0, i_1, i_2, i_3, i_4, i_5, i_6, i_7, i_8, i_9, i_10, i_11, i_12, i_13, i_14, i_15, i_16, i_17, i_18, i_19, i_20, i_21, i_22, i_23, i_24, i_25, i_26, i_27, i_31, i_32, i_40, i_42, i_45, i_48, i_51, i_52, i_56, i_58, i_59, i_60, i_61, i_62, i_63, i_64, i_85, i_90, i_100, i_112, i_120, i_121, i_127, i_128, i_130, i_144, i_171, i_192, i_193, i_197, i_200, i_207, i_235, i_240, i_248, i_252, i_254, i_255, i_256, i_512, i_544, i_768, i_769, i_793, i_1000, i_1023, i_1024, i_1200, i_1538, i_1541, i_1545, i_2046, i_2047, i_2049, i_2060, i_2736, i_2737, i_2817, i_2818, i_2819, i_2820, i_2821, i_2831, i_2832, i_3077, i_3085, i_3843, i_3849, i_3851, i_3852, i_4129, i_4353, i_4865, i_5121, i_5122, i_5123, i_6156, i_8192, i_12288, i_16383, i_32000, i_33280, i_49152, i_53247, i_60304, i_64000, i_64512, i_65521, i_65535, i_449838109, nI_add, pk_mul, pk_sub, nI_mm, nI_leI, nI_ltI, nI_eq, pk_div, jrem_N, jshl_N, jshr_N, jushr_N, jmin_N, jmax_N, an_1, an_3, an_7, an_15, an_31, an_63, an_127, an_255, an_1023, an_2047, an_16383, an_65535, nm, pfI, rdI, rdW, rdL, rdI2, rdW2, ldA_N, stA_N, stB_N, stZ_N, pfZ_0, pfZ_1, rtZ_0, rtZ_1, acp_N, Option.bind_some, wp_some_iff, true_and, and_true, false_and, and_false, or_true, true_or, or_false, false_or, not_true_eq_false, not_false_eq_true, if_true, if_false, if_pos, if_neg, lt_sub, le_sub, sub_lt3, sub_le3]
        exact ⟨hw, Fr.rf⟩
      · subst y1
        unfold b275_22
        simp (disch := omega) only [i_0, i_1, i_2, i_3, i_4, i_5, i_6, i_7, i_8, i_9, i_10, i_11, i_12, i_13, i_14, i_15, i_16, i_17, i_18, i_19, i_20, i_21, i_22, i_23, i_24, i_25, i_26, i_27, i_31, i_32, i_40, i_42, i_45, i_48, i_51, i_52, i_56, i_58, i_59, i_60, i_61, i_62, i_63, i_64, i_85, i_90, i_100, i_112, i_120, i_121, i_127, i_128, i_130, i_144, i_171, i_192, i_193, i_197, i_200, i_207, i_235, i_240, i_248, i_252, i_254, i_255, i_256, i_512, i_544, i_768, i_769, i_793, i_1000, i_1023, i_1024, i_1200, i_1538, i_1541, i_1545, i_2046, i_2047, i_2049, i_2060, i_2736, i_2737, i_2817, i_2818, i_2819, i_2820, i_2821, i_2831, i_2832, i_3077, i_3085, i_3843, i_3849, i_3851, i_3852, i_4129, i_4353, i_4865, i_5121, i_5122, i_5123, i_6156, i_8192, i_12288, i_16383, i_32000, i_33280, i_49152, i_53247, i_60304, i_64000, i_64512, i_65521, i_65535, i_449838109, nI_add, pk_mul, pk_sub, nI_mm, nI_leI, nI_ltI, nI_eq, pk_div, jrem_N, jshl_N, jshr_N, jushr_N, jmin_N, jmax_N, an_1, an_3, an_7, an_15, an_31, an_63, an_127, an_255, an_1023, an_2047, an_16383, an_65535, nm, pfI, rdI, rdW, rdL, rdI2, rdW2, ldA_N, stA_N, stB_N, stZ_N, pfZ_0, pfZ_1, rtZ_0, rtZ_1, acp_N, Option.bind_some, wp_some_iff, true_and, and_true, false_and, and_false, or_true, true_or, or_false, false_or, not_true_eq_false, not_false_eq_true, if_true, if_false, if_pos, if_neg, lt_sub, le_sub, sub_lt3, sub_le3]
        exact ⟨hw, Fr.rf⟩
  unfold f275 c275_16
  simp (disch := omega) only [i_0, i_1, i_2, i_3, i_4, i_5, i_6, i_7, i_8, i_9, i_10, i_11, i_12, i_13, i_14, i_15, i_16, i_17, i_18, i_19, i_20, i_21, i_22, i_23, i_24, i_25, i_26, i_27, i_31, i_32, i_40, i_42, i_45, i_48, i_51, i_52, i_56, i_58, i_59, i_60, i_61, i_62, i_63, i_64, i_85, i_90, i_100, i_112, i_120, i_121, i_127, i_128, i_130, i_144, i_171, i_192, i_193, i_197, i_200, i_207, i_235, i_240, i_248, i_252, i_254, i_255, i_256, i_512, i_544, i_768, i_769, i_793, i_1000, i_1023, i_1024, i_1200, i_1538, i_1541, i_1545, i_2046, i_2047, i_2049, i_2060, i_2736, i_2737, i_2817, i_2818, i_2819, i_2820, i_2821, i_2831, i_2832, i_3077, i_3085, i_3843, i_3849, i_3851, i_3852, i_4129, i_4353, i_4865, i_5121, i_5122, i_5123, i_6156, i_8192, i_12288, i_16383, i_32000, i_33280, i_49152, i_53247, i_60304, i_64000, i_64512, i_65521, i_65535, i_449838109, nI_add, pk_mul, pk_sub, nI_mm, nI_leI, nI_ltI, nI_eq, pk_div, jrem_N, jshl_N, jshr_N, jushr_N, jmin_N, jmax_N, an_1, an_3, an_7, an_15, an_31, an_63, an_127, an_255, an_1023, an_2047, an_16383, an_65535, nm, pfI, rdI, rdW, rdL, rdI2, rdW2, ldA_N, stA_N, stB_N, stZ_N, pfZ_0, pfZ_1, rtZ_0, rtZ_1, acp_N, Option.bind_some, wp_some_iff, true_and, and_true, false_and, and_false, or_true, true_or, or_false, false_or, not_true_eq_false, not_false_eq_true, if_true, if_false, if_pos, if_neg, lt_sub, le_sub, sub_lt3, sub_le3, z0]
  by_cases q1 : w.1 0 = nI 1
  · rw [if_pos q1]
    exact key _ (by rw [if_pos (Or.inl q1)])
  · rw [if_neg q1]
    by_cases q2 : w.1 0 = nI 2
    · rw [if_pos q2]
      exact key _ (by rw [if_pos (Or.inr q2)])
    · rw [if_neg q2]
      exact key _ (by rw [if_neg (fun e => e.elim q1 q2)])
