/-! ===== requests that are run: what a package holds; values ===== -/
theorem Pkg.fitn {bs : List Nat} (h : Pkg bs) : ∃ j, j < 38 ∧ svc j = bs.getD 7 0 ∧ sbc j = bs.getD 8 0 ∧ fit1 j bs = true ∧ rng (256 * svc j + sbc j) bs = true := by
  obtain ⟨_, _, j, h1, h2⟩ := h
  obtain ⟨a, b, c⟩ := fsh_of h1
  unfold fit at h2
  rw [Bool.and_eq_true] at h2
  exact ⟨j, a, b, c, h2.1, h2.2⟩
theorem fit_0 {j : Nat} {bs : List Nat} (h : fit1 j bs = true) (hp : plc j = 100) : bs.length = lnc j + 13 := by
  unfold fit1 at h
  rw [if_neg (by omega), if_pos hp] at h
  exact of_decide_eq_true h
theorem fit_p {j : Nat} {bs : List Nat} (h : fit1 j bs = true) (hp : plc j = 200) : lnc j + 26 ≤ bs.length ∧ bs.length ≤ lnc j + 53 := by
  unfold fit1 at h
  rw [if_pos hp] at h
  exact of_decide_eq_true h
theorem fit_n {j : Nat} {bs : List Nat} (h : fit1 j bs = true) (hp : plc j < 100) : lnc j + 13 ≤ bs.length ∧ 1 ≤ bs.getD (11 + plc j) 0 ∧ bs.getD (11 + plc j) 0 ≤ mxc j ∧ bs.length = lnc j + 13 + bs.getD (11 + plc j) 0 * eac j := by
  unfold fit1 at h
  rw [if_neg (by omega), if_neg (by omega)] at h
  exact of_decide_eq_true h
theorem sv_of : ∀ j, j < 38 → svc j = 3 ∧ j ≤ 4 ∨ svc j = 5 ∧ 5 ≤ j ∧ j ≤ 6 ∨ svc j = 6 ∧ 7 ≤ j ∧ j ≤ 9 ∨ svc j = 8 ∧ j = 10 ∨ svc j = 11 ∧ 11 ≤ j ∧ j ≤ 19 ∨ svc j = 12 ∧ 20 ≤ j ∧ j ≤ 24 ∨ svc j = 15 ∧ 25 ≤ j ∧ j ≤ 30 ∨ svc j = 17 ∧ j = 31 ∨ svc j = 19 ∧ 32 ≤ j ∧ j ≤ 35 ∨ svc j = 20 ∧ 36 ≤ j := by decide
theorem Pkg.sv {bs : List Nat} (h : Pkg bs) : bs.getD 7 0 = 3 ∨ bs.getD 7 0 = 5 ∨ bs.getD 7 0 = 6 ∨ bs.getD 7 0 = 8 ∨ bs.getD 7 0 = 11 ∨ bs.getD 7 0 = 12 ∨ bs.getD 7 0 = 15 ∨ bs.getD 7 0 = 17 ∨ bs.getD 7 0 = 19 ∨ bs.getD 7 0 = 20 := by
  obtain ⟨j, h1, h2, h3, h4, h5⟩ := h.fitn
  have := sv_of j h1
  omega
theorem Pkg.s3 {bs : List Nat} (h : Pkg bs) (h7 : bs.getD 7 0 = 3) : bs.getD 8 0 = 1 ∧ 1 ≤ bs.getD 14 0 ∧ bs.getD 14 0 ≤ 8 ∧ bs.length = 17 + bs.getD 14 0 ∧ 1 ≤ w2 bs 12 ∨ (bs.getD 8 0 = 3 ∨ bs.getD 8 0 = 5 ∨ bs.getD 8 0 = 6 ∨ bs.getD 8 0 = 27) ∧ bs.length = 14 := by
  obtain ⟨j, h1, h2, h3, h4, h5⟩ := h.fitn
  have q := sv_of j h1
  have : j = 0 ∨ j = 1 ∨ j = 2 ∨ j = 3 ∨ j = 4 := by omega
  rcases this with rfl | rfl | rfl | rfl | rfl
  · have f := fit_n h4 (by decide)
    rw [show plc 0 = 3 from rfl, show lnc 0 = 4 from rfl, show mxc 0 = 8 from rfl, show eac 0 = 1 from rfl, show 11 + 3 = 14 from rfl] at f
    rw [show sbc 0 = 1 from rfl] at h3
    have r : rng 769 bs = true := h5
    unfold rng at r
    rw [if_pos rfl] at r
    have r2 := of_decide_eq_true r
    omega
  all_goals
    have f := fit_0 h4 (by decide)
    refine Or.inr ⟨?_, f⟩
    rw [← h3]
    decide
theorem Pkg.s5 {bs : List Nat} (h : Pkg bs) (h7 : bs.getD 7 0 = 5) : (bs.getD 8 0 = 5 ∨ bs.getD 8 0 = 6) ∧ bs.length = 14 := by
  obtain ⟨j, h1, h2, h3, h4, h5⟩ := h.fitn
  have q := sv_of j h1
  have : j = 5 ∨ j = 6 := by omega
  rcases this with rfl | rfl
  all_goals
    have f := fit_0 h4 (by decide)
    refine ⟨?_, f⟩
    rw [← h3]
    decide
theorem Pkg.s6 {bs : List Nat} (h : Pkg bs) (h7 : bs.getD 7 0 = 6) : bs.getD 8 0 = 2 ∧ 1 ≤ bs.getD 13 0 ∧ bs.getD 13 0 ≤ 32 ∧ bs.length = 16 + bs.getD 13 0 ∨ bs.getD 8 0 = 5 ∧ 1 ≤ bs.getD 13 0 ∧ bs.getD 13 0 ≤ 64 ∧ bs.length = 16 ∨ bs.getD 8 0 = 9 ∧ bs.length = 17 ∧ 1 ≤ w2 bs 13 := by
  obtain ⟨j, h1, h2, h3, h4, h5⟩ := h.fitn
  have q := sv_of j h1
  have : j = 7 ∨ j = 8 ∨ j = 9 := by omega
  rcases this with rfl | rfl | rfl
  · have f := fit_n h4 (by decide)
    rw [show plc 7 = 2 from rfl, show lnc 7 = 3 from rfl, show mxc 7 = 32 from rfl, show eac 7 = 1 from rfl, show 11 + 2 = 13 from rfl] at f
    rw [show sbc 7 = 2 from rfl] at h3
    omega
  · have f := fit_n h4 (by decide)
    rw [show plc 8 = 2 from rfl, show lnc 8 = 3 from rfl, show mxc 8 = 64 from rfl, show eac 8 = 0 from rfl, show 11 + 2 = 13 from rfl] at f
    rw [show sbc 8 = 5 from rfl] at h3
    omega
  · have f := fit_0 h4 (by decide)
    rw [show lnc 9 = 4 from rfl] at f
    rw [show sbc 9 = 9 from rfl] at h3
    have r : rng 1545 bs = true := h5
    unfold rng at r
    rw [if_neg (by decide), if_pos rfl] at r
    have r2 := of_decide_eq_true r
    omega
theorem Pkg.s8 {bs : List Nat} (h : Pkg bs) (h7 : bs.getD 7 0 = 8) : bs.getD 8 0 = 1 ∧ bs.length = 18 := by
  obtain ⟨j, h1, h2, h3, h4, h5⟩ := h.fitn
  have q := sv_of j h1
  have : j = 10 := by omega
  subst this
  exact ⟨h3.symm, fit_0 h4 (by decide)⟩
theorem Pkg.s11 {bs : List Nat} (h : Pkg bs) (h7 : bs.getD 7 0 = 11) : (bs.getD 8 0 = 1 ∨ bs.getD 8 0 = 2 ∨ bs.getD 8 0 = 3 ∨ bs.getD 8 0 = 16) ∧ bs.length = 13 ∨ bs.getD 8 0 = 4 ∧ 31 ≤ bs.length ∧ bs.length ≤ 58 ∨ bs.getD 8 0 = 5 ∧ bs.length = 15 ∨ bs.getD 8 0 = 15 ∧ bs.length = 17 ∨ (bs.getD 8 0 = 20 ∨ bs.getD 8 0 = 21) ∧ bs.length = 14 := by
  obtain ⟨j, h1, h2, h3, h4, h5⟩ := h.fitn
  have q := sv_of j h1
  have : j = 11 ∨ j = 12 ∨ j = 13 ∨ j = 14 ∨ j = 15 ∨ j = 16 ∨ j = 17 ∨ j = 18 ∨ j = 19 := by omega
  rcases this with rfl | rfl | rfl | rfl | rfl | rfl | rfl | rfl | rfl
  · exact Or.inl ⟨Or.inl h3.symm, fit_0 h4 (by decide)⟩
  · exact Or.inl ⟨Or.inr (Or.inl h3.symm), fit_0 h4 (by decide)⟩
  · exact Or.inl ⟨Or.inr (Or.inr (Or.inl h3.symm)), fit_0 h4 (by decide)⟩
  · exact Or.inr (Or.inl ⟨h3.symm, fit_p h4 (by decide)⟩)
  · exact Or.inr (Or.inr (Or.inl ⟨h3.symm, fit_0 h4 (by decide)⟩))
  · exact Or.inr (Or.inr (Or.inr (Or.inl ⟨h3.symm, fit_0 h4 (by decide)⟩)))
  · exact Or.inl ⟨Or.inr (Or.inr (Or.inr h3.symm)), fit_0 h4 (by decide)⟩
  · exact Or.inr (Or.inr (Or.inr (Or.inr ⟨Or.inl h3.symm, fit_0 h4 (by decide)⟩)))
  · exact Or.inr (Or.inr (Or.inr (Or.inr ⟨Or.inr h3.symm, fit_0 h4 (by decide)⟩)))
theorem Pkg.s12 {bs : List Nat} (h : Pkg bs) (h7 : bs.getD 7 0 = 12) : (bs.getD 8 0 = 1 ∨ bs.getD 8 0 = 2 ∨ bs.getD 8 0 = 6) ∧ bs.length = 14 ∨ bs.getD 8 0 = 5 ∧ bs.length = 25 ∨ bs.getD 8 0 = 13 ∧ bs.length = 13 := by
  obtain ⟨j, h1, h2, h3, h4, h5⟩ := h.fitn
  have q := sv_of j h1
  have : j = 20 ∨ j = 21 ∨ j = 22 ∨ j = 23 ∨ j = 24 := by omega
  rcases this with rfl | rfl | rfl | rfl | rfl
  · exact Or.inl ⟨Or.inl h3.symm, fit_0 h4 (by decide)⟩
  · exact Or.inl ⟨Or.inr (Or.inl h3.symm), fit_0 h4 (by decide)⟩
  · exact Or.inr (Or.inl ⟨h3.symm, fit_0 h4 (by decide)⟩)
  · exact Or.inl ⟨Or.inr (Or.inr h3.symm), fit_0 h4 (by decide)⟩
  · exact Or.inr (Or.inr ⟨h3.symm, fit_0 h4 (by decide)⟩)
theorem Pkg.s15 {bs : List Nat} (h : Pkg bs) (h7 : bs.getD 7 0 = 15) : (bs.getD 8 0 = 1 ∨ bs.getD 8 0 = 2) ∧ bs.length = 14 ∨ bs.getD 8 0 = 3 ∧ bs.length = 16 ∨ bs.getD 8 0 = 9 ∧ bs.length = 22 ∨ bs.getD 8 0 = 11 ∧ bs.length = 18 ∨ bs.getD 8 0 = 12 ∧ bs.length = 15 ∧ bs.getD 12 0 ≤ 1 := by
  obtain ⟨j, h1, h2, h3, h4, h5⟩ := h.fitn
  have q := sv_of j h1
  have : j = 25 ∨ j = 26 ∨ j = 27 ∨ j = 28 ∨ j = 29 ∨ j = 30 := by omega
  rcases this with rfl | rfl | rfl | rfl | rfl | rfl
  · exact Or.inl ⟨Or.inl h3.symm, fit_0 h4 (by decide)⟩
  · exact Or.inl ⟨Or.inr h3.symm, fit_0 h4 (by decide)⟩
  · exact Or.inr (Or.inl ⟨h3.symm, fit_0 h4 (by decide)⟩)
  · exact Or.inr (Or.inr (Or.inl ⟨h3.symm, fit_0 h4 (by decide)⟩))
  · exact Or.inr (Or.inr (Or.inr (Or.inl ⟨h3.symm, fit_0 h4 (by decide)⟩)))
  · have r : rng 3852 bs = true := h5
    unfold rng at r
    rw [if_neg (by decide), if_neg (by decide), if_pos rfl] at r
    exact Or.inr (Or.inr (Or.inr (Or.inr ⟨h3.symm, fit_0 h4 (by decide), of_decide_eq_true r⟩)))
theorem Pkg.s17 {bs : List Nat} (h : Pkg bs) (h7 : bs.getD 7 0 = 17) : bs.getD 8 0 = 1 ∧ bs.length = 13 := by
  obtain ⟨j, h1, h2, h3, h4, h5⟩ := h.fitn
  have q := sv_of j h1
  have : j = 31 := by omega
  subst this
  exact ⟨h3.symm, fit_0 h4 (by decide)⟩
theorem Pkg.s19 {bs : List Nat} (h : Pkg bs) (h7 : bs.getD 7 0 = 19) : bs.getD 8 0 = 1 ∧ 28 ≤ bs.length ∧ bs.length ≤ 55 ∧ bs.getD 12 0 ≤ 1 ∨ (bs.getD 8 0 = 2 ∨ bs.getD 8 0 = 4 ∨ bs.getD 8 0 = 5) ∧ bs.length = 14 := by
  obtain ⟨j, h1, h2, h3, h4, h5⟩ := h.fitn
  have q := sv_of j h1
  have : j = 32 ∨ j = 33 ∨ j = 34 ∨ j = 35 := by omega
  rcases this with rfl | rfl | rfl | rfl
  · have r : rng 4865 bs = true := h5
    unfold rng at r
    rw [if_neg (by decide), if_neg (by decide), if_neg (by decide), if_pos rfl] at r
    have f := fit_p h4 (by decide)
    exact Or.inl ⟨h3.symm, f.1, f.2, of_decide_eq_true r⟩
  · exact Or.inr ⟨Or.inl h3.symm, fit_0 h4 (by decide)⟩
  · exact Or.inr ⟨Or.inr (Or.inl h3.symm), fit_0 h4 (by decide)⟩
  · exact Or.inr ⟨Or.inr (Or.inr h3.symm), fit_0 h4 (by decide)⟩
theorem Pkg.s20 {bs : List Nat} (h : Pkg bs) (h7 : bs.getD 7 0 = 20) : bs.getD 8 0 = 1 ∧ 1 ≤ bs.getD 11 0 ∧ bs.getD 11 0 ≤ 8 ∧ bs.length = 14 + bs.getD 11 0 ∨ bs.getD 8 0 = 3 ∧ 1 ≤ bs.getD 11 0 ∧ bs.getD 11 0 ≤ 6 ∧ bs.length = 14 + 5 * bs.getD 11 0 := by
  obtain ⟨j, h1, h2, h3, h4, h5⟩ := h.fitn
  have q := sv_of j h1
  have : j = 36 ∨ j = 37 := by omega
  rcases this with rfl | rfl
  · have f := fit_n h4 (by decide)
    rw [show plc 36 = 0 from rfl, show lnc 36 = 1 from rfl, show mxc 36 = 8 from rfl, show eac 36 = 1 from rfl, show 11 + 0 = 11 from rfl] at f
    rw [show sbc 36 = 1 from rfl] at h3
    omega
  · have f := fit_n h4 (by decide)
    rw [show plc 37 = 0 from rfl, show lnc 37 = 1 from rfl, show mxc 37 = 6 from rfl, show eac 37 = 5 from rfl, show 11 + 0 = 11 from rfl] at f
    rw [show sbc 37 = 3 from rfl] at h3
    omega
/-! values -/
def vOf (k : Kw) (en p : Nat) : Int32 := if p = 21 then nI en else if p = 23 then nI k.1.1 else k.2.1 p
def VC (μ : Mem) (k : Kw) (en : Nat) : Prop := PaC μ k.2.1 ∧ μ.1 57 12 = nI k.1.1 ∧ μ.1 108 5 = nI en
def VM (μ : Mem) (k : Kw) (en : Nat) : Prop := PaM μ k.2.1 ∧ μ.1 129 77 = nI k.1.1 ∧ μ.1 129 130 = nI en
theorem VC.fr {μ m : Mem} {k : Kw} {en : Nat} {P : Nat → Nat → Prop} (h : VC μ k en) (ho : Fr P μ m) (h1 : ∀ c k, c = 57 ∧ k = 12 ∨ c = 124 ∨ c = 9 ∧ 8 ≤ k ∧ k ≤ 9 ∨ c = 108 ∧ k = 5 → ¬ P c k) : VC m k en :=
  ⟨h.1.fr ho (fun k => h1 _ k (by omega)) (h1 _ _ (by omega)) (h1 _ _ (by omega)), by rw [ho.1 _ _ (h1 _ _ (by omega))]; exact h.2.1, by rw [ho.1 _ _ (h1 _ _ (by omega))]; exact h.2.2⟩
theorem VM.fr {μ m : Mem} {k : Kw} {en : Nat} {P : Nat → Nat → Prop} (h : VM μ k en) (ho : Fr P μ m) (h1 : ∀ c k, c = 129 ∧ (k = 77 ∨ k = 130) ∨ c = 162 → ¬ P c k) : VM m k en :=
  ⟨h.1.fr ho (fun k => h1 _ k (by omega)), by rw [ho.1 _ _ (h1 _ _ (by omega))]; exact h.2.1, by rw [ho.1 _ _ (h1 _ _ (by omega))]; exact h.2.2⟩
theorem val_C {μ : Mem} {k : Kw} {en p : Nat} (h : VC μ k en) (hp : p < 24) : f6 (nI p) μ = some (μ, vOf k en p) := by
  have g := gl_124
  obtain ⟨⟨h1, h2, h3⟩, h4, h5⟩ := h
  unfold f6 vOf
  by_cases q16 : p = 16
  · subst q16
    simp (disch := omega) only [i_0, i_1, i_2, i_3, i_4, i_5, i_6, i_7, i_8, i_9, i_10, i_11, i_12, i_13, i_14, i_15, i_16, i_17, i_18, i_19, i_20, i_21, i_22, i_23, i_24, i_25, i_26, i_27, i_31, i_32, i_40, i_42, i_45, i_48, i_51, i_52, i_56, i_58, i_59, i_60, i_61, i_62, i_63, i_64, i_85, i_90, i_100, i_112, i_120, i_121, i_127, i_128, i_130, i_144, i_171, i_192, i_193, i_197, i_200, i_207, i_235, i_240, i_248, i_252, i_254, i_255, i_256, i_512, i_544, i_768, i_769, i_793, i_1000, i_1023, i_1024, i_1200, i_1538, i_1541, i_1545, i_2046, i_2047, i_2049, i_2060, i_2736, i_2737, i_2817, i_2818, i_2819, i_2820, i_2821, i_2831, i_2832, i_3077, i_3085, i_3843, i_3849, i_3851, i_3852, i_4129, i_4353, i_4865, i_5121, i_5122, i_5123, i_6156, i_8192, i_12288, i_16383, i_32000, i_33280, i_49152, i_53247, i_60304, i_64000, i_64512, i_65521, i_65535, i_449838109, nI_add, pk_mul, pk_sub, nI_mm, nI_leI, nI_ltI, nI_eq, pk_div, jrem_N, jshl_N, jshr_N, jushr_N, jmin_N, jmax_N, an_1, an_3, an_7, an_15, an_31, an_63, an_127, an_255, an_1023, an_2047, an_16383, an_65535, nm, pfI, rdI, rdW, rdL, rdI2, rdW2, ldA_N, stA_N, stB_N, stZ_N, pfZ_0, pfZ_1, rtZ_0, rtZ_1, acp_N, Option.bind_some, wp_some_iff, true_and, and_true, false_and, and_false, or_true, true_or, or_false, false_or, not_true_eq_false, not_false_eq_true, if_true, if_false, if_pos, if_neg, lt_sub, le_sub, sub_lt3, sub_le3, Option.bind_assoc, h2]
  · by_cases q17 : p = 17
    · subst q17
      simp (disch := omega) only [i_0, i_1, i_2, i_3, i_4, i_5, i_6, i_7, i_8, i_9, i_10, i_11, i_12, i_13, i_14, i_15, i_16, i_17, i_18, i_19, i_20, i_21, i_22, i_23, i_24, i_25, i_26, i_27, i_31, i_32, i_40, i_42, i_45, i_48, i_51, i_52, i_56, i_58, i_59, i_60, i_61, i_62, i_63, i_64, i_85, i_90, i_100, i_112, i_120, i_121, i_127, i_128, i_130, i_144, i_171, i_192, i_193, i_197, i_200, i_207, i_235, i_240, i_248, i_252, i_254, i_255, i_256, i_512, i_544, i_768, i_769, i_793, i_1000, i_1023, i_1024, i_1200, i_1538, i_1541, i_1545, i_2046, i_2047, i_2049, i_2060, i_2736, i_2737, i_2817, i_2818, i_2819, i_2820, i_2821, i_2831, i_2832, i_3077, i_3085, i_3843, i_3849, i_3851, i_3852, i_4129, i_4353, i_4865, i_5121, i_5122, i_5123, i_6156, i_8192, i_12288, i_16383, i_32000, i_33280, i_49152, i_53247, i_60304, i_64000, i_64512, i_65521, i_65535, i_449838109, nI_add, pk_mul, pk_sub, nI_mm, nI_leI, nI_ltI, nI_eq, pk_div, jrem_N, jshl_N, jshr_N, jushr_N, jmin_N, jmax_N, an_1, an_3, an_7, an_15, an_31, an_63, an_127, an_255, an_1023, an_2047, an_16383, an_65535, nm, pfI, rdI, rdW, rdL, rdI2, rdW2, ldA_N, stA_N, stB_N, stZ_N, pfZ_0, pfZ_1, rtZ_0, rtZ_1, acp_N, Option.bind_some, wp_some_iff, true_and, and_true, false_and, and_false, or_true, true_or, or_false, false_or, not_true_eq_false, not_false_eq_true, if_true, if_false, if_pos, if_neg, lt_sub, le_sub, sub_lt3, sub_le3, Option.bind_assoc, h3]
    · have e := h1 p hp q16 q17
      by_cases q21 : p = 21
      · subst q21
        simp (disch := omega) only [i_0, i_1, i_2, i_3, i_4, i_5, i_6, i_7, i_8, i_9, i_10, i_11, i_12, i_13, i_14, i_15, i_16, i_17, i_18, i_19, i_20, i_21, i_22, i_23, i_24, i_25, i_26, i_27, i_31, i_32, i_40, i_42, i_45, i_48, i_51, i_52, i_56, i_58, i_59, i_60, i_61, i_62, i_63, i_64, i_85, i_90, i_100, i_112, i_120, i_121, i_127, i_128, i_130, i_144, i_171, i_192, i_193, i_197, i_200, i_207, i_235, i_240, i_248, i_252, i_254, i_255, i_256, i_512, i_544, i_768, i_769, i_793, i_1000, i_1023, i_1024, i_1200, i_1538, i_1541, i_1545, i_2046, i_2047, i_2049, i_2060, i_2736, i_2737, i_2817, i_2818, i_2819, i_2820, i_2821, i_2831, i_2832, i_3077, i_3085, i_3843, i_3849, i_3851, i_3852, i_4129, i_4353, i_4865, i_5121, i_5122, i_5123, i_6156, i_8192, i_12288, i_16383, i_32000, i_33280, i_49152, i_53247, i_60304, i_64000, i_64512, i_65521, i_65535, i_449838109, nI_add, pk_mul, pk_sub, nI_mm, nI_leI, nI_ltI, nI_eq, pk_div, jrem_N, jshl_N, jshr_N, jushr_N, jmin_N, jmax_N, an_1, an_3, an_7, an_15, an_31, an_63, an_127, an_255, an_1023, an_2047, an_16383, an_65535, nm, pfI, rdI, rdW, rdL, rdI2, rdW2, ldA_N, stA_N, stB_N, stZ_N, pfZ_0, pfZ_1, rtZ_0, rtZ_1, acp_N, Option.bind_some, wp_some_iff, true_and, and_true, false_and, and_false, or_true, true_or, or_false, false_or, not_true_eq_false, not_false_eq_true, if_true, if_false, if_pos, if_neg, lt_sub, le_sub, sub_lt3, sub_le3, Option.bind_assoc, h5]
      · by_cases q23 : p = 23
        · subst q23
          simp (disch := omega) only [i_0, i_1, i_2, i_3, i_4, i_5, i_6, i_7, i_8, i_9, i_10, i_11, i_12, i_13, i_14, i_15, i_16, i_17, i_18, i_19, i_20, i_21, i_22, i_23, i_24, i_25, i_26, i_27, i_31, i_32, i_40, i_42, i_45, i_48, i_51, i_52, i_56, i_58, i_59, i_60, i_61, i_62, i_63, i_64, i_85, i_90, i_100, i_112, i_120, i_121, i_127, i_128, i_130, i_144, i_171, i_192, i_193, i_197, i_200, i_207, i_235, i_240, i_248, i_252, i_254, i_255, i_256, i_512, i_544, i_768, i_769, i_793, i_1000, i_1023, i_1024, i_1200, i_1538, i_1541, i_1545, i_2046, i_2047, i_2049, i_2060, i_2736, i_2737, i_2817, i_2818, i_2819, i_2820, i_2821, i_2831, i_2832, i_3077, i_3085, i_3843, i_3849, i_3851, i_3852, i_4129, i_4353, i_4865, i_5121, i_5122, i_5123, i_6156, i_8192, i_12288, i_16383, i_32000, i_33280, i_49152, i_53247, i_60304, i_64000, i_64512, i_65521, i_65535, i_449838109, nI_add, pk_mul, pk_sub, nI_mm, nI_leI, nI_ltI, nI_eq, pk_div, jrem_N, jshl_N, jshr_N, jushr_N, jmin_N, jmax_N, an_1, an_3, an_7, an_15, an_31, an_63, an_127, an_255, an_1023, an_2047, an_16383, an_65535, nm, pfI, rdI, rdW, rdL, rdI2, rdW2, ldA_N, stA_N, stB_N, stZ_N, pfZ_0, pfZ_1, rtZ_0, rtZ_1, acp_N, Option.bind_some, wp_some_iff, true_and, and_true, false_and, and_false, or_true, true_or, or_false, false_or, not_true_eq_false, not_false_eq_true, if_true, if_false, if_pos, if_neg, lt_sub, le_sub, sub_lt3, sub_le3, Option.bind_assoc, h4]
        · simp (disch := omega) only [i_0, i_1, i_2, i_3, i_4, i_5, i_6, i_7, i_8, i_9, i_10, i_11, i_12, i_13, i_14, i_15, i_16, i_17, i_18, i_19, i_20, i_21, i_22, i_23, i_24, i_25, i_26, i_27, i_31, i_32, i_40, i_42, i_45, i_48, i_51, i_52, i_56, i_58, i_59, i_60, i_61, i_62, i_63, i_64, i_85, i_90, i_100, i_112, i_120, i_121, i_127, i_128, i_130, i_144, i_171, i_192, i_193, i_197, i_200, i_207, i_235, i_240, i_248, i_252, i_254, i_255, i_256, i_512, i_544, i_768, i_769, i_793, i_1000, i_1023, i_1024, i_1200, i_1538, i_1541, i_1545, i_2046, i_2047, i_2049, i_2060, i_2736, i_2737, i_2817, i_2818, i_2819, i_2820, i_2821, i_2831, i_2832, i_3077, i_3085, i_3843, i_3849, i_3851, i_3852, i_4129, i_4353, i_4865, i_5121, i_5122, i_5123, i_6156, i_8192, i_12288, i_16383, i_32000, i_33280, i_49152, i_53247, i_60304, i_64000, i_64512, i_65521, i_65535, i_449838109, nI_add, pk_mul, pk_sub, nI_mm, nI_leI, nI_ltI, nI_eq, pk_div, jrem_N, jshl_N, jshr_N, jushr_N, jmin_N, jmax_N, an_1, an_3, an_7, an_15, an_31, an_63, an_127, an_255, an_1023, an_2047, an_16383, an_65535, nm, pfI, rdI, rdW, rdL, rdI2, rdW2, ldA_N, stA_N, stB_N, stZ_N, pfZ_0, pfZ_1, rtZ_0, rtZ_1, acp_N, Option.bind_some, wp_some_iff, true_and, and_true, false_and, and_false, or_true, true_or, or_false, false_or, not_true_eq_false, not_false_eq_true, if_true, if_false, if_pos, if_neg, lt_sub, le_sub, sub_lt3, sub_le3, Option.bind_assoc, e, q16, q17, q21, q23]
          repeat' split
          all_goals rfl
theorem val_M {μ : Mem} {k : Kw} {en p : Nat} (h : VM μ k en) (hp : p < 24) : f304 (nI p) μ = some (μ, vOf k en p) := by
  have g := gl_162
  obtain ⟨h1, h4, h5⟩ := h
  have e := h1 p hp
  unfold f304 vOf
  by_cases q21 : p = 21
  · subst q21
    simp (disch := omega) only [i_0, i_1, i_2, i_3, i_4, i_5, i_6, i_7, i_8, i_9, i_10, i_11, i_12, i_13, i_14, i_15, i_16, i_17, i_18, i_19, i_20, i_21, i_22, i_23, i_24, i_25, i_26, i_27, i_31, i_32, i_40, i_42, i_45, i_48, i_51, i_52, i_56, i_58, i_59, i_60, i_61, i_62, i_63, i_64, i_85, i_90, i_100, i_112, i_120, i_121, i_127, i_128, i_130, i_144, i_171, i_192, i_193, i_197, i_200, i_207, i_235, i_240, i_248, i_252, i_254, i_255, i_256, i_512, i_544, i_768, i_769, i_793, i_1000, i_1023, i_1024, i_1200, i_1538, i_1541, i_1545, i_2046, i_2047, i_2049, i_2060, i_2736, i_2737, i_2817, i_2818, i_2819, i_2820, i_2821, i_2831, i_2832, i_3077, i_3085, i_3843, i_3849, i_3851, i_3852, i_4129, i_4353, i_4865, i_5121, i_5122, i_5123, i_6156, i_8192, i_12288, i_16383, i_32000, i_33280, i_49152, i_53247, i_60304, i_64000, i_64512, i_65521, i_65535, i_449838109, nI_add, pk_mul, pk_sub, nI_mm, nI_leI, nI_ltI, nI_eq, pk_div, jrem_N, jshl_N, jshr_N, jushr_N, jmin_N, jmax_N, an_1, an_3, an_7, an_15, an_31, an_63, an_127, an_255, an_1023, an_2047, an_16383, an_65535, nm, pfI, rdI, rdW, rdL, rdI2, rdW2, ldA_N, stA_N, stB_N, stZ_N, pfZ_0, pfZ_1, rtZ_0, rtZ_1, acp_N, Option.bind_some, wp_some_iff, true_and, and_true, false_and, and_false, or_true, true_or, or_false, false_or, not_true_eq_false, not_false_eq_true, if_true, if_false, if_pos, if_neg, lt_sub, le_sub, sub_lt3, sub_le3, Option.bind_assoc, h5]
  · by_cases q23 : p = 23
    · subst q23
      simp (disch := omega) only [i_0, i_1, i_2, i_3, i_4, i_5, i_6, i_7, i_8, i_9, i_10, i_11, i_12, i_13, i_14, i_15, i_16, i_17, i_18, i_19, i_20, i_21, i_22, i_23, i_24, i_25, i_26, i_27, i_31, i_32, i_40, i_42, i_45, i_48, i_51, i_52, i_56, i_58, i_59, i_60, i_61, i_62, i_63, i_64, i_85, i_90, i_100, i_112, i_120, i_121, i_127, i_128, i_130, i_144, i_171, i_192, i_193, i_197, i_200, i_207, i_235, i_240, i_248, i_252, i_254, i_255, i_256, i_512, i_544, i_768, i_769, i_793, i_1000, i_1023, i_1024, i_1200, i_1538, i_1541, i_1545, i_2046, i_2047, i_2049, i_2060, i_2736, i_2737, i_2817, i_2818, i_2819, i_2820, i_2821, i_2831, i_2832, i_3077, i_3085, i_3843, i_3849, i_3851, i_3852, i_4129, i_4353, i_4865, i_5121, i_5122, i_5123, i_6156, i_8192, i_12288, i_16383, i_32000, i_33280, i_49152, i_53247, i_60304, i_64000, i_64512, i_65521, i_65535, i_449838109, nI_add, pk_mul, pk_sub, nI_mm, nI_leI, nI_ltI, nI_eq, pk_div, jrem_N, jshl_N, jshr_N, jushr_N, jmin_N, jmax_N, an_1, an_3, an_7, an_15, an_31, an_63, an_127, an_255, an_1023, an_2047, an_16383, an_65535, nm, pfI, rdI, rdW, rdL, rdI2, rdW2, ldA_N, stA_N, stB_N, stZ_N, pfZ_0, pfZ_1, rtZ_0, rtZ_1, acp_N, Option.bind_some, wp_some_iff, true_and, and_true, false_and, and_false, or_true, true_or, or_false, false_or, not_true_eq_false, not_false_eq_true, if_true, if_false, if_pos, if_neg, lt_sub, le_sub, sub_lt3, sub_le3, Option.bind_assoc, h4]
    · simp (disch := omega) only [i_0, i_1, i_2, i_3, i_4, i_5, i_6, i_7, i_8, i_9, i_10, i_11, i_12, i_13, i_14, i_15, i_16, i_17, i_18, i_19, i_20, i_21, i_22, i_23, i_24, i_25, i_26, i_27, i_31, i_32, i_40, i_42, i_45, i_48, i_51, i_52, i_56, i_58, i_59, i_60, i_61, i_62, i_63, i_64, i_85, i_90, i_100, i_112, i_120, i_121, i_127, i_128, i_130, i_144, i_171, i_192, i_193, i_197, i_200, i_207, i_235, i_240, i_248, i_252, i_254, i_255, i_256, i_512, i_544, i_768, i_769, i_793, i_1000, i_1023, i_1024, i_1200, i_1538, i_1541, i_1545, i_2046, i_2047, i_2049, i_2060, i_2736, i_2737, i_2817, i_2818, i_2819, i_2820, i_2821, i_2831, i_2832, i_3077, i_3085, i_3843, i_3849, i_3851, i_3852, i_4129, i_4353, i_4865, i_5121, i_5122, i_5123, i_6156, i_8192, i_12288, i_16383, i_32000, i_33280, i_49152, i_53247, i_60304, i_64000, i_64512, i_65521, i_65535, i_449838109, nI_add, pk_mul, pk_sub, nI_mm, nI_leI, nI_ltI, nI_eq, pk_div, jrem_N, jshl_N, jshr_N, jushr_N, jmin_N, jmax_N, an_1, an_3, an_7, an_15, an_31, an_63, an_127, an_255, an_1023, an_2047, an_16383, an_65535, nm, pfI, rdI, rdW, rdL, rdI2, rdW2, ldA_N, stA_N, stB_N, stZ_N, pfZ_0, pfZ_1, rtZ_0, rtZ_1, acp_N, Option.bind_some, wp_some_iff, true_and, and_true, false_and, and_false, or_true, true_or, or_false, false_or, not_true_eq_false, not_false_eq_true, if_true, if_false, if_pos, if_neg, lt_sub, le_sub, sub_lt3, sub_le3, Option.bind_assoc, e, q21, q23]
def vlN (vf : Nat → Int32) (g : Nat → Nat) : Nat → List Nat
  | 0 => []
  | i + 1 => vlN vf g i ++ ([g i] ++ lowB (vf (g i)) 4)
theorem vlN_len (vf : Nat → Int32) (g : Nat → Nat) : ∀ n, (vlN vf g n).length = 5 * n
  | 0 => rfl
  | n + 1 => by
    rw [vlN, List.length_append, vlN_len vf g n, List.length_append, lowB_len]
    show 5 * n + (1 + 4) = 5 * (n + 1)
    omega
theorem vlN_cg {vf : Nat → Int32} {g g2 : Nat → Nat} : ∀ n, (∀ i, i < n → g i = g2 i) → vlN vf g n = vlN vf g2 n
  | 0, _ => rfl
  | n + 1, h => by rw [vlN, vlN, vlN_cg n (fun i hi => h i (by omega)), h n (by omega)]
theorem putVal_C {μ : Mem} {k : Kw} {en p : Nat} {d : List Nat} (h : VC μ k en) (hp : p < 24) (hd : Byt μ 87 d) (hl : d.length + 5 ≤ 82) : wp (f29 (nI p) μ) (fun m => Byt m 87 (d ++ ([p] ++ lowB (vOf k en p) 4)) ∧ Fr (FB 87) μ m) := by
  have g : gln (87 + 1) = 82 := gl_88
  unfold f29
  refine wp_bind (pu_ok (nI p) hd (by omega)) (fun m1 ⟨a1, a2⟩ => ?_)
  rw [byv_nI (by omega)] at a1
  rw [val_C (h.fr a2 (fun c k _ => by omega)) hp, Option.bind_some]
  refine wp_bind (p4_ok _ a1 (by rw [List.length_append]; show _ + 1 + 4 ≤ _; omega)) (fun m2 ⟨b1, b2⟩ => wp_some ⟨?_, a2.tr' b2⟩)
  rw [List.append_assoc] at b1
  exact b1
