/-! requests are run: the class -/
theorem fn_C {μ : Mem} {bs : List Nat} {j : Nat} (h : Byt μ 122 bs) (hP : Pkg bs) (hj : j < 256) : f19 (nI j) μ = some (μ, nI (b2n (decide (bs.getD 7 0 = 8 ∧ bs.getD 11 0 = j)))) := by
  have e7 := two_ok h (k := 7) (by omega)
  have e11 := arg_C h (i := 0) (by omega)
  have b7 := h.get 7
  have b8 := h.get (7 + 1)
  have b11 := h.get 11
  rw [show 11 + 0 = 11 from rfl] at e11
  unfold f19
  rw [i_7, e7, Option.bind_some]
  dsimp only
  rw [i_2049]
  by_cases q : bs.getD 7 0 = 8
  · have hs := hP.s8 q
    rw [if_pos (by rw [q, hs.1]), i_0, e11, Option.bind_some]
    dsimp only
    by_cases q2 : bs.getD 11 0 = j
    · rw [if_pos (by rw [q2]), decide_eq_true ⟨q, q2⟩]
      rfl
    · rw [if_neg (fun z => q2 ((nI_eq (by omega) (by omega)).mp z)), decide_eq_false (fun z => q2 z.2)]
      rfl
  · rw [if_neg (fun z => by have := (nI_eq (by omega) (by omega)).mp z; omega), decide_eq_false (fun z => q z.1)]
    rfl
abbrev FRb : Nat → Nat → Prop := fun c k => c = 57 ∧ (k = 13 ∨ k = 14) ∨ 59 ≤ c ∧ c ≤ 88 ∨ c = 101 ∧ 11 ≤ k ∧ k ≤ 13 ∨ 102 ≤ c ∧ c ≤ 121 ∨ 124 ≤ c ∧ c ≤ 128
theorem fail_C {μ : Mem} {k : Kw} {bs : List Nat} {sb c : Nat} (h : KC μ k) (hI : KI k) (hb : Byt μ 122 bs) (hs : sb < 256) (hc : c < 256) : wp (f18 (nI sb) (nI c) μ) (fun m => KC m (flK k bs sb c) ∧ Fr (fun c k => FMk c k ∨ c = 124) μ m) := by
  have g := gl_124
  unfold f18
  refine wp_bind (rep1_C h.1 hI.1 hb (by decide) hs hc) (fun m1 ⟨a1, a2, a3⟩ => ?_)
  have k1 := h.mk a1 a2 a3
  have p19 := k1.2.1.1 19 (by decide) (by decide) (by decide)
  simp (disch := omega) only [i_0, i_1, i_2, i_3, i_4, i_5, i_6, i_7, i_8, i_9, i_10, i_11, i_12, i_13, i_14, i_15, i_16, i_17, i_18, i_19, i_20, i_21, i_22, i_23, i_24, i_25, i_26, i_27, i_31, i_32, i_40, i_42, i_45, i_48, i_51, i_52, i_56, i_58, i_59, i_60, i_61, i_62, i_63, i_64, i_85, i_90, i_100, i_112, i_120, i_121, i_127, i_128, i_130, i_144, i_171, i_192, i_193, i_197, i_200, i_207, i_235, i_240, i_248, i_252, i_254, i_255, i_256, i_512, i_544, i_768, i_769, i_793, i_1000, i_1023, i_1024, i_1200, i_1538, i_1541, i_1545, i_2046, i_2047, i_2049, i_2060, i_2736, i_2737, i_2817, i_2818, i_2819, i_2820, i_2821, i_2831, i_2832, i_3077, i_3085, i_3843, i_3849, i_3851, i_3852, i_4129, i_4353, i_4865, i_5121, i_5122, i_5123, i_6156, i_8192, i_12288, i_16383, i_32000, i_33280, i_49152, i_53247, i_60304, i_64000, i_64512, i_65521, i_65535, i_449838109, nI_add, pk_mul, pk_sub, nI_mm, nI_leI, nI_ltI, nI_eq, pk_div, jrem_N, jshl_N, jshr_N, jushr_N, jmin_N, jmax_N, an_1, an_3, an_7, an_15, an_31, an_63, an_127, an_255, an_1023, an_2047, an_16383, an_65535, nm, pfI, rdI, rdW, rdL, rdI2, rdW2, ldA_N, stA_N, stB_N, stZ_N, pfZ_0, pfZ_1, rtZ_0, rtZ_1, acp_N, Option.bind_some, wp_some_iff, true_and, and_true, false_and, and_false, or_true, true_or, or_false, false_or, not_true_eq_false, not_false_eq_true, if_true, if_false, if_pos, if_neg, lt_sub, le_sub, sub_lt3, sub_le3, Option.bind_assoc, p19]
  exact ⟨k1.par (i := 19) (by omega), (a3.mono (by intro c k h; omega)).pI (by omega)⟩
theorem an_4 : ∀ v, v < 256 → (nI v &&& nI 4 = nI 0 ↔ v / 4 % 2 = 0) := by
  have h : (List.range 256).all (fun v => decide (nI v &&& nI 4 = nI 0 ↔ v / 4 % 2 = 0)) = true := by decide +kernel
  intro v hv
  exact of_decide_eq_true (List.all_eq_true.mp h v (List.mem_range.mpr hv))
theorem succ_C {μ : Mem} {k : Kw} {bs : List Nat} (h : KC μ k) (hI : KI k) (hb : Byt μ 122 bs) : wp (f17 μ) (fun m => KC m (suK (ak7 k bs)) ∧ Fr (fun c k => FMk c k ∨ c = 124) μ m) := by
  have g := gl_124
  have e6 := at_ok hb (k := 6) (by omega)
  have b6 := hb.get 6
  have fin : ∀ m k', KC m k' → Fr (fun c k => FMk c k ∨ c = 124) μ m → wp (c17_25 m) (fun m => KC m (suK k') ∧ Fr (fun c k => FMk c k ∨ c = 124) μ m) := by
    intro m k' h1 h2
    have p20 := h1.2.1.1 20 (by decide) (by decide) (by decide)
    unfold c17_25
    simp (disch := omega) only [i_0, i_1, i_2, i_3, i_4, i_5, i_6, i_7, i_8, i_9, i_10, i_11, i_12, i_13, i_14, i_15, i_16, i_17, i_18, i_19, i_20, i_21, i_22, i_23, i_24, i_25, i_26, i_27, i_31, i_32, i_40, i_42, i_45, i_48, i_51, i_52, i_56, i_58, i_59, i_60, i_61, i_62, i_63, i_64, i_85, i_90, i_100, i_112, i_120, i_121, i_127, i_128, i_130, i_144, i_171, i_192, i_193, i_197, i_200, i_207, i_235, i_240, i_248, i_252, i_254, i_255, i_256, i_512, i_544, i_768, i_769, i_793, i_1000, i_1023, i_1024, i_1200, i_1538, i_1541, i_1545, i_2046, i_2047, i_2049, i_2060, i_2736, i_2737, i_2817, i_2818, i_2819, i_2820, i_2821, i_2831, i_2832, i_3077, i_3085, i_3843, i_3849, i_3851, i_3852, i_4129, i_4353, i_4865, i_5121, i_5122, i_5123, i_6156, i_8192, i_12288, i_16383, i_32000, i_33280, i_49152, i_53247, i_60304, i_64000, i_64512, i_65521, i_65535, i_449838109, nI_add, pk_mul, pk_sub, nI_mm, nI_leI, nI_ltI, nI_eq, pk_div, jrem_N, jshl_N, jshr_N, jushr_N, jmin_N, jmax_N, an_1, an_3, an_7, an_15, an_31, an_63, an_127, an_255, an_1023, an_2047, an_16383, an_65535, nm, pfI, rdI, rdW, rdL, rdI2, rdW2, ldA_N, stA_N, stB_N, stZ_N, pfZ_0, pfZ_1, rtZ_0, rtZ_1, acp_N, Option.bind_some, wp_some_iff, true_and, and_true, false_and, and_false, or_true, true_or, or_false, false_or, not_true_eq_false, not_false_eq_true, if_true, if_false, if_pos, if_neg, lt_sub, le_sub, sub_lt3, sub_le3, Option.bind_assoc, p20]
    exact ⟨h1.par (i := 20) (by omega), h2.pI (by omega)⟩
  unfold f17 ak7
  rw [i_6, e6, Option.bind_some]
  dsimp only
  rw [i_1, an_1, i_0]
  by_cases q : bs.getD 6 0 % 2 = 0
  · rw [if_pos q, if_pos (by rw [q])]
    exact fin μ k h Fr.rf
  · rw [if_neg q, if_neg (fun z => q ((nI_eq (by omega) (by omega)).mp z)), i_7]
    refine wp_bind (rep1_C (sb := 7) (c := 0) h.1 hI.1 hb (by decide) (by decide) (by decide)) (fun m1 ⟨a1, a2, a3⟩ => ?_)
    exact fin m1 _ (h.mk a1 a2 a3) (a3.mono (by intro c k h; omega))
theorem run2_C {μ : Mem} {k : Kw} {x : Xw} {bs : List Nat} {dep n i : Nat} {kl : Int32 → Int32 → Mem → Option Mem} {Q : Mem → Prop} (hK : KC μ k) (hKI : KI k) (hX : XC μ x) (hXI : XI x) (h : Byt μ 122 bs) (hP : Pkg bs) (hd : dep ≤ 4) (hw : whyB (k, x) bs = 0) (hk : ∀ m, KC m (if bs.getD 7 0 = 8 ∧ bs.getD 11 0 = 2 then (flK k bs 8 16, x) else (suK (ak7 (doB (k, x) bs dep).1 bs), (doB (k, x) bs dep).2)).1 → XC m (if bs.getD 7 0 = 8 ∧ bs.getD 11 0 = 2 then (flK k bs 8 16, x) else (suK (ak7 (doB (k, x) bs dep).1 bs), (doB (k, x) bs dep).2)).2 → Fr FRb μ m → wp (kl (nI n) (nI (i + 1)) m) Q) : wp (c16_101 kl (nI n) (nI i) (nI dep) μ) Q := by
  have hb := h.2.2.2
  unfold c16_101
  refine actF_C (b := (k, x)) hK hKI hX hXI h hP hw _ _ (fun m1 k1 x1 h1 f1 => ?_)
  have hI1 := finB_I (b := (k, x)) hKI hXI hb hP hw
  have end2 : ∀ m k' x', KC m k' → KI k' → XC m x' → Byt m 122 bs → Fr FRb μ m → k' = (if bs.getD 7 0 = 8 ∧ bs.getD 11 0 = 2 then k else (doB (k, x) bs dep).1) → x' = (if bs.getD 7 0 = 8 ∧ bs.getD 11 0 = 2 then x else (doB (k, x) bs dep).2) → wp (c16_158 kl (nI n) (nI i) m) Q := by
    intro m k' x' a1 a2 a3 a4 a5 a6 a7
    have fn := fn_C (j := 2) a4 hP (by omega)
    unfold c16_158 c16_181
    rw [i_2, fn, Option.bind_some]
    dsimp only [nm]
    by_cases q : bs.getD 7 0 = 8 ∧ bs.getD 11 0 = 2
    · rw [if_pos q] at a6 a7 hk
      subst a6 a7
      rw [decide_eq_true q, b2n_t, if_neg (show ¬ nI 1 = (0 : Int32) by decide), i_8, i_16]
      refine wp_bind (fail_C a1 a2 a4 (by decide) (by decide)) (fun m2 ⟨c1, c2⟩ => ?_)
      rw [i_1, nI_add]
      exact hk m2 c1 (a3.fr c2 (fun c k _ => by omega)) (a5.tr c2 (fun _ _ q => q) (by intro c k h; omega))
    · rw [if_neg q] at a6 a7 hk
      subst a6 a7
      rw [decide_eq_false q, b2n_f, if_pos (show nI 0 = (0 : Int32) from rfl)]
      refine wp_bind (succ_C a1 a2 a4) (fun m2 ⟨c1, c2⟩ => ?_)
      rw [i_1, nI_add]
      exact hk m2 c1 (a3.fr c2 (fun c k _ => by omega)) (a5.tr c2 (fun _ _ q => q) (by intro c k h; omega))
  have f1' : Fr FRb μ m1 := f1.mono (by intro c k h; omega)
  have fn := fn_C (j := 3) h1 hP (by omega)
  unfold c16_122
  rw [i_3, fn, Option.bind_some]
  dsimp only
  by_cases q : bs.getD 7 0 = 8 ∧ bs.getD 11 0 = 3
  · have hA : actB (k, x) bs = ((k, x), none) := by
      unfold actB
      rw [if_neg (by omega), if_neg (by omega), if_neg (by omega), if_pos q.1, if_neg (by omega)]
    rw [hA] at k1 x1 hI1
    change KC m1 k at k1
    change XC m1 x at x1
    change KI k ∧ XI x at hI1
    have hn2 : ¬ (bs.getD 7 0 = 8 ∧ bs.getD 11 0 = 2) := by omega
    have hD : doB (k, x) bs dep = (hapW k x.2.2.2.1 (w4l bs 12 % 32) (nI (w4l bs 12)) dep, x) := by
      unfold doB
      rw [if_pos q]
    have e12 := arg4_C h1 (i := 1) (by omega)
    rw [show 11 + 1 = 12 from rfl] at e12
    rw [decide_eq_true q, b2n_t, if_neg (show ¬ nI 1 = (0 : Int32) by decide), i_1, e12, Option.bind_some]
    dsimp only
    rw [e12, Option.bind_some]
    dsimp only
    rw [i_31, an_31]
    refine wp_bind (hap_C (v := nI (w4l bs 12)) k1 hI1.1 x1.2.2.2.1 hXI.2.2.2.1 (Nat.mod_lt _ (by decide)) hd) (fun r ⟨d1, d2, d3, d4⟩ => ?_)
    obtain ⟨m2, v2⟩ := r
    dsimp only at d1 d2 d3 d4 ⊢
    subst d2
    have x2 := x1.fr d4 (fun c k _ => by omega)
    have h2 := h1.fr d4 (by omega) (fun k => by omega)
    have f2 : Fr FRb μ m2 := f1'.tr d4 (fun _ _ q => q) (by intro c k h; omega)
    cases hg : hapG x.2.2.2.1 (w4l bs 12 % 32) dep with
    | none =>
      rw [show (none : Option (List Nat)).isSome = false from rfl, b2n_f, if_pos (show nI 0 = (0 : Int32) from rfl)]
      refine end2 m2 _ x d1 (hapK_I hI1.1) x2 h2 f2 ?_ ?_
      · rw [if_neg hn2, hD, hapW, hg]
      · rw [if_neg hn2, hD]
    | some ps =>
      have hl := hapG_l hXI.2.2.2.1 hg
      rw [show (some ps).isSome = true from rfl, b2n_t, if_neg (show ¬ nI 1 = (0 : Int32) by decide), nI_add]
      refine wp_bind (look_C (dep := dep + 1) d1 (hapK_I hI1.1) (d3 ps hg) (by omega)) (fun m3 ⟨o1, o2⟩ => ?_)
      refine end2 m3 _ x o1 (lookK_I (hapK_I hI1.1) (by omega) (by omega)) (x2.fr o2 (fun c k _ => by omega)) (h2.fr o2 (by omega) (fun k => by omega)) (f2.tr o2 (fun _ _ q => q) (by intro c k h; omega)) ?_ ?_
      · rw [if_neg hn2, hD, hapW, hg]
      · rw [if_neg hn2, hD]
  · have hD : doB (k, x) bs dep = finB (actB (k, x) bs) := by
      unfold doB
      rw [if_neg q]
    rw [decide_eq_false q, b2n_f, if_pos (show nI 0 = (0 : Int32) from rfl)]
    by_cases q2 : bs.getD 7 0 = 8 ∧ bs.getD 11 0 = 2
    · have hA : actB (k, x) bs = ((k, x), none) := by
        unfold actB
        rw [if_neg (by omega), if_neg (by omega), if_neg (by omega), if_pos q2.1, if_neg (by omega)]
      rw [hA] at k1 x1 hI1
      exact end2 m1 k x k1 hI1.1 x1 h1 f1' (by rw [if_pos q2]) (by rw [if_pos q2])
    · exact end2 m1 _ _ k1 hI1.1 x1 h1 f1' (by rw [if_neg q2, hD]) (by rw [if_neg q2, hD])
abbrev FRc : Nat → Nat → Prop := fun c k => c = 9 ∧ k = 13 ∨ c = 57 ∧ (k = 13 ∨ k = 14) ∨ 59 ≤ c ∧ c ≤ 88 ∨ c = 101 ∧ 11 ≤ k ∧ k ≤ 13 ∨ 102 ≤ c ∧ c ≤ 128
theorem lt_ite {c : Prop} [Decidable c] {a b n : Nat} (ha : a < n) (hb : b < n) : (if c then a else b) < n := by
  split
  · exact ha
  · exact hb
theorem whyB_lt {b : Bw} {bs : List Nat} : whyB b bs < 256 := by
  have a11 : why11 b.1.1.1 b.2.2.2.2.2.1 bs < 256 := by
    unfold why11 rsn
    refine lt_ite (lt_ite (lt_ite (lt_ite (by decide) (by decide)) (by decide)) (by decide)) (lt_ite ?_ (lt_ite (lt_ite (by decide) (by decide)) (lt_ite (lt_ite (by decide) (by decide)) (by decide))))
    cases fcN b.2.2.2.2.2.1.2.2 (w2 bs 11) with
    | none => exact (by decide : 23 < 256)
    | some n => exact (by decide : 0 < 256)
  have a3 : why3 b.2.2.1 bs < 256 := by
    unfold why3
    exact lt_ite (lt_ite (by decide) (lt_ite (by decide) (lt_ite (by decide) (by decide)))) (lt_ite (by decide) (lt_ite (by decide) (lt_ite (lt_ite (by decide) (by decide)) (by decide))))
  have a5 : why5 bs < 256 := by
    unfold why5
    exact lt_ite (by decide) (by decide)
  have a6 : why6 bs < 256 := by
    unfold why6
    exact lt_ite (lt_ite (by decide) (by decide)) (by decide)
  have a12 : why12 b.2.2.2.1 bs < 256 := by
    unfold why12
    exact lt_ite (by decide) (lt_ite (lt_ite (lt_ite (lt_ite (by decide) (lt_ite (lt_ite (by decide) (lt_ite (by decide) (by decide))) (by decide))) (by decide)) (by decide)) (lt_ite (by decide) (lt_ite (by decide) (lt_ite (lt_ite (by decide) (by decide)) (by decide)))))
  have a15 : why15 b.1.1 b.2.2.2.2.2.2 bs < 256 := by
    unfold why15
    exact lt_ite (lt_ite (lt_ite (by decide) (by decide)) (lt_ite (lt_ite (by decide) (by decide)) (by decide))) (by decide)
  have a19 : why19 b.2.2.2.2.1 bs < 256 := by
    unfold why19
    exact lt_ite (lt_ite (by decide) (by decide)) (by decide)
  have a20 : why20 bs < 256 := by
    unfold why20 rsn
    exact lt_ite (by decide) (by decide)
  unfold whyB
  exact lt_ite a3 (lt_ite a5 (lt_ite a6 (lt_ite (lt_ite (by decide) (by decide)) (lt_ite a11 (lt_ite a12 (lt_ite a15 (lt_ite a19 (lt_ite a20 (by decide)))))))))
theorem run1_C {μ : Mem} {b : Bw} {n i : Nat} {kl : Int32 → Int32 → Mem → Option Mem} {Q : Mem → Prop} (hK : KC μ b.1) (hKI : KI b.1) (hX : XC μ b.2) (hXI : XI b.2) (h0 : 0 < b.1.2.2.length) (hi : i < n) (hn : n ≤ 4) (hk : ∀ m, KC m (runR b).1 → XC m (runR b).2 → KI (runR b).1 → XI (runR b).2 → m.1 9 13 = nI 0 → Fr FRc μ m → wp (kl (nI n) (nI (i + 1)) m) Q) : wp (b16_14 kl (nI n) (nI i) μ) Q := by
  have g2 : gln (122 + 1) = 60 := gl_123
  obtain ⟨hP, ⟨dep, hd, ed⟩, em⟩ := hKI.2.2 0 h0
  have hI1 := rq1_I hKI h0
  have e1 := tagOf_y hK.2.2.1 h0
  have hl60 := hP.2.1
  rw [ed] at e1
  unfold runR at hk
  rw [ed, nt_nI (by omega)] at hk
  generalize hbs : (pk b.1.2.2 0).1 = bs at *
  unfold b16_14
  rw [if_neg (fun z => by have := (nI_leI (by omega) (by omega)).mp z; omega), i_0, e1, Option.bind_some]
  dsimp only
  refine wp_bind (copyOut_C (p := 122) hK.2.2.1 h0 (by omega) (by rw [hbs, g2]; omega)) (fun m1 ⟨a1, a2⟩ => ?_)
  rw [hbs] at a1
  refine wp_bind (shrem_C (hK.2.2.1.fr a2 (fun c k _ _ => by omega)) h0) (fun m2 ⟨b1, b2⟩ => ?_)
  refine wp_bind (wp_some rfl) (fun m3 hm3 => ?_)
  have f3 : Fr (fun c k => c = 9 ∧ k = 13) m2 m3 := by rw [← hm3]; exact Fr.sI ⟨rfl, rfl⟩
  have c13 : m3.1 9 13 = nI 0 := by rw [← hm3, rdI, if_pos ⟨rfl, rfl⟩]
  clear hm3
  have f03 : Fr (fun c k => c = 9 ∧ k = 13 ∨ 102 ≤ c ∧ c ≤ 107 ∨ 122 ≤ c ∧ c ≤ 123) μ m3 := (a2.tr b2 (P := fun c k => c = 9 ∧ k = 13 ∨ 102 ≤ c ∧ c ≤ 107 ∨ 122 ≤ c ∧ c ≤ 123) (by intro c k h; omega) (by intro c k h; omega)).tr f3 (fun _ _ q => q) (by intro c k h; omega)
  have k3 : KC m3 (rq1 b.1) := ⟨hK.1.fr f03 (fun c k _ => by omega), hK.2.1.fr f03 (fun k => by omega) (by omega) (by omega), b1.fr f3 (fun c k _ _ => by omega), hK.2.2.2.1.fr f03 (fun k => by omega), hK.2.2.2.2.fr f03 (by omega) (fun k => by omega)⟩
  have x3 := hX.fr f03 (fun c k _ => by omega)
  have h3 : Byt m3 122 bs := (a1.fr b2 (by omega) (fun k => by omega)).fr f3 (by omega) (fun k => by omega)
  have hI2 := runB_I (k := rq1 b.1) (x := b.2) (bs := bs) (dep := dep) hI1 hXI h3.2.2.2 hP
  have ew := whyB_C (b := (rq1 b.1, b.2)) k3 hI1 x3 hXI h3 hP
  have hlt := whyB_lt (b := (rq1 b.1, b.2)) (bs := bs)
  have e6 := at_ok h3 (k := 6) (by omega)
  have b6 := h3.get 6
  rw [ew, Option.bind_some]
  dsimp only
  unfold runB at hk hI2
  by_cases q : whyB (rq1 b.1, b.2) bs = 0
  · rw [if_pos q] at hk hI2
    rw [q, if_pos rfl, i_6, e6, Option.bind_some]
    dsimp only
    rw [i_4]
    have cont : ∀ m, KC m (ak3 (rq1 b.1) bs) → XC m b.2 → Byt m 122 bs → m.1 9 13 = nI 0 → Fr FRc μ m → wp (c16_101 kl (nI n) (nI i) (nI dep) m) Q := by
      intro m o1 o2 o3 o4 o5
      refine run2_C o1 (ak3_I hI1) o2 hXI o3 hP hd (why_ak3.trans q) (fun m' p1 p2 p3 => ?_)
      exact hk m' p1 p2 hI2.1 hI2.2 (by rw [p3.1 _ _ (by omega)]; exact o4) (o5.tr p3 (fun _ _ q => q) (by intro c k h; omega))
    have f03' : Fr FRc μ m3 := f03.mono (by intro c k h; omega)
    unfold ak3 at cont
    by_cases q4 : bs.getD 6 0 / 4 % 2 = 0
    · rw [if_pos q4] at cont
      rw [if_pos ((an_4 _ b6).mpr q4)]
      exact cont m3 k3 x3 h3 c13 f03'
    · rw [if_neg q4] at cont
      rw [if_neg (fun z => q4 ((an_4 _ b6).mp z)), i_3]
      refine wp_bind (rep1_C (sb := 3) (c := 0) k3.1 hI1.1 h3 (by decide) (by decide) (by decide)) (fun m4 ⟨o1, o2, o3⟩ => ?_)
      exact cont m4 (k3.mk o1 o2 o3) (x3.fr o3 (fun c k _ => by omega)) (h3.fr o3 (by omega) (fun k => by omega)) (by rw [o3.1 _ _ (by omega)]; exact c13) (f03'.tr o3 (fun _ _ q => q) (by intro c k h; omega))
  · rw [if_neg q] at hk hI2
    rw [if_neg (fun z => q ((nI_eq (by omega) (by omega)).mp z)), i_4]
    unfold c16_181
    refine wp_bind (fail_C k3 hI1 h3 (by decide) hlt) (fun m4 ⟨o1, o2⟩ => ?_)
    dsimp only [nm]
    rw [i_1, nI_add]
    exact hk m4 o1 (x3.fr o2 (fun c k _ => by omega)) hI2.1 hI2.2 (by rw [o2.1 _ _ (by omega)]; exact c13) ((f03.mono (P := FRc) (by intro c k h; omega)).tr o2 (fun _ _ q => q) (by intro c k h; omega))
def runN (b : Bw) : Nat → Bw
  | 0 => b
  | n + 1 => runR (runN b n)
theorem look_len {k : Kw} {bs : List Nat} {dep : Nat} : k.2.2.length ≤ (lookK k bs dep).2.2.length := by
  unfold lookK
  repeat' split
  all_goals
    try dsimp only
    try rw [List.length_append]
    omega
