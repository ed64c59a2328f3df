/-! the schedule: what requests do, the class -/
def xs11 (bs : List Nat) : List Nat := (bs.drop 16).take (bs.length - 18)
theorem xs11_len {bs : List Nat} : (xs11 bs).length = bs.length - 18 := by
  unfold xs11
  rw [List.length_take, List.length_drop]
  omega
def shv (t v : Nat) : Nat := if v < 2147483648 then t + v else t + v - 4294967296
def shE (es : List Pk) (v : Nat) : Nat → List Pk
  | 0 => es
  | i + 1 => (shE es v i).set i ((pk es i).1, nI (tm es i) + nI v, (pk es i).2.2)
theorem shE_len (es : List Pk) (v : Nat) : ∀ n, (shE es v n).length = es.length
  | 0 => rfl
  | n + 1 => by rw [shE, List.length_set, shE_len es v n]
theorem shE_pk {es : List Pk} {v : Nat} : ∀ n, n ≤ es.length → ∀ i, pk (shE es v n) i = if i < n then ((pk es i).1, nI (tm es i) + nI v, (pk es i).2.2) else pk es i
  | 0, _, i => by rw [if_neg (by omega)]; rfl
  | n + 1, h, i => by
    rw [shE, pk_set (by rw [shE_len]; omega), shE_pk n (by omega) i]
    by_cases e : i = n
    · subst e
      rw [if_pos rfl, if_pos (by omega)]
    · rw [if_neg e]
      by_cases e2 : i < n
      · rw [if_pos e2, if_pos (by omega)]
      · rw [if_neg e2, if_neg (by omega)]
theorem sh_val {tk t v : Nat} (ht : t < 2 ^ 31) (hv : v < 4294967296) (h : ltr tk t v = true) : nI t + nI v = nI (shv t v) ∧ shv t v < 2 ^ 31 := by
  unfold ltr at h
  have h1 := of_decide_eq_true h
  unfold shv
  rw [nI_add]
  by_cases q : v < 2147483648
  · rw [if_pos q] at h1 ⊢
    exact ⟨rfl, by omega⟩
  · rw [if_neg q] at h1 ⊢
    refine ⟨?_, by omega⟩
    apply Int32.toBitVec_inj.mp
    show BitVec.ofNat 32 (t + v) = BitVec.ofNat 32 (t + v - 4294967296)
    apply BitVec.eq_of_toNat_eq
    rw [BitVec.toNat_ofNat, BitVec.toNat_ofNat]
    omega
theorem shv_lt {tk t t2 v : Nat} (h : ltr tk t v = true) (h2 : ltr tk t2 v = true) : shv t v < shv t2 v ↔ t < t2 := by
  unfold ltr at h h2
  have h1 := of_decide_eq_true h
  have h3 := of_decide_eq_true h2
  unfold shv
  by_cases q : v < 2147483648
  · rw [if_pos q, if_pos q]; omega
  · rw [if_neg q] at h1 h3
    rw [if_neg q, if_neg q]; omega
def act11 (s : Tw) (bs : List Nat) : Tw :=
  if bs.getD 8 0 = 1 then (true, s.2.1, s.2.2)
  else if bs.getD 8 0 = 2 then (false, s.2.1, s.2.2)
  else if bs.getD 8 0 = 3 then (s.1, s.2.1, [])
  else if bs.getD 8 0 = 4 then (s.1, s.2.1, s.2.2 ++ [(xs11 bs, nI (w4l bs 12), nI (bs.getD 11 0))])
  else if bs.getD 8 0 = 5 then (match fcN s.2.2 (w2 bs 11) with | some n => (s.1, s.2.1, s.2.2.eraseIdx (nthI s.2.2 n)) | none => s)
  else if bs.getD 8 0 = 15 then (s.1, s.2.1, shE s.2.2 (w4l bs 11) s.2.2.length)
  else if bs.getD 8 0 = 20 then (s.1, upL s.2.1 (bs.getD 11 0) false, s.2.2)
  else if bs.getD 8 0 = 21 then (s.1, upL s.2.1 (bs.getD 11 0) true, s.2.2)
  else s
theorem why11_4 {tk : Nat} {s : Tw} {bs : List Nat} (q : bs.getD 8 0 = 4) (hw : why11 tk s bs = 0) : bs.getD 11 0 < 4 ∧ ltr tk 0 (w4l bs 12) = true ∧ s.2.2.length ≠ 16 := by
  unfold why11 at hw
  rw [if_pos q] at hw
  by_cases q1 : bs.getD 11 0 < 4
  · rw [if_pos q1] at hw
    by_cases q2 : ltr tk 0 (w4l bs 12) = true
    · rw [if_pos q2] at hw
      by_cases q3 : s.2.2.length = 16
      · rw [if_pos q3] at hw; exact absurd hw (by decide)
      · exact ⟨q1, q2, q3⟩
    · rw [if_neg q2] at hw; exact absurd hw (by decide)
  · rw [if_neg q1] at hw; exact absurd hw (by decide)
theorem why11_5 {tk : Nat} {s : Tw} {bs : List Nat} (q : bs.getD 8 0 = 5) (hw : why11 tk s bs = 0) : ∃ n, fcN s.2.2 (w2 bs 11) = some n := by
  unfold why11 at hw
  rw [if_neg (by omega), if_pos q] at hw
  cases hf : fcN s.2.2 (w2 bs 11) with
  | none => rw [hf] at hw; exact absurd hw (by decide)
  | some n => exact ⟨n, rfl⟩
theorem why11_15 {tk : Nat} {s : Tw} {bs : List Nat} (q : bs.getD 8 0 = 15) (hw : why11 tk s bs = 0) : ∀ i, i < s.2.2.length → ltr tk (tm s.2.2 i) (w4l bs 11) = true := by
  unfold why11 at hw
  rw [if_neg (by omega), if_neg (by omega), if_pos q] at hw
  unfold rsn at hw
  cases hm : mayS tk s.2.2 (w4l bs 11) with
  | false => rw [hm] at hw; exact absurd hw (by decide)
  | true => exact (allB_t _).mp hm
theorem why11_g {tk : Nat} {s : Tw} {bs : List Nat} (q : bs.getD 8 0 = 20 ∨ bs.getD 8 0 = 21) (hw : why11 tk s bs = 0) : bs.getD 11 0 < 4 := by
  unfold why11 at hw
  rw [if_neg (by omega), if_neg (by omega), if_neg (by omega), if_pos q] at hw
  by_cases z : bs.getD 11 0 < 4
  · exact z
  · rw [if_neg z] at hw; exact absurd hw (by decide)
theorem ltr_0 {tk v : Nat} (hv : v < 4294967296) (h : ltr tk 0 v = true) : v < 2 ^ 31 := by
  unfold ltr at h
  have h1 := of_decide_eq_true h
  by_cases q : v < 2147483648
  · omega
  · rw [if_neg q] at h1; omega
theorem shE_tm {es : List Pk} {v tk : Nat} (hE : EnI es) (hv : v < 4294967296) (hm : ∀ i, i < es.length → ltr tk (tm es i) v = true) {i : Nat} (hi : i < es.length) : tm (shE es v es.length) i = shv (tm es i) v ∧ (pk (shE es v es.length) i).2.1 = nI (shv (tm es i) v) := by
  obtain ⟨_, _, ⟨t1, t2⟩, _⟩ := hE.2 i hi
  have e := sh_val t1 hv (hm i hi)
  have p := shE_pk (es := es) (v := v) es.length (Nat.le_refl _) i
  rw [if_pos hi, e.1] at p
  unfold tm at p ⊢
  rw [p]
  exact ⟨nt_nI e.2, rfl⟩
theorem act11_I {tk : Nat} {s : Tw} {bs : List Nat} (hE : EnI s.2.2) (hb : ∀ b, b ∈ bs → b < 256) (hP : Pkg bs) (h7 : bs.getD 7 0 = 11) (hw : why11 tk s bs = 0) : EnI (act11 s bs).2.2 := by
  have hs := hP.s11 h7
  have hl := hE.1
  unfold act11
  by_cases q1 : bs.getD 8 0 = 1
  · rw [if_pos q1]; exact hE
  · rw [if_neg q1]
    by_cases q2 : bs.getD 8 0 = 2
    · rw [if_pos q2]; exact hE
    · rw [if_neg q2]
      by_cases q3 : bs.getD 8 0 = 3
      · rw [if_pos q3]
        exact ⟨Nat.zero_le _, fun i hi => absurd hi (Nat.not_lt_zero _)⟩
      · rw [if_neg q3]
        by_cases q4 : bs.getD 8 0 = 4
        · rw [if_pos q4]
          obtain ⟨w1, w2, w3⟩ := why11_4 q4 hw
          have hv : w4l bs 12 < 2 ^ 31 := ltr_0 (by4 hb 12) w2
          have hxl := xs11_len (bs := bs)
          refine ⟨?_, fun i hi => ?_⟩
          · show (s.2.2 ++ [(xs11 bs, nI (w4l bs 12), nI (bs.getD 11 0))]).length ≤ 16
            rw [List.length_append, List.length_singleton]
            omega
          · dsimp only at hi ⊢
            rw [List.length_append, List.length_singleton] at hi
            by_cases e : i < s.2.2.length
            · rw [tm_app e, pk_app, if_pos e]
              exact hE.2 i e
            · have e2 : i = s.2.2.length := by omega
              subst e2
              rw [tm_apl, pk_app, if_neg (by omega), if_pos rfl]
              dsimp only
              rw [nt_nI hv, nt_nI (by omega)]
              exact ⟨by omega, by omega, ⟨hv, rfl⟩, ⟨w1, rfl⟩⟩
        · rw [if_neg q4]
          by_cases q5 : bs.getD 8 0 = 5
          · rw [if_pos q5]
            obtain ⟨n, hf⟩ := why11_5 q5 hw
            rw [hf]
            exact hE.era (nth_lt (fcN_some hf)).1
          · rw [if_neg q5]
            by_cases q15 : bs.getD 8 0 = 15
            · rw [if_pos q15]
              have hm := why11_15 q15 hw
              have hv : w4l bs 11 < 4294967296 := by4 hb 11
              generalize w4l bs 11 = v at *
              refine ⟨by rw [shE_len]; exact hl, fun i hi => ?_⟩
              dsimp only at hi ⊢
              rw [shE_len] at hi
              obtain ⟨x1, x2, ⟨t1, t2⟩, x4⟩ := hE.2 i hi
              have e := sh_val t1 hv (hm i hi)
              have p := shE_tm hE hv hm hi
              have p2 := shE_pk (es := s.2.2) (v := v) s.2.2.length (Nat.le_refl _) i
              rw [if_pos hi] at p2
              rw [p.1]
              rw [show (pk (shE s.2.2 v s.2.2.length) i).2.1 = nI (shv (tm s.2.2 i) v) from p.2, show (pk (shE s.2.2 v s.2.2.length) i).1 = (pk s.2.2 i).1 by rw [p2], show (pk (shE s.2.2 v s.2.2.length) i).2.2 = (pk s.2.2 i).2.2 by rw [p2]]
              exact ⟨x1, x2, ⟨e.2, rfl⟩, x4⟩
            · rw [if_neg q15]
              by_cases q20 : bs.getD 8 0 = 20
              · rw [if_pos q20]; exact hE
              · rw [if_neg q20]
                split
                · exact hE
                · exact hE
theorem f58_1 {μ : Mem} (e8 : f23 μ = some (μ, nI 1)) : f58 μ = (pfZ 101 13 (1 : Int32) μ).bind fun m3 => some m3 := by
  unfold f58
  rw [e8, Option.bind_some]
  dsimp only
  repeat refine ite_no (by decide) ?_
  exact ite_yes (by decide) rfl
theorem f58_2 {μ : Mem} (e8 : f23 μ = some (μ, nI 2)) : f58 μ = (pfZ 101 13 (0 : Int32) μ).bind fun m6 => some m6 := by
  unfold f58
  rw [e8, Option.bind_some]
  dsimp only
  repeat refine ite_no (by decide) ?_
  exact ite_yes (by decide) rfl
theorem f58_3 {μ : Mem} (e8 : f23 μ = some (μ, nI 3)) : f58 μ = (f163 108 μ).bind fun r9 => some r9 := by
  unfold f58
  rw [e8, Option.bind_some]
  dsimp only
  repeat refine ite_no (by decide) ?_
  exact ite_yes (by decide) rfl
theorem f58_4 {μ : Mem} (e8 : f23 μ = some (μ, nI 4)) : f58 μ = (f22 (1 : Int32) μ).bind fun r12 => (f20 (0 : Int32) r12.1).bind fun r14 => (f161 108 122 (16 : Int32) (((μ.1 122 1) - (13 : Int32)) - (5 : Int32)) r12.2 r14.2 r14.1).bind fun r16 => some r16.1 := by
  unfold f58
  rw [e8, Option.bind_some]
  dsimp only
  repeat refine ite_no (by decide) ?_
  exact ite_yes (by decide) rfl
theorem f58_5 {μ : Mem} (e8 : f23 μ = some (μ, nI 5)) : f58 μ = (f21 (0 : Int32) μ).bind fun r19 => (f57 r19.2 r19.1).bind fun r21 => (f162 108 r21.2 r21.1).bind fun r23 => some r23 := by
  unfold f58
  rw [e8, Option.bind_some]
  dsimp only
  repeat refine ite_no (by decide) ?_
  exact ite_yes (by decide) rfl
theorem f58_15 {μ : Mem} (e8 : f23 μ = some (μ, nI 15)) : f58 μ = (f22 (0 : Int32) μ).bind fun r35 => (f59 r35.2 r35.1).bind fun r37 => some r37 := by
  unfold f58
  rw [e8, Option.bind_some]
  dsimp only
  repeat refine ite_no (by decide) ?_
  exact ite_yes (by decide) rfl
theorem f58_16 {μ : Mem} (e8 : f23 μ = some (μ, nI 16)) : f58 μ = (f60 μ).bind fun r40 => some r40 := by
  unfold f58
  rw [e8, Option.bind_some]
  dsimp only
  repeat refine ite_no (by decide) ?_
  exact ite_yes (by decide) rfl
theorem f58_20 {μ : Mem} (e8 : f23 μ = some (μ, nI 20)) : f58 μ = (f20 (0 : Int32) μ).bind fun r46 => (pfI 101 12 ((μ.1 101 12) &&& ((jshl (1 : Int32) r46.2) ^^^ (-1 : Int32))) r46.1).bind fun m48 => some m48 := by
  unfold f58
  rw [e8, Option.bind_some]
  dsimp only
  repeat refine ite_no (by decide) ?_
  exact ite_yes (by decide) rfl
theorem f58_21 {μ : Mem} (e8 : f23 μ = some (μ, nI 21)) : f58 μ = (f20 (0 : Int32) μ).bind fun r51 => (pfI 101 12 ((μ.1 101 12) ||| (jshl (1 : Int32) r51.2)) r51.1).bind fun m53 => some m53 := by
  unfold f58
  rw [e8, Option.bind_some]
  dsimp only
  repeat refine ite_no (by decide) ?_
  exact ite_yes (by decide) rfl
theorem act11_C {μ : Mem} {s : Tw} {bs : List Nat} {tk : Nat} (h : Byt μ 122 bs) (hS : ScC μ s) (hE : EnI s.2.2) (hP : Pkg bs) (h7 : bs.getD 7 0 = 11) (hw : why11 tk s bs = 0) (q : bs.getD 8 0 ≠ 16) : wp (f58 μ) (fun m => ScC m (act11 s bs) ∧ Fr (fun c k => c = 101 ∧ (k = 12 ∨ k = 13) ∨ 108 ≤ c ∧ c ≤ 113) μ m) := by
  have e8 := sub_C h
  have e11 := arg_C h (i := 0) (by omega)
  have b8 := h.get 8
  have hl := hE.1
  have hs := hP.s11 h7
  have h1 := h.1
  have hl60 := hP.2.1
  have g1 : gln (108 + 1) = 640 := gl_109
  have g2 : gln (108 + 2) = 16 := gl_110
  rw [show 11 + 0 = 11 from rfl] at e11
  unfold act11
  by_cases q1 : bs.getD 8 0 = 1
  · rw [q1] at e8
    rw [if_pos q1, f58_1 e8]
    simp (disch := omega) only [i_0, i_1, i_2, i_3, i_4, i_5, i_6, i_7, i_8, i_9, i_10, i_11, i_12, i_13, i_14, i_15, i_16, i_17, i_18, i_19, i_20, i_21, i_22, i_23, i_24, i_25, i_26, i_27, i_31, i_32, i_40, i_42, i_45, i_48, i_51, i_52, i_56, i_58, i_59, i_60, i_61, i_62, i_63, i_64, i_85, i_90, i_100, i_112, i_120, i_121, i_127, i_128, i_130, i_144, i_171, i_192, i_193, i_197, i_200, i_207, i_235, i_240, i_248, i_252, i_254, i_255, i_256, i_512, i_544, i_768, i_769, i_793, i_1000, i_1023, i_1024, i_1200, i_1538, i_1541, i_1545, i_2046, i_2047, i_2049, i_2060, i_2736, i_2737, i_2817, i_2818, i_2819, i_2820, i_2821, i_2831, i_2832, i_3077, i_3085, i_3843, i_3849, i_3851, i_3852, i_4129, i_4353, i_4865, i_5121, i_5122, i_5123, i_6156, i_8192, i_12288, i_16383, i_32000, i_33280, i_49152, i_53247, i_60304, i_64000, i_64512, i_65521, i_65535, i_449838109, nI_add, pk_mul, pk_sub, nI_mm, nI_leI, nI_ltI, nI_eq, pk_div, jrem_N, jshl_N, jshr_N, jushr_N, jmin_N, jmax_N, an_1, an_3, an_7, an_15, an_31, an_63, an_127, an_255, an_1023, an_2047, an_16383, an_65535, nm, pfI, rdI, rdW, rdL, rdI2, rdW2, ldA_N, stA_N, stB_N, stZ_N, pfZ_0, pfZ_1, rtZ_0, rtZ_1, acp_N, Option.bind_some, wp_some_iff, true_and, and_true, false_and, and_false, or_true, true_or, or_false, false_or, not_true_eq_false, not_false_eq_true, if_true, if_false, if_pos, if_neg, lt_sub, le_sub, sub_lt3, sub_le3, Option.bind_assoc]
    exact ⟨⟨by simp (disch := omega) only [i_0, i_1, i_2, i_3, i_4, i_5, i_6, i_7, i_8, i_9, i_10, i_11, i_12, i_13, i_14, i_15, i_16, i_17, i_18, i_19, i_20, i_21, i_22, i_23, i_24, i_25, i_26, i_27, i_31, i_32, i_40, i_42, i_45, i_48, i_51, i_52, i_56, i_58, i_59, i_60, i_61, i_62, i_63, i_64, i_85, i_90, i_100, i_112, i_120, i_121, i_127, i_128, i_130, i_144, i_171, i_192, i_193, i_197, i_200, i_207, i_235, i_240, i_248, i_252, i_254, i_255, i_256, i_512, i_544, i_768, i_769, i_793, i_1000, i_1023, i_1024, i_1200, i_1538, i_1541, i_1545, i_2046, i_2047, i_2049, i_2060, i_2736, i_2737, i_2817, i_2818, i_2819, i_2820, i_2821, i_2831, i_2832, i_3077, i_3085, i_3843, i_3849, i_3851, i_3852, i_4129, i_4353, i_4865, i_5121, i_5122, i_5123, i_6156, i_8192, i_12288, i_16383, i_32000, i_33280, i_49152, i_53247, i_60304, i_64000, i_64512, i_65521, i_65535, i_449838109, nI_add, pk_mul, pk_sub, nI_mm, nI_leI, nI_ltI, nI_eq, pk_div, jrem_N, jshl_N, jshr_N, jushr_N, jmin_N, jmax_N, an_1, an_3, an_7, an_15, an_31, an_63, an_127, an_255, an_1023, an_2047, an_16383, an_65535, nm, pfI, rdI, rdW, rdL, rdI2, rdW2, ldA_N, stA_N, stB_N, stZ_N, pfZ_0, pfZ_1, rtZ_0, rtZ_1, acp_N, Option.bind_some, wp_some_iff, true_and, and_true, false_and, and_false, or_true, true_or, or_false, false_or, not_true_eq_false, not_false_eq_true, if_true, if_false, if_pos, if_neg, lt_sub, le_sub, sub_lt3, sub_le3, Option.bind_assoc]; rfl, by simp (disch := omega) only [i_0, i_1, i_2, i_3, i_4, i_5, i_6, i_7, i_8, i_9, i_10, i_11, i_12, i_13, i_14, i_15, i_16, i_17, i_18, i_19, i_20, i_21, i_22, i_23, i_24, i_25, i_26, i_27, i_31, i_32, i_40, i_42, i_45, i_48, i_51, i_52, i_56, i_58, i_59, i_60, i_61, i_62, i_63, i_64, i_85, i_90, i_100, i_112, i_120, i_121, i_127, i_128, i_130, i_144, i_171, i_192, i_193, i_197, i_200, i_207, i_235, i_240, i_248, i_252, i_254, i_255, i_256, i_512, i_544, i_768, i_769, i_793, i_1000, i_1023, i_1024, i_1200, i_1538, i_1541, i_1545, i_2046, i_2047, i_2049, i_2060, i_2736, i_2737, i_2817, i_2818, i_2819, i_2820, i_2821, i_2831, i_2832, i_3077, i_3085, i_3843, i_3849, i_3851, i_3852, i_4129, i_4353, i_4865, i_5121, i_5122, i_5123, i_6156, i_8192, i_12288, i_16383, i_32000, i_33280, i_49152, i_53247, i_60304, i_64000, i_64512, i_65521, i_65535, i_449838109, nI_add, pk_mul, pk_sub, nI_mm, nI_leI, nI_ltI, nI_eq, pk_div, jrem_N, jshl_N, jshr_N, jushr_N, jmin_N, jmax_N, an_1, an_3, an_7, an_15, an_31, an_63, an_127, an_255, an_1023, an_2047, an_16383, an_65535, nm, pfI, rdI, rdW, rdL, rdI2, rdW2, ldA_N, stA_N, stB_N, stZ_N, pfZ_0, pfZ_1, rtZ_0, rtZ_1, acp_N, Option.bind_some, wp_some_iff, true_and, and_true, false_and, and_false, or_true, true_or, or_false, false_or, not_true_eq_false, not_false_eq_true, if_true, if_false, if_pos, if_neg, lt_sub, le_sub, sub_lt3, sub_le3, Option.bind_assoc]; exact hS.2.1, hS.2.2.fr (P := fun c k => c = 101 ∧ k = 13) (Fr.sI ⟨rfl, rfl⟩) (fun c k _ _ => by omega)⟩, Fr.sI (by omega)⟩
  · rw [if_neg q1]
    by_cases q2 : bs.getD 8 0 = 2
    · rw [q2] at e8
      rw [if_pos q2, f58_2 e8]
      simp (disch := omega) only [i_0, i_1, i_2, i_3, i_4, i_5, i_6, i_7, i_8, i_9, i_10, i_11, i_12, i_13, i_14, i_15, i_16, i_17, i_18, i_19, i_20, i_21, i_22, i_23, i_24, i_25, i_26, i_27, i_31, i_32, i_40, i_42, i_45, i_48, i_51, i_52, i_56, i_58, i_59, i_60, i_61, i_62, i_63, i_64, i_85, i_90, i_100, i_112, i_120, i_121, i_127, i_128, i_130, i_144, i_171, i_192, i_193, i_197, i_200, i_207, i_235, i_240, i_248, i_252, i_254, i_255, i_256, i_512, i_544, i_768, i_769, i_793, i_1000, i_1023, i_1024, i_1200, i_1538, i_1541, i_1545, i_2046, i_2047, i_2049, i_2060, i_2736, i_2737, i_2817, i_2818, i_2819, i_2820, i_2821, i_2831, i_2832, i_3077, i_3085, i_3843, i_3849, i_3851, i_3852, i_4129, i_4353, i_4865, i_5121, i_5122, i_5123, i_6156, i_8192, i_12288, i_16383, i_32000, i_33280, i_49152, i_53247, i_60304, i_64000, i_64512, i_65521, i_65535, i_449838109, nI_add, pk_mul, pk_sub, nI_mm, nI_leI, nI_ltI, nI_eq, pk_div, jrem_N, jshl_N, jshr_N, jushr_N, jmin_N, jmax_N, an_1, an_3, an_7, an_15, an_31, an_63, an_127, an_255, an_1023, an_2047, an_16383, an_65535, nm, pfI, rdI, rdW, rdL, rdI2, rdW2, ldA_N, stA_N, stB_N, stZ_N, pfZ_0, pfZ_1, rtZ_0, rtZ_1, acp_N, Option.bind_some, wp_some_iff, true_and, and_true, false_and, and_false, or_true, true_or, or_false, false_or, not_true_eq_false, not_false_eq_true, if_true, if_false, if_pos, if_neg, lt_sub, le_sub, sub_lt3, sub_le3, Option.bind_assoc]
      exact ⟨⟨by simp (disch := omega) only [i_0, i_1, i_2, i_3, i_4, i_5, i_6, i_7, i_8, i_9, i_10, i_11, i_12, i_13, i_14, i_15, i_16, i_17, i_18, i_19, i_20, i_21, i_22, i_23, i_24, i_25, i_26, i_27, i_31, i_32, i_40, i_42, i_45, i_48, i_51, i_52, i_56, i_58, i_59, i_60, i_61, i_62, i_63, i_64, i_85, i_90, i_100, i_112, i_120, i_121, i_127, i_128, i_130, i_144, i_171, i_192, i_193, i_197, i_200, i_207, i_235, i_240, i_248, i_252, i_254, i_255, i_256, i_512, i_544, i_768, i_769, i_793, i_1000, i_1023, i_1024, i_1200, i_1538, i_1541, i_1545, i_2046, i_2047, i_2049, i_2060, i_2736, i_2737, i_2817, i_2818, i_2819, i_2820, i_2821, i_2831, i_2832, i_3077, i_3085, i_3843, i_3849, i_3851, i_3852, i_4129, i_4353, i_4865, i_5121, i_5122, i_5123, i_6156, i_8192, i_12288, i_16383, i_32000, i_33280, i_49152, i_53247, i_60304, i_64000, i_64512, i_65521, i_65535, i_449838109, nI_add, pk_mul, pk_sub, nI_mm, nI_leI, nI_ltI, nI_eq, pk_div, jrem_N, jshl_N, jshr_N, jushr_N, jmin_N, jmax_N, an_1, an_3, an_7, an_15, an_31, an_63, an_127, an_255, an_1023, an_2047, an_16383, an_65535, nm, pfI, rdI, rdW, rdL, rdI2, rdW2, ldA_N, stA_N, stB_N, stZ_N, pfZ_0, pfZ_1, rtZ_0, rtZ_1, acp_N, Option.bind_some, wp_some_iff, true_and, and_true, false_and, and_false, or_true, true_or, or_false, false_or, not_true_eq_false, not_false_eq_true, if_true, if_false, if_pos, if_neg, lt_sub, le_sub, sub_lt3, sub_le3, Option.bind_assoc]; rfl, by simp (disch := omega) only [i_0, i_1, i_2, i_3, i_4, i_5, i_6, i_7, i_8, i_9, i_10, i_11, i_12, i_13, i_14, i_15, i_16, i_17, i_18, i_19, i_20, i_21, i_22, i_23, i_24, i_25, i_26, i_27, i_31, i_32, i_40, i_42, i_45, i_48, i_51, i_52, i_56, i_58, i_59, i_60, i_61, i_62, i_63, i_64, i_85, i_90, i_100, i_112, i_120, i_121, i_127, i_128, i_130, i_144, i_171, i_192, i_193, i_197, i_200, i_207, i_235, i_240, i_248, i_252, i_254, i_255, i_256, i_512, i_544, i_768, i_769, i_793, i_1000, i_1023, i_1024, i_1200, i_1538, i_1541, i_1545, i_2046, i_2047, i_2049, i_2060, i_2736, i_2737, i_2817, i_2818, i_2819, i_2820, i_2821, i_2831, i_2832, i_3077, i_3085, i_3843, i_3849, i_3851, i_3852, i_4129, i_4353, i_4865, i_5121, i_5122, i_5123, i_6156, i_8192, i_12288, i_16383, i_32000, i_33280, i_49152, i_53247, i_60304, i_64000, i_64512, i_65521, i_65535, i_449838109, nI_add, pk_mul, pk_sub, nI_mm, nI_leI, nI_ltI, nI_eq, pk_div, jrem_N, jshl_N, jshr_N, jushr_N, jmin_N, jmax_N, an_1, an_3, an_7, an_15, an_31, an_63, an_127, an_255, an_1023, an_2047, an_16383, an_65535, nm, pfI, rdI, rdW, rdL, rdI2, rdW2, ldA_N, stA_N, stB_N, stZ_N, pfZ_0, pfZ_1, rtZ_0, rtZ_1, acp_N, Option.bind_some, wp_some_iff, true_and, and_true, false_and, and_false, or_true, true_or, or_false, false_or, not_true_eq_false, not_false_eq_true, if_true, if_false, if_pos, if_neg, lt_sub, le_sub, sub_lt3, sub_le3, Option.bind_assoc]; exact hS.2.1, hS.2.2.fr (P := fun c k => c = 101 ∧ k = 13) (Fr.sI ⟨rfl, rfl⟩) (fun c k _ _ => by omega)⟩, Fr.sI (by omega)⟩
    · rw [if_neg q2]
      by_cases q3 : bs.getD 8 0 = 3
      · rw [q3] at e8
        rw [if_pos q3, f58_3 e8]
        refine wp_bind (shclear_C hS.2.2) (fun m ⟨a1, a2⟩ => wp_some ⟨⟨?_, ?_, a1⟩, a2.mono (by intro c k h; omega)⟩)
        · rw [a2.1 _ _ (by omega)]; exact hS.1
        · rw [a2.1 _ _ (by omega)]; exact hS.2.1
      · rw [if_neg q3]
        by_cases q4 : bs.getD 8 0 = 4
        · rw [if_pos q4]
          obtain ⟨w1, w2, w3⟩ := why11_4 q4 hw
          have e12 := arg4_C h (i := 1) (by omega)
          rw [show 11 + 1 = 12 from rfl] at e12
          have hxl := xs11_len (bs := bs)
          have ho := off_c (c := 40) (fun i hi => (hE.2 i hi).1) s.2.2.length (Nat.le_refl _)
          rw [q4] at e8
          rw [f58_4 e8]
          simp (disch := omega) only [i_0, i_1, i_2, i_3, i_4, i_5, i_6, i_7, i_8, i_9, i_10, i_11, i_12, i_13, i_14, i_15, i_16, i_17, i_18, i_19, i_20, i_21, i_22, i_23, i_24, i_25, i_26, i_27, i_31, i_32, i_40, i_42, i_45, i_48, i_51, i_52, i_56, i_58, i_59, i_60, i_61, i_62, i_63, i_64, i_85, i_90, i_100, i_112, i_120, i_121, i_127, i_128, i_130, i_144, i_171, i_192, i_193, i_197, i_200, i_207, i_235, i_240, i_248, i_252, i_254, i_255, i_256, i_512, i_544, i_768, i_769, i_793, i_1000, i_1023, i_1024, i_1200, i_1538, i_1541, i_1545, i_2046, i_2047, i_2049, i_2060, i_2736, i_2737, i_2817, i_2818, i_2819, i_2820, i_2821, i_2831, i_2832, i_3077, i_3085, i_3843, i_3849, i_3851, i_3852, i_4129, i_4353, i_4865, i_5121, i_5122, i_5123, i_6156, i_8192, i_12288, i_16383, i_32000, i_33280, i_49152, i_53247, i_60304, i_64000, i_64512, i_65521, i_65535, i_449838109, nI_add, pk_mul, pk_sub, nI_mm, nI_leI, nI_ltI, nI_eq, pk_div, jrem_N, jshl_N, jshr_N, jushr_N, jmin_N, jmax_N, an_1, an_3, an_7, an_15, an_31, an_63, an_127, an_255, an_1023, an_2047, an_16383, an_65535, nm, pfI, rdI, rdW, rdL, rdI2, rdW2, ldA_N, stA_N, stB_N, stZ_N, pfZ_0, pfZ_1, rtZ_0, rtZ_1, acp_N, Option.bind_some, wp_some_iff, true_and, and_true, false_and, and_false, or_true, true_or, or_false, false_or, not_true_eq_false, not_false_eq_true, if_true, if_false, if_pos, if_neg, lt_sub, le_sub, sub_lt3, sub_le3, Option.bind_assoc, e12, e11, h1]
          rw [show bs.length - 13 - 5 = (xs11 bs).length by omega]
          refine wp_bind (shadd_C (xs := xs11 bs) (b := 16) (tag := nI (w4l bs 12)) (mark := nI (bs.getD 11 0)) hS.2.2 h (by omega) (by rw [hxl]; rfl) (by omega)) (fun r ⟨c1, c2⟩ => ?_)
          rw [if_pos ⟨by omega, by omega⟩] at c1
          refine wp_some ⟨⟨?_, ?_, c1.2⟩, c2.mono (by intro c k h; omega)⟩
          · rw [c2.1 _ _ (by omega)]; exact hS.1
          · rw [c2.1 _ _ (by omega)]; exact hS.2.1
        · rw [if_neg q4]
          by_cases q5 : bs.getD 8 0 = 5
          · rw [if_pos q5]
            obtain ⟨n, hf⟩ := why11_5 q5 hw
            have e2 := arg2_C h (i := 0) (by omega)
            rw [show 11 + 0 = 11 from rfl] at e2
            have ef := fc_C hS.2.2 hE (w2_lt (k := 11) h.2.2.2)
            rw [hf] at ef
            dsimp only at ef
            have hn := (nth_lt (fcN_some hf)).1
            rw [hf]
            dsimp only
            rw [q5] at e8
            rw [f58_5 e8]
            simp (disch := omega) only [i_0, i_1, i_2, i_3, i_4, i_5, i_6, i_7, i_8, i_9, i_10, i_11, i_12, i_13, i_14, i_15, i_16, i_17, i_18, i_19, i_20, i_21, i_22, i_23, i_24, i_25, i_26, i_27, i_31, i_32, i_40, i_42, i_45, i_48, i_51, i_52, i_56, i_58, i_59, i_60, i_61, i_62, i_63, i_64, i_85, i_90, i_100, i_112, i_120, i_121, i_127, i_128, i_130, i_144, i_171, i_192, i_193, i_197, i_200, i_207, i_235, i_240, i_248, i_252, i_254, i_255, i_256, i_512, i_544, i_768, i_769, i_793, i_1000, i_1023, i_1024, i_1200, i_1538, i_1541, i_1545, i_2046, i_2047, i_2049, i_2060, i_2736, i_2737, i_2817, i_2818, i_2819, i_2820, i_2821, i_2831, i_2832, i_3077, i_3085, i_3843, i_3849, i_3851, i_3852, i_4129, i_4353, i_4865, i_5121, i_5122, i_5123, i_6156, i_8192, i_12288, i_16383, i_32000, i_33280, i_49152, i_53247, i_60304, i_64000, i_64512, i_65521, i_65535, i_449838109, nI_add, pk_mul, pk_sub, nI_mm, nI_leI, nI_ltI, nI_eq, pk_div, jrem_N, jshl_N, jshr_N, jushr_N, jmin_N, jmax_N, an_1, an_3, an_7, an_15, an_31, an_63, an_127, an_255, an_1023, an_2047, an_16383, an_65535, nm, pfI, rdI, rdW, rdL, rdI2, rdW2, ldA_N, stA_N, stB_N, stZ_N, pfZ_0, pfZ_1, rtZ_0, rtZ_1, acp_N, Option.bind_some, wp_some_iff, true_and, and_true, false_and, and_false, or_true, true_or, or_false, false_or, not_true_eq_false, not_false_eq_true, if_true, if_false, if_pos, if_neg, lt_sub, le_sub, sub_lt3, sub_le3, Option.bind_assoc, e2, ef]
            refine wp_bind (shrem_C hS.2.2 hn) (fun m ⟨c1, c2⟩ => wp_some ⟨⟨?_, ?_, c1⟩, c2.mono (by intro c k h; omega)⟩)
            · rw [c2.1 _ _ (by omega)]; exact hS.1
            · rw [c2.1 _ _ (by omega)]; exact hS.2.1
          · rw [if_neg q5]
            by_cases q15 : bs.getD 8 0 = 15
            · rw [if_pos q15]
              have e4 := arg4_C h (i := 0) (by omega)
              rw [show 11 + 0 = 11 from rfl] at e4
              generalize w4l bs 11 = v at *
              rw [q15] at e8
              rw [f58_15 e8]
              simp (disch := omega) only [i_0, i_1, i_2, i_3, i_4, i_5, i_6, i_7, i_8, i_9, i_10, i_11, i_12, i_13, i_14, i_15, i_16, i_17, i_18, i_19, i_20, i_21, i_22, i_23, i_24, i_25, i_26, i_27, i_31, i_32, i_40, i_42, i_45, i_48, i_51, i_52, i_56, i_58, i_59, i_60, i_61, i_62, i_63, i_64, i_85, i_90, i_100, i_112, i_120, i_121, i_127, i_128, i_130, i_144, i_171, i_192, i_193, i_197, i_200, i_207, i_235, i_240, i_248, i_252, i_254, i_255, i_256, i_512, i_544, i_768, i_769, i_793, i_1000, i_1023, i_1024, i_1200, i_1538, i_1541, i_1545, i_2046, i_2047, i_2049, i_2060, i_2736, i_2737, i_2817, i_2818, i_2819, i_2820, i_2821, i_2831, i_2832, i_3077, i_3085, i_3843, i_3849, i_3851, i_3852, i_4129, i_4353, i_4865, i_5121, i_5122, i_5123, i_6156, i_8192, i_12288, i_16383, i_32000, i_33280, i_49152, i_53247, i_60304, i_64000, i_64512, i_65521, i_65535, i_449838109, nI_add, pk_mul, pk_sub, nI_mm, nI_leI, nI_ltI, nI_eq, pk_div, jrem_N, jshl_N, jshr_N, jushr_N, jmin_N, jmax_N, an_1, an_3, an_7, an_15, an_31, an_63, an_127, an_255, an_1023, an_2047, an_16383, an_65535, nm, pfI, rdI, rdW, rdL, rdI2, rdW2, ldA_N, stA_N, stB_N, stZ_N, pfZ_0, pfZ_1, rtZ_0, rtZ_1, acp_N, Option.bind_some, wp_some_iff, true_and, and_true, false_and, and_false, or_true, true_or, or_false, false_or, not_true_eq_false, not_false_eq_true, if_true, if_false, if_pos, if_neg, lt_sub, le_sub, sub_lt3, sub_le3, Option.bind_assoc, e4]
              unfold f59 l59_2
              rw [i_0]
              refine wp_bind (P := fun m => ScC m (s.1, s.2.1, shE s.2.2 v s.2.2.length) ∧ Fr (fun c k => c = 101 ∧ (k = 12 ∨ k = 13) ∨ 108 ≤ c ∧ c ≤ 113) μ m) ?_ (fun m h => wp_some h)
              refine wp_for (fun i m => (nI v, nI i, m)) (fun i m => Shf m 108 (shE s.2.2 v i) ∧ Fr (FS 108) μ m) s.2.2.length (by omega) μ _ rfl ⟨hS.2.2, Fr.rf⟩ (fun self i m hi ⟨x1, x2⟩ hk => ?_) (fun self m ⟨x1, x2⟩ => ?_)
              · have hi2 : i < (shE s.2.2 v i).length := by rw [shE_len]; exact hi
                have x5 := x1.1
                rw [shE_len] at x5
                obtain ⟨_, _, ⟨t1, t2⟩, _⟩ := hE.2 i hi
                have p := shE_pk (es := s.2.2) (v := v) i (by omega) i
                rw [if_neg (by omega)] at p
                have e1 := tagOf_y x1 hi2
                rw [p, t2] at e1
                unfold b59_2
                rw [x5, if_neg (fun z => by have := (nI_leI (by omega) (by omega)).mp z; omega), e1, Option.bind_some]
                dsimp only
                have st := setTag_C (v := nI (tm s.2.2 i) + nI v) x1 hi2
                rw [p] at st
                refine wp_bind st (fun m2 ⟨c1, c2⟩ => ?_)
                dsimp only [nm]
                rw [i_1, nI_add]
                exact hk m2 ⟨c1, x2.tr' c2⟩
              · have x5 := x1.1
                rw [shE_len] at x5
                unfold b59_2
                rw [x5, if_pos ((nI_leI (by omega) (by omega)).mpr (Nat.le_refl _))]
                refine wp_some ⟨⟨?_, ?_, x1⟩, x2.mono (by intro c k h; omega)⟩
                · rw [x2.1 _ _ (by omega)]; exact hS.1
                · rw [x2.1 _ _ (by omega)]; exact hS.2.1
            · rw [if_neg q15]
              have f1 : ∀ x, Fr (fun c k => c = 101 ∧ k = 12) μ (setI μ 101 12 x) := fun x => Fr.sI ⟨rfl, rfl⟩
              have r1 : ∀ x, (setI μ 101 12 x).1 101 12 = x := fun x => by rw [rdI, if_pos ⟨rfl, rfl⟩]
              have r2 : ∀ x, (setI μ 101 12 x).1 101 13 = μ.1 101 13 := fun x => by rw [rdI, if_neg (by omega)]
              have en : ∀ x g, MkC x 4 g → ScC (setI μ 101 12 x) (s.1, g, s.2.2) := fun x g hg => ⟨by rw [r2]; exact hS.1, by rw [r1]; exact hg, hS.2.2.fr (f1 x) (fun c k _ _ => by omega)⟩
              by_cases q20 : bs.getD 8 0 = 20
              · rw [if_pos q20]
                have w1 := why11_g (Or.inl q20) hw
                have mk := hS.2.1.off (e := bs.getD 11 0) (by omega) (by omega)
                have ex : jshl (nI 1) (nI (bs.getD 11 0)) = jshl (nI 1) (nI (bs.getD 11 0)) := rfl
                generalize hX : jshl (nI 1) (nI (bs.getD 11 0)) = X at *
                rw [q20] at e8
                rw [f58_20 e8]
                simp (disch := omega) only [i_0, i_1, i_2, i_3, i_4, i_5, i_6, i_7, i_8, i_9, i_10, i_11, i_12, i_13, i_14, i_15, i_16, i_17, i_18, i_19, i_20, i_21, i_22, i_23, i_24, i_25, i_26, i_27, i_31, i_32, i_40, i_42, i_45, i_48, i_51, i_52, i_56, i_58, i_59, i_60, i_61, i_62, i_63, i_64, i_85, i_90, i_100, i_112, i_120, i_121, i_127, i_128, i_130, i_144, i_171, i_192, i_193, i_197, i_200, i_207, i_235, i_240, i_248, i_252, i_254, i_255, i_256, i_512, i_544, i_768, i_769, i_793, i_1000, i_1023, i_1024, i_1200, i_1538, i_1541, i_1545, i_2046, i_2047, i_2049, i_2060, i_2736, i_2737, i_2817, i_2818, i_2819, i_2820, i_2821, i_2831, i_2832, i_3077, i_3085, i_3843, i_3849, i_3851, i_3852, i_4129, i_4353, i_4865, i_5121, i_5122, i_5123, i_6156, i_8192, i_12288, i_16383, i_32000, i_33280, i_49152, i_53247, i_60304, i_64000, i_64512, i_65521, i_65535, i_449838109, nI_add, pk_mul, pk_sub, nI_mm, nI_leI, nI_ltI, nI_eq, pk_div, jrem_N, jshl_N, jshr_N, jushr_N, jmin_N, jmax_N, an_1, an_3, an_7, an_15, an_31, an_63, an_127, an_255, an_1023, an_2047, an_16383, an_65535, nm, pfI, rdI, rdW, rdL, rdI2, rdW2, ldA_N, stA_N, stB_N, stZ_N, pfZ_0, pfZ_1, rtZ_0, rtZ_1, acp_N, Option.bind_some, wp_some_iff, true_and, and_true, false_and, and_false, or_true, true_or, or_false, false_or, not_true_eq_false, not_false_eq_true, if_true, if_false, if_pos, if_neg, lt_sub, le_sub, sub_lt3, sub_le3, Option.bind_assoc, e11]
                try rw [hX]
                exact ⟨en _ _ mk, (f1 _).mono (by intro c k h; omega)⟩
              · rw [if_neg q20]
                have q21 : bs.getD 8 0 = 21 := by omega
                rw [if_pos q21]
                have w1 := why11_g (Or.inr q21) hw
                have mk := hS.2.1.on (e := bs.getD 11 0) (by omega) (by omega)
                generalize hX : jshl (nI 1) (nI (bs.getD 11 0)) = X at *
                rw [q21] at e8
                rw [f58_21 e8]
                simp (disch := omega) only [i_0, i_1, i_2, i_3, i_4, i_5, i_6, i_7, i_8, i_9, i_10, i_11, i_12, i_13, i_14, i_15, i_16, i_17, i_18, i_19, i_20, i_21, i_22, i_23, i_24, i_25, i_26, i_27, i_31, i_32, i_40, i_42, i_45, i_48, i_51, i_52, i_56, i_58, i_59, i_60, i_61, i_62, i_63, i_64, i_85, i_90, i_100, i_112, i_120, i_121, i_127, i_128, i_130, i_144, i_171, i_192, i_193, i_197, i_200, i_207, i_235, i_240, i_248, i_252, i_254, i_255, i_256, i_512, i_544, i_768, i_769, i_793, i_1000, i_1023, i_1024, i_1200, i_1538, i_1541, i_1545, i_2046, i_2047, i_2049, i_2060, i_2736, i_2737, i_2817, i_2818, i_2819, i_2820, i_2821, i_2831, i_2832, i_3077, i_3085, i_3843, i_3849, i_3851, i_3852, i_4129, i_4353, i_4865, i_5121, i_5122, i_5123, i_6156, i_8192, i_12288, i_16383, i_32000, i_33280, i_49152, i_53247, i_60304, i_64000, i_64512, i_65521, i_65535, i_449838109, nI_add, pk_mul, pk_sub, nI_mm, nI_leI, nI_ltI, nI_eq, pk_div, jrem_N, jshl_N, jshr_N, jushr_N, jmin_N, jmax_N, an_1, an_3, an_7, an_15, an_31, an_63, an_127, an_255, an_1023, an_2047, an_16383, an_65535, nm, pfI, rdI, rdW, rdL, rdI2, rdW2, ldA_N, stA_N, stB_N, stZ_N, pfZ_0, pfZ_1, rtZ_0, rtZ_1, acp_N, Option.bind_some, wp_some_iff, true_and, and_true, false_and, and_false, or_true, true_or, or_false, false_or, not_true_eq_false, not_false_eq_true, if_true, if_false, if_pos, if_neg, lt_sub, le_sub, sub_lt3, sub_le3, Option.bind_assoc, e11]
                try rw [hX]
                exact ⟨en _ _ mk, (f1 _).mono (by intro c k h; omega)⟩
